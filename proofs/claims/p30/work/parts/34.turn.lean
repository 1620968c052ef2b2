theorem kL_134 : zLkV RL 134 yX6_set cX6_set 3 (some .int) 2 := ⟨⟨wd_335, wd_336, wd_337, wd_2, wd_338⟩, by decide +kernel⟩
theorem kL_131 : zLkV RL 131 yX6_addSpares cX6_addSpares 2 (some .int) 1 := ⟨⟨wd_327, wd_328, wd_329, wd_2, wd_330⟩, by decide +kernel⟩
theorem kL_128 : zLkV RL 128 yX6_setWay cX6_setWay 2 (some .int) 1 := ⟨⟨wd_319, wd_320, wd_321, wd_2, wd_322⟩, by decide +kernel⟩
theorem kL_125 : zLkV RL 125 yX6_giveUp cX6_giveUp 1 (some .int) 0 := ⟨⟨wd_311, wd_312, wd_313, wd_2, wd_314⟩, by decide +kernel⟩
theorem kL_122 : zLkV RL 122 yX6_quiet cX6_quiet 2 (some .int) 1 := ⟨⟨wd_256, wd_257, wd_258, wd_2, wd_259⟩, by decide +kernel⟩
theorem kL_119 : zLkV RL 119 yX6_read cX6_read 3 (some .int) 2 := ⟨⟨wd_221, wd_222, wd_223, wd_2, wd_224⟩, by decide +kernel⟩
theorem kL_116 : zLkV RL 116 yX6_unask cX6_unask 2 (some .int) 1 := ⟨⟨wd_205, wd_206, wd_207, wd_2, wd_208⟩, by decide +kernel⟩
theorem kL_113 : zLkV RL 113 yX6_ask cX6_ask 2 (some .int) 1 := ⟨⟨wd_186, wd_187, wd_188, wd_2, wd_189⟩, by decide +kernel⟩
theorem kL_110 : zLkV RL 110 yX6_spot cX6_spot 3 (some .int) 2 := ⟨⟨wd_130, wd_131, wd_132, wd_2, wd_133⟩, by decide +kernel⟩
noncomputable def q_L_turn_J1088 (u : Nat → Int32) (u1 : Nat → Int32) (u2 : Nat → Int32) (u3 : Nat → Int32) (u4 : Nat → Int32) (u5 : tX6) (r993 : Int32) (y1088_0 : Int32) : Option ((Nat → Int32) × (Nat → Int32) × (Nat → Int32) × (Nat → Int32) × (Nat → Int32) × tX6) :=
  zb (q_X6_set u5 r993 y1088_0) fun r1095 => zg 20 u (15 + r993) fun a1104 => (if r1095.1 = a1104 then zs 20 u (15 + r993) y1088_0 fun s1118 => some (s1118, u1, u2, u3, u4, ((r1095.2.1, u5.1.2.1, u5.1.2.2.1, u5.1.2.2.2.1, u5.1.2.2.2.2.1, u5.1.2.2.2.2.2.1, u5.1.2.2.2.2.2.2.1, u5.1.2.2.2.2.2.2.2.1, u5.1.2.2.2.2.2.2.2.2.1, u5.1.2.2.2.2.2.2.2.2.2.1, u5.1.2.2.2.2.2.2.2.2.2.2.1, u5.1.2.2.2.2.2.2.2.2.2.2.2.1, u5.1.2.2.2.2.2.2.2.2.2.2.2.2.1, u5.1.2.2.2.2.2.2.2.2.2.2.2.2.2.1, u5.1.2.2.2.2.2.2.2.2.2.2.2.2.2.2.1, u5.1.2.2.2.2.2.2.2.2.2.2.2.2.2.2.2.1, u5.1.2.2.2.2.2.2.2.2.2.2.2.2.2.2.2.2), u5.2.1, r1095.2.2, u5.2.2.2.1, u5.2.2.2.2)) else none)
noncomputable def q_L_turn_J985 (u : Nat → Int32) (u1 : Nat → Int32) (u2 : Nat → Int32) (u3 : Nat → Int32) (u4 : Nat → Int32) (u5 : tX6) (r946 : Int32 × Int32 × tX2) (y985_3 : Int32) : Option ((Nat → Int32) × (Nat → Int32) × (Nat → Int32) × (Nat → Int32) × (Nat → Int32) × tX6) :=
  zn (upd u 3 ((u 3) + y985_3)) fun s986 => some (s986, u1, u2, u3, u4, ((u5.1.1, u5.1.2.1, u5.1.2.2.1, u5.1.2.2.2.1, u5.1.2.2.2.2.1, u5.1.2.2.2.2.2.1, r946.2.1, u5.1.2.2.2.2.2.2.2.1, u5.1.2.2.2.2.2.2.2.2.1, u5.1.2.2.2.2.2.2.2.2.2.1, u5.1.2.2.2.2.2.2.2.2.2.2.1, u5.1.2.2.2.2.2.2.2.2.2.2.2.1, u5.1.2.2.2.2.2.2.2.2.2.2.2.2.1, u5.1.2.2.2.2.2.2.2.2.2.2.2.2.2.1, u5.1.2.2.2.2.2.2.2.2.2.2.2.2.2.2.1, u5.1.2.2.2.2.2.2.2.2.2.2.2.2.2.2.2.1, u5.1.2.2.2.2.2.2.2.2.2.2.2.2.2.2.2.2), u5.2.1, r946.2.2, u5.2.2.2.1, u5.2.2.2.2))
noncomputable def q_L_turn_J965 (u : Nat → Int32) (u1 : Nat → Int32) (u2 : Nat → Int32) (u3 : Nat → Int32) (u4 : Nat → Int32) (u5 : tX6) (r919 : Int32) (y941_0 : Int32) (r946 : Int32 × Int32 × tX2) (y965_1 : Int32) : Option ((Nat → Int32) × (Nat → Int32) × (Nat → Int32) × (Nat → Int32) × (Nat → Int32) × tX6) :=
  (if r946.1 = y965_1 then (if y941_0 = 0 then q_L_turn_J985 u u1 u2 u3 u4 u5 r946 0 else q_L_turn_J985 u u1 u2 u3 u4 u5 r946 (1 + r919)) else none)
noncomputable def q_L_turn_J941 (u : Nat → Int32) (u1 : Nat → Int32) (u2 : Nat → Int32) (u3 : Nat → Int32) (u4 : Nat → Int32) (u5 : tX6) (r919 : Int32) (y941_0 : Int32) : Option ((Nat → Int32) × (Nat → Int32) × (Nat → Int32) × (Nat → Int32) × (Nat → Int32) × tX6) :=
  zb (q_X6_addSpares u5 (1 + r919)) fun r946 => (if y941_0 = 0 then q_L_turn_J965 u u1 u2 u3 u4 u5 r919 y941_0 r946 (-4) else q_L_turn_J965 u u1 u2 u3 u4 u5 r919 y941_0 r946 ((u 3) + (1 + r919)))
noncomputable def q_L_turn_J843 (u : Nat → Int32) (u1 : Nat → Int32) (u2 : Nat → Int32) (u3 : Nat → Int32) (u4 : Nat → Int32) (y823_0 : Int32) (r826 : Int32 × tX6) (y843_1 : Int32) : Option ((Nat → Int32) × (Nat → Int32) × (Nat → Int32) × (Nat → Int32) × (Nat → Int32) × tX6) :=
  (if r826.1 = y843_1 then (if y823_0 = 0 then some (u, u1, u2, u3, u4, r826.2) else zn (upd u 5 (-6)) fun s857 => zn (upd s857 6 0) fun s862 => zn (upd s862 7 0) fun s867 => some (s867, u1, u2, u3, u4, r826.2)) else none)
noncomputable def q_L_turn_J823 (u : Nat → Int32) (u1 : Nat → Int32) (u2 : Nat → Int32) (u3 : Nat → Int32) (u4 : Nat → Int32) (u5 : tX6) (y823_0 : Int32) : Option ((Nat → Int32) × (Nat → Int32) × (Nat → Int32) × (Nat → Int32) × (Nat → Int32) × tX6) :=
  zb (q_X6_giveUp u5) fun r826 => (if y823_0 = 0 then q_L_turn_J843 u u1 u2 u3 u4 y823_0 r826 (-3) else q_L_turn_J843 u u1 u2 u3 u4 y823_0 r826 (u 6))
noncomputable def q_L_turn_J789 (u5 : tX6) (r740 : Int32) (x789_13 : Int32) (w789_0 : Nat → Int32) (w789_1 : Nat → Int32) (w789_2 : Nat → Int32) (w789_3 : Nat → Int32) (w789_4 : Nat → Int32) : Option ((Nat → Int32) × (Nat → Int32) × (Nat → Int32) × (Nat → Int32) × (Nat → Int32) × tX6) :=
  zb (q_X6_quiet u5 (1 + r740)) fun r792 => (if r792.1 = x789_13 then some (w789_0, w789_1, w789_2, w789_3, w789_4, (r792.2.1, u5.2.1, r792.2.2, u5.2.2.2.1, u5.2.2.2.2)) else none)
noncomputable def q_L_turn_L752 (r740 : Int32) (v752 : Int32 × Int32 × (Nat → Int32) × (Nat → Int32) × (Nat → Int32) × (Nat → Int32) × (Nat → Int32)) : Option ((Int32 × Int32 × (Nat → Int32) × (Nat → Int32) × (Nat → Int32) × (Nat → Int32) × (Nat → Int32)) ⊕ (Int32 × (Nat → Int32) × (Nat → Int32) × (Nat → Int32) × (Nat → Int32) × (Nat → Int32))) :=
  (if (1 + r740) ≤ v752.2.1 then some (Sum.inr (v752.1, v752.2.2.1, v752.2.2.2.1, v752.2.2.2.2.1, v752.2.2.2.2.2.1, v752.2.2.2.2.2.2)) else zb (q_L_tick v752.2.2.1 v752.2.2.2.1 v752.2.2.2.2.1 v752.2.2.2.2.2.1 v752.2.2.2.2.2.2) fun r769 => (if 0 ≤ r769.1 then some (Sum.inl ((v752.1 + 1), (v752.2.1 + 1), r769.2.1, r769.2.2.1, r769.2.2.2.1, r769.2.2.2.2.1, r769.2.2.2.2.2)) else some (Sum.inl ((v752.1 + 0), (v752.2.1 + 1), r769.2.1, r769.2.2.1, r769.2.2.2.1, r769.2.2.2.2.1, r769.2.2.2.2.2))))
noncomputable def q_L_turn_J740 (u : Nat → Int32) (u1 : Nat → Int32) (u2 : Nat → Int32) (u3 : Nat → Int32) (u4 : Nat → Int32) (u5 : tX6) (p9 : Int32) (y740_2 : Int32) : Option ((Nat → Int32) × (Nat → Int32) × (Nat → Int32) × (Nat → Int32) × (Nat → Int32) × tX6) :=
  zb (q_L_low (p9 >>> (3 &&& 31)) y740_2) fun r740 => zb (zl 1000000 (q_L_turn_L752 r740) (0, 0, u, u1, u2, u3, u4)) (fun bb752 => q_L_turn_J789 u5 r740 bb752.1 bb752.2.1 bb752.2.2.1 bb752.2.2.2.1 bb752.2.2.2.2.1 bb752.2.2.2.2.2)
noncomputable def q_L_turn_J682 (u1 : Nat → Int32) (u3 : Nat → Int32) (u5 : tX6) (r160 : Int32) (r493 : Int32) (x617_13 : Int32) (w682_0 : Nat → Int32) (w682_1 : Nat → Int32) (w682_2 : Nat → Int32) : Option ((Nat → Int32) × (Nat → Int32) × (Nat → Int32) × (Nat → Int32) × (Nat → Int32) × tX6) :=
  zb (q_X6_read u5 r160 (1 + r493)) fun r687 => (if x617_13 = 0 then (if r687.1 = 0 then some (w682_0, u1, w682_1, u3, w682_2, (r687.2.1, u5.2.1, r687.2.2, u5.2.2.2.1, u5.2.2.2.2)) else none) else (if r687.1 = 1 then some (w682_0, u1, w682_1, u3, w682_2, (r687.2.1, u5.2.1, r687.2.2, u5.2.2.2.1, u5.2.2.2.2)) else none))
noncomputable def q_L_turn_J617 (u1 : Nat → Int32) (u2 : Nat → Int32) (u3 : Nat → Int32) (u5 : tX6) (r160 : Int32) (r493 : Int32) (w560_0 : Nat → Int32) (w560_1 : Nat → Int32) (x617_13 : Int32) : Option ((Nat → Int32) × (Nat → Int32) × (Nat → Int32) × (Nat → Int32) × (Nat → Int32) × tX6) :=
  (if x617_13 = 0 then q_L_turn_J682 u1 u3 u5 r160 r493 x617_13 w560_0 u2 w560_1 else zn (upd w560_0 12 ((w560_0 12) + 1)) fun s629 => zb (q_L_log s629 w560_1 6 r160) fun r637 => zb (q_L_place r637.1 u2 r160) fun r645 => (if 0 ≤ r645 then q_L_turn_J682 u1 u3 u5 r160 r493 x617_13 r637.1 u2 r637.2 else (if (r637.1 5) = r160 then q_L_turn_J682 u1 u3 u5 r160 r493 x617_13 r637.1 u2 r637.2 else (if 6 ≤ (r637.1 8) then q_L_turn_J682 u1 u3 u5 r160 r493 x617_13 r637.1 u2 r637.2 else zn (upd r637.1 8 ((r637.1 8) + 1)) fun s678 => zs 6 u2 (r637.1 8) r160 fun s681 => q_L_turn_J682 u1 u3 u5 r160 r493 x617_13 s678 s681 r637.2))))
noncomputable def q_L_turn_L563 (u3 : Nat → Int32) (r160 : Int32) (w560_0 : Nat → Int32) (v563 : Int32 × Int32) : Option ((Int32 × Int32) ⊕ (Int32)) :=
  (if (w560_0 2) ≤ v563.2 then some (Sum.inr (v563.1)) else (if v563.1 = 0 then zg 20 u3 v563.2 fun a580 => (if (a580 / 10) = r160 then zg 20 u3 v563.2 fun a593 => (if (a593 - a593 / 10 * 10) < (w560_0 18) then some (Sum.inl (0, (v563.2 + 1))) else some (Sum.inl (1, (v563.2 + 1)))) else some (Sum.inl (0, (v563.2 + 1)))) else some (Sum.inl (1, (v563.2 + 1)))))
noncomputable def q_L_turn_J560 (u1 : Nat → Int32) (u2 : Nat → Int32) (u3 : Nat → Int32) (u5 : tX6) (r160 : Int32) (r493 : Int32) (w560_0 : Nat → Int32) (w560_1 : Nat → Int32) : Option ((Nat → Int32) × (Nat → Int32) × (Nat → Int32) × (Nat → Int32) × (Nat → Int32) × tX6) :=
  zb (zl 1000000 (q_L_turn_L563 u3 r160 w560_0) (0, 0)) (fun bb563 => q_L_turn_J617 u1 u2 u3 u5 r160 r493 w560_0 w560_1 bb563)
noncomputable def q_L_turn_J541 (u1 : Nat → Int32) (u2 : Nat → Int32) (u3 : Nat → Int32) (u4 : Nat → Int32) (u5 : tX6) (r160 : Int32) (r493 : Int32) (s513 : Nat → Int32) (y541_2 : Int32) : Option ((Nat → Int32) × (Nat → Int32) × (Nat → Int32) × (Nat → Int32) × (Nat → Int32) × tX6) :=
  zn (upd s513 6 y541_2) fun s541 => zn (upd s541 10 ((s541 10) + 1)) fun s549 => zb (q_L_log s549 u4 2 (s549 5)) fun r557 => q_L_turn_J560 u1 u2 u3 u5 r160 r493 r557.1 r557.2
noncomputable def q_L_turn_J493 (u : Nat → Int32) (u1 : Nat → Int32) (u2 : Nat → Int32) (u3 : Nat → Int32) (u4 : Nat → Int32) (u5 : tX6) (p9 : Int32) (r160 : Int32) (y493_2 : Int32) : Option ((Nat → Int32) × (Nat → Int32) × (Nat → Int32) × (Nat → Int32) × (Nat → Int32) × tX6) :=
  zb (q_L_low (p9 >>> (3 &&& 31)) y493_2) fun r493 => zn (upd u 0 ((u 0) + (1 + r493))) fun s509 => zn (upd s509 1 0) fun s513 => (if (s513 5) < 0 then q_L_turn_J560 u1 u2 u3 u5 r160 r493 s513 u4 else (if (s513 6) ≤ 2 then q_L_turn_J541 u1 u2 u3 u4 u5 r160 r493 s513 0 else q_L_turn_J541 u1 u2 u3 u4 u5 r160 r493 s513 ((s513 6) - 2)))
noncomputable def q_L_turn_J433 (u1 : Nat → Int32) (u3 : Nat → Int32) (u4 : Nat → Int32) (u5 : tX6) (r160 : Int32) (r415 : Int32) (w433_0 : Nat → Int32) (w433_1 : Nat → Int32) : Option ((Nat → Int32) × (Nat → Int32) × (Nat → Int32) × (Nat → Int32) × (Nat → Int32) × tX6) :=
  zb (q_X6_unask u5 r160) fun r436 => (if 0 ≤ r415 then (if r436.1 = (w433_0 8) then some (w433_0, u1, w433_1, u3, u4, ((u5.1.1, u5.1.2.1, u5.1.2.2.1, r436.2.1, u5.1.2.2.2.2.1, u5.1.2.2.2.2.2.1, u5.1.2.2.2.2.2.2.1, u5.1.2.2.2.2.2.2.2.1, u5.1.2.2.2.2.2.2.2.2.1, u5.1.2.2.2.2.2.2.2.2.2.1, u5.1.2.2.2.2.2.2.2.2.2.2.1, u5.1.2.2.2.2.2.2.2.2.2.2.2.1, u5.1.2.2.2.2.2.2.2.2.2.2.2.2.1, u5.1.2.2.2.2.2.2.2.2.2.2.2.2.2.1, u5.1.2.2.2.2.2.2.2.2.2.2.2.2.2.2.1, u5.1.2.2.2.2.2.2.2.2.2.2.2.2.2.2.2.1, u5.1.2.2.2.2.2.2.2.2.2.2.2.2.2.2.2.2), u5.2.1, r436.2.2, u5.2.2.2.1, u5.2.2.2.2)) else none) else (if r436.1 = (-3) then some (w433_0, u1, w433_1, u3, u4, ((u5.1.1, u5.1.2.1, u5.1.2.2.1, r436.2.1, u5.1.2.2.2.2.1, u5.1.2.2.2.2.2.1, u5.1.2.2.2.2.2.2.1, u5.1.2.2.2.2.2.2.2.1, u5.1.2.2.2.2.2.2.2.2.1, u5.1.2.2.2.2.2.2.2.2.2.1, u5.1.2.2.2.2.2.2.2.2.2.2.1, u5.1.2.2.2.2.2.2.2.2.2.2.2.1, u5.1.2.2.2.2.2.2.2.2.2.2.2.2.1, u5.1.2.2.2.2.2.2.2.2.2.2.2.2.2.1, u5.1.2.2.2.2.2.2.2.2.2.2.2.2.2.2.1, u5.1.2.2.2.2.2.2.2.2.2.2.2.2.2.2.2.1, u5.1.2.2.2.2.2.2.2.2.2.2.2.2.2.2.2.2), u5.2.1, r436.2.2, u5.2.2.2.1, u5.2.2.2.2)) else none))
noncomputable def q_L_turn_J377 (u : Nat → Int32) (u1 : Nat → Int32) (u2 : Nat → Int32) (u3 : Nat → Int32) (u4 : Nat → Int32) (u5 : tX6) (r160 : Int32) (y345_0 : Int32) (r350 : Int32 × tX0 × tX2) (y377_1 : Int32) : Option ((Nat → Int32) × (Nat → Int32) × (Nat → Int32) × (Nat → Int32) × (Nat → Int32) × tX6) :=
  (if r350.1 = y377_1 then (if y345_0 = 0 then some (u, u1, u2, u3, u4, ((u5.1.1, u5.1.2.1, u5.1.2.2.1, r350.2.1, u5.1.2.2.2.2.1, u5.1.2.2.2.2.2.1, u5.1.2.2.2.2.2.2.1, u5.1.2.2.2.2.2.2.2.1, u5.1.2.2.2.2.2.2.2.2.1, u5.1.2.2.2.2.2.2.2.2.2.1, u5.1.2.2.2.2.2.2.2.2.2.2.1, u5.1.2.2.2.2.2.2.2.2.2.2.2.1, u5.1.2.2.2.2.2.2.2.2.2.2.2.2.1, u5.1.2.2.2.2.2.2.2.2.2.2.2.2.2.1, u5.1.2.2.2.2.2.2.2.2.2.2.2.2.2.2.1, u5.1.2.2.2.2.2.2.2.2.2.2.2.2.2.2.2.1, u5.1.2.2.2.2.2.2.2.2.2.2.2.2.2.2.2.2), u5.2.1, r350.2.2, u5.2.2.2.1, u5.2.2.2.2)) else zn (upd u 8 ((u 8) + 1)) fun s397 => zs 6 u2 (u 8) r160 fun s400 => some (s397, u1, s400, u3, u4, ((u5.1.1, u5.1.2.1, u5.1.2.2.1, r350.2.1, u5.1.2.2.2.2.1, u5.1.2.2.2.2.2.1, u5.1.2.2.2.2.2.2.1, u5.1.2.2.2.2.2.2.2.1, u5.1.2.2.2.2.2.2.2.2.1, u5.1.2.2.2.2.2.2.2.2.2.1, u5.1.2.2.2.2.2.2.2.2.2.2.1, u5.1.2.2.2.2.2.2.2.2.2.2.2.1, u5.1.2.2.2.2.2.2.2.2.2.2.2.2.1, u5.1.2.2.2.2.2.2.2.2.2.2.2.2.2.1, u5.1.2.2.2.2.2.2.2.2.2.2.2.2.2.2.1, u5.1.2.2.2.2.2.2.2.2.2.2.2.2.2.2.2.1, u5.1.2.2.2.2.2.2.2.2.2.2.2.2.2.2.2.2), u5.2.1, r350.2.2, u5.2.2.2.1, u5.2.2.2.2))) else none)
noncomputable def q_L_turn_J345 (u : Nat → Int32) (u1 : Nat → Int32) (u2 : Nat → Int32) (u3 : Nat → Int32) (u4 : Nat → Int32) (u5 : tX6) (r160 : Int32) (y324_0 : Int32) (y345_0 : Int32) : Option ((Nat → Int32) × (Nat → Int32) × (Nat → Int32) × (Nat → Int32) × (Nat → Int32) × tX6) :=
  zb (q_X6_ask u5 r160) fun r350 => (if y324_0 = 0 then (if y345_0 = 0 then q_L_turn_J377 u u1 u2 u3 u4 u5 r160 y345_0 r350 (-4) else q_L_turn_J377 u u1 u2 u3 u4 u5 r160 y345_0 r350 (u 8)) else q_L_turn_J377 u u1 u2 u3 u4 u5 r160 y345_0 r350 (-3))
noncomputable def q_L_turn_J324 (u : Nat → Int32) (u1 : Nat → Int32) (u2 : Nat → Int32) (u3 : Nat → Int32) (u4 : Nat → Int32) (u5 : tX6) (r160 : Int32) (y324_0 : Int32) : Option ((Nat → Int32) × (Nat → Int32) × (Nat → Int32) × (Nat → Int32) × (Nat → Int32) × tX6) :=
  (if y324_0 = 0 then (if 6 ≤ (u 8) then q_L_turn_J345 u u1 u2 u3 u4 u5 r160 y324_0 0 else q_L_turn_J345 u u1 u2 u3 u4 u5 r160 y324_0 1) else q_L_turn_J345 u u1 u2 u3 u4 u5 r160 y324_0 0)
noncomputable def q_L_turn_J262 (u : Nat → Int32) (u1 : Nat → Int32) (u2 : Nat → Int32) (u3 : Nat → Int32) (u4 : Nat → Int32) (u5 : tX6) (r160 : Int32) (r178 : Int32) (y197_0 : Int32) (r247 : Int32 × tX5 × tX2) (y262_1 : Int32) : Option ((Nat → Int32) × (Nat → Int32) × (Nat → Int32) × (Nat → Int32) × (Nat → Int32) × tX6) :=
  (if r247.1 = y262_1 then (if y197_0 = 0 then zn (upd u 2 ((u 2) + 1)) fun s281 => zs 20 u3 (u 2) ((10 * r160) + (1 + r178)) fun s290 => some (s281, u1, u2, s290, u4, ((u5.1.1, u5.1.2.1, r247.2.1, u5.1.2.2.2.1, u5.1.2.2.2.2.1, u5.1.2.2.2.2.2.1, u5.1.2.2.2.2.2.2.1, u5.1.2.2.2.2.2.2.2.1, u5.1.2.2.2.2.2.2.2.2.1, u5.1.2.2.2.2.2.2.2.2.2.1, u5.1.2.2.2.2.2.2.2.2.2.2.1, u5.1.2.2.2.2.2.2.2.2.2.2.2.1, u5.1.2.2.2.2.2.2.2.2.2.2.2.2.1, u5.1.2.2.2.2.2.2.2.2.2.2.2.2.2.1, u5.1.2.2.2.2.2.2.2.2.2.2.2.2.2.2.1, u5.1.2.2.2.2.2.2.2.2.2.2.2.2.2.2.2.1, u5.1.2.2.2.2.2.2.2.2.2.2.2.2.2.2.2.2), u5.2.1, r247.2.2, u5.2.2.2.1, u5.2.2.2.2)) else some (u, u1, u2, u3, u4, ((u5.1.1, u5.1.2.1, r247.2.1, u5.1.2.2.2.1, u5.1.2.2.2.2.1, u5.1.2.2.2.2.2.1, u5.1.2.2.2.2.2.2.1, u5.1.2.2.2.2.2.2.2.1, u5.1.2.2.2.2.2.2.2.2.1, u5.1.2.2.2.2.2.2.2.2.2.1, u5.1.2.2.2.2.2.2.2.2.2.2.1, u5.1.2.2.2.2.2.2.2.2.2.2.2.1, u5.1.2.2.2.2.2.2.2.2.2.2.2.2.1, u5.1.2.2.2.2.2.2.2.2.2.2.2.2.2.1, u5.1.2.2.2.2.2.2.2.2.2.2.2.2.2.2.1, u5.1.2.2.2.2.2.2.2.2.2.2.2.2.2.2.2.1, u5.1.2.2.2.2.2.2.2.2.2.2.2.2.2.2.2.2), u5.2.1, r247.2.2, u5.2.2.2.1, u5.2.2.2.2))) else none)
noncomputable def q_L_turn_J242 (u : Nat → Int32) (u1 : Nat → Int32) (u2 : Nat → Int32) (u3 : Nat → Int32) (u4 : Nat → Int32) (u5 : tX6) (r160 : Int32) (r178 : Int32) (y197_0 : Int32) (x242_14 : Int32) : Option ((Nat → Int32) × (Nat → Int32) × (Nat → Int32) × (Nat → Int32) × (Nat → Int32) × tX6) :=
  zb (q_X6_spot u5 r160 (1 + r178)) fun r247 => (if y197_0 = 0 then q_L_turn_J262 u u1 u2 u3 u4 u5 r160 r178 y197_0 r247 x242_14 else q_L_turn_J262 u u1 u2 u3 u4 u5 r160 r178 y197_0 r247 (-4))
noncomputable def q_L_turn_L205 (u : Nat → Int32) (u3 : Nat → Int32) (r160 : Int32) (v205 : Int32 × Int32) : Option ((Int32 × Int32) ⊕ (Int32)) :=
  (if (u 2) ≤ v205.2 then some (Sum.inr (v205.1)) else zg 20 u3 v205.2 fun a219 => (if (a219 / 10) = r160 then some (Sum.inl ((v205.1 + 1), (v205.2 + 1))) else some (Sum.inl ((v205.1 + 0), (v205.2 + 1)))))
noncomputable def q_L_turn_J197 (u : Nat → Int32) (u1 : Nat → Int32) (u2 : Nat → Int32) (u3 : Nat → Int32) (u4 : Nat → Int32) (u5 : tX6) (r160 : Int32) (r178 : Int32) (y197_0 : Int32) : Option ((Nat → Int32) × (Nat → Int32) × (Nat → Int32) × (Nat → Int32) × (Nat → Int32) × tX6) :=
  zb (zl 1000000 (q_L_turn_L205 u u3 r160) (1, 0)) (fun bb205 => q_L_turn_J242 u u1 u2 u3 u4 u5 r160 r178 y197_0 bb205)
noncomputable def q_L_turn_J160 (u : Nat → Int32) (u1 : Nat → Int32) (u2 : Nat → Int32) (u3 : Nat → Int32) (u4 : Nat → Int32) (u5 : tX6) (p8 : Int32) (p9 : Int32) (y139_0 : Int32) (y160_1 : Int32) : Option ((Nat → Int32) × (Nat → Int32) × (Nat → Int32) × (Nat → Int32) × (Nat → Int32) × tX6) :=
  zb (q_L_low p9 y160_1) fun r160 => (if 3 ≤ y139_0 then (if y139_0 = 3 then zb (q_L_place u u2 r160) fun r305 => (if 0 ≤ r305 then q_L_turn_J324 u u1 u2 u3 u4 u5 r160 1 else (if (u 5) = r160 then q_L_turn_J324 u u1 u2 u3 u4 u5 r160 1 else q_L_turn_J324 u u1 u2 u3 u4 u5 r160 0)) else (if y139_0 = 4 then zb (q_L_place u u2 r160) fun r415 => (if r415 < 0 then q_L_turn_J433 u1 u3 u4 u5 r160 r415 u u2 else zb (q_L_drop u u2 r415) fun r430 => q_L_turn_J433 u1 u3 u4 u5 r160 r415 r430.1 r430.2) else (if 8 ≤ y139_0 then (if 12 ≤ y139_0 then (if y139_0 = 12 then (if (u 5) < 0 then q_L_turn_J823 u u1 u2 u3 u4 u5 0 else q_L_turn_J823 u u1 u2 u3 u4 u5 1) else (if y139_0 = 13 then zb (q_L_low p9 3) fun r881 => zb (q_X6_setWay u5 r881) fun r889 => (if r889.1 = (u 4) then zn (upd u 4 r881) fun s904 => some (s904, u1, u2, u3, u4, ((u5.1.1, u5.1.2.1, u5.1.2.2.1, u5.1.2.2.2.1, u5.1.2.2.2.2.1, r889.2.1, u5.1.2.2.2.2.2.2.1, u5.1.2.2.2.2.2.2.2.1, u5.1.2.2.2.2.2.2.2.2.1, u5.1.2.2.2.2.2.2.2.2.2.1, u5.1.2.2.2.2.2.2.2.2.2.2.1, u5.1.2.2.2.2.2.2.2.2.2.2.2.1, u5.1.2.2.2.2.2.2.2.2.2.2.2.2.1, u5.1.2.2.2.2.2.2.2.2.2.2.2.2.2.1, u5.1.2.2.2.2.2.2.2.2.2.2.2.2.2.2.1, u5.1.2.2.2.2.2.2.2.2.2.2.2.2.2.2.2.1, u5.1.2.2.2.2.2.2.2.2.2.2.2.2.2.2.2.2), u5.2.1, r889.2.2, u5.2.2.2.1, u5.2.2.2.2)) else none) else (if y139_0 = 14 then zb (q_L_low p9 2) fun r919 => (if 50 < ((u 3) + (1 + r919)) then q_L_turn_J941 u u1 u2 u3 u4 u5 r919 0 else q_L_turn_J941 u u1 u2 u3 u4 u5 r919 1) else zb (q_L_low p9 5) fun r993 => (if r993 = 0 then zb (q_L_low (p9 >>> (3 &&& 31)) 12) fun r1009 => q_L_turn_J1088 u u1 u2 u3 u4 u5 r993 r1009 else (if r993 = 1 then zb (q_L_low (p9 >>> (3 &&& 31)) 20) fun r1028 => q_L_turn_J1088 u u1 u2 u3 u4 u5 r993 (1 + r1028) else (if r993 = 2 then zb (q_L_low (p9 >>> (3 &&& 31)) 9) fun r1048 => q_L_turn_J1088 u u1 u2 u3 u4 u5 r993 (1 + r1048) else (if r993 = 3 then zb (q_L_low (p9 >>> (3 &&& 31)) 8) fun r1068 => q_L_turn_J1088 u u1 u2 u3 u4 u5 r993 (2 + r1068) else zb (q_L_low (p9 >>> (3 &&& 31)) 500) fun r1084 => q_L_turn_J1088 u u1 u2 u3 u4 u5 r993 (50 + r1084)))))))) else zb (q_L_low (p8 >>> (6 &&& 31)) 3) fun r726 => (if r726 = 0 then q_L_turn_J740 u u1 u2 u3 u4 u5 p9 300 else q_L_turn_J740 u u1 u2 u3 u4 u5 p9 40)) else zb (q_L_low (p8 >>> (6 &&& 31)) 3) fun r479 => (if r479 = 0 then q_L_turn_J493 u u1 u2 u3 u4 u5 p9 r160 200 else q_L_turn_J493 u u1 u2 u3 u4 u5 p9 r160 20)))) else zb (q_L_low (p9 >>> (4 &&& 31)) 9) fun r178 => (if (u 2) = 20 then q_L_turn_J197 u u1 u2 u3 u4 u5 r160 r178 1 else q_L_turn_J197 u u1 u2 u3 u4 u5 r160 r178 0))
noncomputable def q_L_turn_J139 (u : Nat → Int32) (u1 : Nat → Int32) (u2 : Nat → Int32) (u3 : Nat → Int32) (u4 : Nat → Int32) (u5 : tX6) (p8 : Int32) (p9 : Int32) (y139_0 : Int32) : Option ((Nat → Int32) × (Nat → Int32) × (Nat → Int32) × (Nat → Int32) × (Nat → Int32) × tX6) :=
  zb (q_L_low (p8 >>> (5 &&& 31)) 3) fun r148 => (if r148 = 0 then q_L_turn_J160 u u1 u2 u3 u4 u5 p8 p9 y139_0 8 else q_L_turn_J160 u u1 u2 u3 u4 u5 p8 p9 y139_0 3)
noncomputable def q_L_turn (u : Nat → Int32) (u1 : Nat → Int32) (u2 : Nat → Int32) (u3 : Nat → Int32) (u4 : Nat → Int32) (u5 : tX6) (p7 : Int32) (p8 : Int32) (p9 : Int32) : Option ((Nat → Int32) × (Nat → Int32) × (Nat → Int32) × (Nat → Int32) × (Nat → Int32) × tX6) :=
  (if p7 = 0 then q_L_turn_J139 u u1 u2 u3 u4 u5 p8 p9 8 else (if 5 ≤ p7 then zb (q_L_low p8 16) fun r136 => q_L_turn_J139 u u1 u2 u3 u4 u5 p8 p9 r136 else q_L_turn_J139 u u1 u2 u3 u4 u5 p8 p9 0))
set_option maxRecDepth 100000 in
set_option maxHeartbeats 20000000 in
theorem c_L_turn {p : Program} {l : Launch} {e : Env} {s : State} {m : MethodId} {args : Array Value} {below : List Frame} {meth : Method} {c : Code} {H : Heap} {locs : List Loc} {cells slots : Nat} {Q : State → Prop} {D : va_G} {G : zG} {A : Nat → Prop} {ls : Array Slot} {rt : Option FieldType} (C0 : zCx p s m args meth c cL_law 16 rt RL D G A) (hcs : cells + 0 ≤ room_1.cells ∧ slots + 0 ≤ room_1.slots) (ad : Nat → Nat) (b : Nat) (ad1 : Nat → Nat) (b1 : Nat) (ad2 : Nat → Nat) (b2 : Nat) (ad3 : Nat → Nat) (b3 : Nat) (ad4 : Nat → Nat) (b4 : Nat) (ad5 : Nat → Nat) (b5 : Nat) (sb : Nat) (u : Nat → Int32) (u1 : Nat → Int32) (u2 : Nat → Int32) (u3 : Nat → Int32) (u4 : Nat → Int32) (u5 : tX6) (p7 : Int32) (p8 : Int32) (p9 : Int32) (res : (Nat → Int32) × (Nat → Int32) × (Nat → Int32) × (Nat → Int32) × (Nat → Int32) × tX6) (hf : q_L_turn u u1 u2 u3 u4 u5 p7 p8 p9 = some res) (hP : va_P D vwCl (wAR G ad b 20 u ++ wAR G ad1 b1 8 u1 ++ wAR G ad2 b2 6 u2 ++ wAR G ad3 b3 20 u3 ++ wAR G ad4 b4 30 u4 ++ wX6 G ad5 b5 u5) H) (hD : va_D A (wAR G ad b 20 u ++ wAR G ad1 b1 8 u1 ++ wAR G ad2 b2 6 u2 ++ wAR G ad3 b3 20 u3 ++ wAR G ad4 b4 30 u4 ++ wX6 G ad5 b5 u5)) (hS : va_S A s.heap H locs) (hl : lv_has ls 16 [(0, .ref sb), (1, .ref (ad5 b5)), (2, .ref (ad b)), (3, .ref (ad1 b1)), (4, .ref (ad2 b2)), (5, .ref (ad3 b3)), (6, .ref (ad4 b4)), (7, .int p7), (8, .int p8), (9, .int p9)])
    (kk : ∀ (H1 : Heap) (locs1 : List Loc) (ls1 : Array Slot), va_P D vwCl (wAR G ad b 20 res.1 ++ wAR G ad1 b1 8 res.2.1 ++ wAR G ad2 b2 6 res.2.2.1 ++ wAR G ad3 b3 20 res.2.2.2.1 ++ wAR G ad4 b4 30 res.2.2.2.2.1 ++ wX6 G ad5 b5 res.2.2.2.2.2) H1 → va_D A (wAR G ad b 20 res.1 ++ wAR G ad1 b1 8 res.2.1 ++ wAR G ad2 b2 6 res.2.2.1 ++ wAR G ad3 b3 20 res.2.2.2.1 ++ wAR G ad4 b4 30 res.2.2.2.2.1 ++ wX6 G ad5 b5 res.2.2.2.2.2) → va_S A s.heap H1 locs1 → lv_has ls1 16 [(0, .ref sb), (1, .ref (ad5 b5)), (2, .ref (ad b)), (3, .ref (ad1 b1)), (4, .ref (ad2 b2)), (5, .ref (ad3 b3)), (6, .ref (ad4 b4)), (7, .int p7), (9, .int p9)] → W p l e room_1 s m args below meth c H1 locs1 cells slots Q (F0 m 1119 ls1 [])) : W p l e room_1 s m args below meth c H locs cells slots Q (F0 m 112 ls []) := by
  obtain ⟨hx, hb, hml, hown, hW, hK, hlocks, hF, hr, hA⟩ := id C0
  unfold q_L_turn at hf
  refine lv_iload hx hb dL_law_112 (lv_at hl 7 rfl) ?_
  have J139 : ∀ (y139_0 : Int32) (hf : q_L_turn_J139 u u1 u2 u3 u4 u5 p8 p9 y139_0 = some res) (H : Heap) (locs : List Loc) (hP : va_P D vwCl (wAR G ad b 20 u ++ wAR G ad1 b1 8 u1 ++ wAR G ad2 b2 6 u2 ++ wAR G ad3 b3 20 u3 ++ wAR G ad4 b4 30 u4 ++ wX6 G ad5 b5 u5) H) (hD : va_D A (wAR G ad b 20 u ++ wAR G ad1 b1 8 u1 ++ wAR G ad2 b2 6 u2 ++ wAR G ad3 b3 20 u3 ++ wAR G ad4 b4 30 u4 ++ wX6 G ad5 b5 u5)) (hS : va_S A s.heap H locs) (ls : Array Slot) (hl : lv_has ls 16 [(0, .ref sb), (1, .ref (ad5 b5)), (2, .ref (ad b)), (3, .ref (ad1 b1)), (4, .ref (ad2 b2)), (5, .ref (ad3 b3)), (6, .ref (ad4 b4)), (7, .int p7), (8, .int p8), (9, .int p9)]), W p l e room_1 s m args below meth c H locs cells slots Q (F0 m 139 ls [.int y139_0]) := by
    intro y139_0 hf H locs hP hD hS ls hl
    unfold q_L_turn_J139 at hf
    refine lv_istore (lv' := [(10, .int y139_0), (0, .ref sb), (1, .ref (ad5 b5)), (2, .ref (ad b)), (3, .ref (ad1 b1)), (4, .ref (ad2 b2)), (5, .ref (ad3 b3)), (6, .ref (ad4 b4)), (7, .int p7), (8, .int p8), (9, .int p9)]) hx hb dL_law_139 hl (by decide) rfl (fun ls hl => ?_)
    refine lv_iload hx hb dL_law_141 (lv_at hl 10 rfl) ?_
    refine lv_iload hx hb dL_law_143 (lv_at hl 9 rfl) ?_
    refine lv_iconst (v := 5) hx hb dL_law_145 (by decide) ?_
    refine lv_ishr hx hb dL_law_146 ?_
    refine lv_iconst (v := 3) hx hb dL_law_147 (by decide) ?_
    replace hf := zb_s hf
    obtain ⟨r148, hr148, hf⟩ := hf
    refine z_GSi (rest := [.int p9]) C0 kL_89 (c_L_low l D G (p8 >>> (5 &&& 31)) 3 r148 hr148) (List.Perm.refl _) (List.Perm.refl _) rfl ⟨Nat.le_of_ble_eq_true rfl, Nat.le_of_ble_eq_true rfl⟩ (Nat.le_of_ble_eq_true rfl) hcs rfl hl.1 hP hD hS dL_law_148 (fun H locs hP hD hS => ?_)
    replace hP : va_P D vwCl (wAR G ad b 20 u ++ wAR G ad1 b1 8 u1 ++ wAR G ad2 b2 6 u2 ++ wAR G ad3 b3 20 u3 ++ wAR G ad4 b4 30 u4 ++ wX6 G ad5 b5 u5) H := hP
    replace hD : va_D A (wAR G ad b 20 u ++ wAR G ad1 b1 8 u1 ++ wAR G ad2 b2 6 u2 ++ wAR G ad3 b3 20 u3 ++ wAR G ad4 b4 30 u4 ++ wX6 G ad5 b5 u5) := hD
    have J160 : ∀ (y160_1 : Int32) (hf : q_L_turn_J160 u u1 u2 u3 u4 u5 p8 p9 y139_0 y160_1 = some res) (H : Heap) (locs : List Loc) (hP : va_P D vwCl (wAR G ad b 20 u ++ wAR G ad1 b1 8 u1 ++ wAR G ad2 b2 6 u2 ++ wAR G ad3 b3 20 u3 ++ wAR G ad4 b4 30 u4 ++ wX6 G ad5 b5 u5) H) (hD : va_D A (wAR G ad b 20 u ++ wAR G ad1 b1 8 u1 ++ wAR G ad2 b2 6 u2 ++ wAR G ad3 b3 20 u3 ++ wAR G ad4 b4 30 u4 ++ wX6 G ad5 b5 u5)) (hS : va_S A s.heap H locs) (ls : Array Slot) (hl : lv_has ls 16 [(0, .ref sb), (1, .ref (ad5 b5)), (2, .ref (ad b)), (3, .ref (ad1 b1)), (4, .ref (ad2 b2)), (5, .ref (ad3 b3)), (6, .ref (ad4 b4)), (7, .int p7), (8, .int p8), (9, .int p9), (10, .int y139_0)]), W p l e room_1 s m args below meth c H locs cells slots Q (F0 m 160 ls [.int y160_1, .int p9]) := by
      intro y160_1 hf H locs hP hD hS ls hl
      unfold q_L_turn_J160 at hf
      replace hf := zb_s hf
      obtain ⟨r160, hr160, hf⟩ := hf
      refine z_GSi (rest := []) C0 kL_89 (c_L_low l D G p9 y160_1 r160 hr160) (List.Perm.refl _) (List.Perm.refl _) rfl ⟨Nat.le_of_ble_eq_true rfl, Nat.le_of_ble_eq_true rfl⟩ (Nat.le_of_ble_eq_true rfl) hcs rfl hl.1 hP hD hS dL_law_160 (fun H locs hP hD hS => ?_)
      replace hP : va_P D vwCl (wAR G ad b 20 u ++ wAR G ad1 b1 8 u1 ++ wAR G ad2 b2 6 u2 ++ wAR G ad3 b3 20 u3 ++ wAR G ad4 b4 30 u4 ++ wX6 G ad5 b5 u5) H := hP
      replace hD : va_D A (wAR G ad b 20 u ++ wAR G ad1 b1 8 u1 ++ wAR G ad2 b2 6 u2 ++ wAR G ad3 b3 20 u3 ++ wAR G ad4 b4 30 u4 ++ wX6 G ad5 b5 u5) := hD
      refine lv_istore (lv' := [(11, .int r160), (0, .ref sb), (1, .ref (ad5 b5)), (2, .ref (ad b)), (3, .ref (ad1 b1)), (4, .ref (ad2 b2)), (5, .ref (ad3 b3)), (6, .ref (ad4 b4)), (7, .int p7), (8, .int p8), (9, .int p9), (10, .int y139_0)]) hx hb dL_law_163 hl (by decide) rfl (fun ls hl => ?_)
      refine lv_iload hx hb dL_law_165 (lv_at hl 11 rfl) ?_
      refine lv_iconst (v := 3) hx hb dL_law_167 (by decide) ?_
      refine lv_icmp_ge (tgt := 294) hx hb dL_law_168 (by decide) (fun c168 => ?_) (fun c168 => ?_)
      · replace hf := zi_p hf c168
        refine lv_iload hx hb dL_law_294 (lv_at hl 11 rfl) ?_
        refine lv_iconst (v := 3) hx hb dL_law_296 (by decide) ?_
        refine lv_icmp_ne (tgt := 404) hx hb dL_law_297 (by decide) (fun c297 => ?_) (fun c297 => ?_)
        · replace hf := zi_n hf c297
          refine lv_iload hx hb dL_law_404 (lv_at hl 11 rfl) ?_
          refine lv_iconst (v := 4) hx hb dL_law_406 (by decide) ?_
          refine lv_icmp_ne (tgt := 461) hx hb dL_law_407 (by decide) (fun c407 => ?_) (fun c407 => ?_)
          · replace hf := zi_n hf c407
            refine lv_iload hx hb dL_law_461 (lv_at hl 11 rfl) ?_
            refine lv_bipush (v := 8) hx hb dL_law_463 (by decide) ?_
            refine lv_icmp_ge (tgt := 708) hx hb dL_law_465 (by decide) (fun c465 => ?_) (fun c465 => ?_)
            · replace hf := zi_p hf c465
              refine lv_iload hx hb dL_law_708 (lv_at hl 11 rfl) ?_
              refine lv_bipush (v := 12) hx hb dL_law_710 (by decide) ?_
              refine lv_icmp_ge (tgt := 805) hx hb dL_law_712 (by decide) (fun c712 => ?_) (fun c712 => ?_)
              · replace hf := zi_p hf c712
                refine lv_iload hx hb dL_law_805 (lv_at hl 11 rfl) ?_
                refine lv_bipush (v := 12) hx hb dL_law_807 (by decide) ?_
                refine lv_icmp_ne (tgt := 871) hx hb dL_law_809 (by decide) (fun c809 => ?_) (fun c809 => ?_)
                · replace hf := zi_n hf c809
                  refine lv_iload hx hb dL_law_871 (lv_at hl 11 rfl) ?_
                  refine lv_bipush (v := 13) hx hb dL_law_873 (by decide) ?_
                  refine lv_icmp_ne (tgt := 908) hx hb dL_law_875 (by decide) (fun c875 => ?_) (fun c875 => ?_)
                  · replace hf := zi_n hf c875
                    refine lv_iload hx hb dL_law_908 (lv_at hl 11 rfl) ?_
                    refine lv_bipush (v := 14) hx hb dL_law_910 (by decide) ?_
                    refine lv_icmp_ne (tgt := 990) hx hb dL_law_912 (by decide) (fun c912 => ?_) (fun c912 => ?_)
                    · replace hf := zi_n hf c912
                      refine lv_iload hx hb dL_law_990 (lv_at hl 10 rfl) ?_
                      refine lv_iconst (v := 5) hx hb dL_law_992 (by decide) ?_
                      replace hf := zb_s hf
                      obtain ⟨r993, hr993, hf⟩ := hf
                      refine z_GSi (rest := []) C0 kL_89 (c_L_low l D G p9 5 r993 hr993) (List.Perm.refl _) (List.Perm.refl _) rfl ⟨Nat.le_of_ble_eq_true rfl, Nat.le_of_ble_eq_true rfl⟩ (Nat.le_of_ble_eq_true rfl) hcs rfl hl.1 hP hD hS dL_law_993 (fun H locs hP hD hS => ?_)
                      replace hP : va_P D vwCl (wAR G ad b 20 u ++ wAR G ad1 b1 8 u1 ++ wAR G ad2 b2 6 u2 ++ wAR G ad3 b3 20 u3 ++ wAR G ad4 b4 30 u4 ++ wX6 G ad5 b5 u5) H := hP
                      replace hD : va_D A (wAR G ad b 20 u ++ wAR G ad1 b1 8 u1 ++ wAR G ad2 b2 6 u2 ++ wAR G ad3 b3 20 u3 ++ wAR G ad4 b4 30 u4 ++ wX6 G ad5 b5 u5) := hD
                      refine lv_istore (lv' := [(12, .int r993), (11, .int r160), (0, .ref sb), (1, .ref (ad5 b5)), (2, .ref (ad b)), (3, .ref (ad1 b1)), (4, .ref (ad2 b2)), (5, .ref (ad3 b3)), (6, .ref (ad4 b4)), (7, .int p7), (8, .int p8), (9, .int p9), (10, .int y139_0)]) hx hb dL_law_996 hl (by decide) rfl (fun ls hl => ?_)
                      refine lv_iload hx hb dL_law_998 (lv_at hl 0 rfl) ?_
                      have J1088 : ∀ (y1088_0 : Int32) (hf : q_L_turn_J1088 u u1 u2 u3 u4 u5 r993 y1088_0 = some res) (H : Heap) (locs : List Loc) (hP : va_P D vwCl (wAR G ad b 20 u ++ wAR G ad1 b1 8 u1 ++ wAR G ad2 b2 6 u2 ++ wAR G ad3 b3 20 u3 ++ wAR G ad4 b4 30 u4 ++ wX6 G ad5 b5 u5) H) (hD : va_D A (wAR G ad b 20 u ++ wAR G ad1 b1 8 u1 ++ wAR G ad2 b2 6 u2 ++ wAR G ad3 b3 20 u3 ++ wAR G ad4 b4 30 u4 ++ wX6 G ad5 b5 u5)) (hS : va_S A s.heap H locs) (ls : Array Slot) (hl : lv_has ls 16 [(0, .ref sb), (1, .ref (ad5 b5)), (2, .ref (ad b)), (3, .ref (ad1 b1)), (4, .ref (ad2 b2)), (5, .ref (ad3 b3)), (6, .ref (ad4 b4)), (7, .int p7), (9, .int p9), (12, .int r993)]), W p l e room_1 s m args below meth c H locs cells slots Q (F0 m 1088 ls [.int y1088_0]) := by
                        intro y1088_0 hf H locs hP hD hS ls hl
                        unfold q_L_turn_J1088 at hf
                        refine lv_istore (lv' := [(13, .int y1088_0), (0, .ref sb), (1, .ref (ad5 b5)), (2, .ref (ad b)), (3, .ref (ad1 b1)), (4, .ref (ad2 b2)), (5, .ref (ad3 b3)), (6, .ref (ad4 b4)), (7, .int p7), (9, .int p9), (12, .int r993)]) hx hb dL_law_1088 hl (by decide) rfl (fun ls hl => ?_)
                        refine lv_aload_n hx hb dL_law_1090 rfl (lv_at hl 2 rfl) ?_
                        refine lv_iload hx hb dL_law_1091 (lv_at hl 10 rfl) ?_
                        refine lv_iload hx hb dL_law_1093 (lv_at hl 0 rfl) ?_
                        replace hf := zb_s hf
                        obtain ⟨r1095, hr1095, hf⟩ := hf
                        refine z_GVi (rest := []) C0 kL_134 (c_X6_set l D G ad5 (b5) u5 r993 y1088_0 r1095 hr1095) pz_6_5 pz_6_5.symm (ci := 7) (T := TX6) (N := 5) rfl rfl rfl ⟨Nat.le_of_ble_eq_true rfl, Nat.le_of_ble_eq_true rfl⟩ (Nat.le_of_ble_eq_true rfl) hcs rfl hl.1 hP hD hS dL_law_1095 (fun H locs hP hD hS => ?_)
                        replace hP : va_P D vwCl (wAR G ad b 20 u ++ wAR G ad1 b1 8 u1 ++ wAR G ad2 b2 6 u2 ++ wAR G ad3 b3 20 u3 ++ wAR G ad4 b4 30 u4 ++ wX6 G ad5 b5 ((r1095.2.1, u5.1.2.1, u5.1.2.2.1, u5.1.2.2.2.1, u5.1.2.2.2.2.1, u5.1.2.2.2.2.2.1, u5.1.2.2.2.2.2.2.1, u5.1.2.2.2.2.2.2.2.1, u5.1.2.2.2.2.2.2.2.2.1, u5.1.2.2.2.2.2.2.2.2.2.1, u5.1.2.2.2.2.2.2.2.2.2.2.1, u5.1.2.2.2.2.2.2.2.2.2.2.2.1, u5.1.2.2.2.2.2.2.2.2.2.2.2.2.1, u5.1.2.2.2.2.2.2.2.2.2.2.2.2.2.1, u5.1.2.2.2.2.2.2.2.2.2.2.2.2.2.2.1, u5.1.2.2.2.2.2.2.2.2.2.2.2.2.2.2.2.1, u5.1.2.2.2.2.2.2.2.2.2.2.2.2.2.2.2.2), u5.2.1, r1095.2.2, u5.2.2.2.1, u5.2.2.2.2)) H := hP
                        replace hD : va_D A (wAR G ad b 20 u ++ wAR G ad1 b1 8 u1 ++ wAR G ad2 b2 6 u2 ++ wAR G ad3 b3 20 u3 ++ wAR G ad4 b4 30 u4 ++ wX6 G ad5 b5 ((r1095.2.1, u5.1.2.1, u5.1.2.2.1, u5.1.2.2.2.1, u5.1.2.2.2.2.1, u5.1.2.2.2.2.2.1, u5.1.2.2.2.2.2.2.1, u5.1.2.2.2.2.2.2.2.1, u5.1.2.2.2.2.2.2.2.2.1, u5.1.2.2.2.2.2.2.2.2.2.1, u5.1.2.2.2.2.2.2.2.2.2.2.1, u5.1.2.2.2.2.2.2.2.2.2.2.2.1, u5.1.2.2.2.2.2.2.2.2.2.2.2.2.1, u5.1.2.2.2.2.2.2.2.2.2.2.2.2.2.1, u5.1.2.2.2.2.2.2.2.2.2.2.2.2.2.2.1, u5.1.2.2.2.2.2.2.2.2.2.2.2.2.2.2.2.1, u5.1.2.2.2.2.2.2.2.2.2.2.2.2.2.2.2.2), u5.2.1, r1095.2.2, u5.2.2.2.1, u5.2.2.2.2)) := hD
                        refine lv_aload_n hx hb dL_law_1098 rfl (lv_at hl 3 rfl) ?_
                        refine lv_bipush (v := 15) hx hb dL_law_1099 (by decide) ?_
                        refine lv_iload hx hb dL_law_1101 (lv_at hl 10 rfl) ?_
                        refine lv_iadd hx hb dL_law_1103 ?_
                        replace hf := zg_s hf
                        obtain ⟨hi1104, a1104, ea1104, hf⟩ := hf
                        refine z_iald hx hb hK hP 0 0 rfl rfl hi1104 ea1104 dL_law_1104 ?_
                        refine lv_icmp_eq (tgt := 1110) hx hb dL_law_1105 (by decide) (fun c1105 => ?_) (fun c1105 => ?_)
                        · replace hf := zi_p hf c1105
                          refine lv_aload_n hx hb dL_law_1110 rfl (lv_at hl 3 rfl) ?_
                          refine lv_bipush (v := 15) hx hb dL_law_1111 (by decide) ?_
                          refine lv_iload hx hb dL_law_1113 (lv_at hl 10 rfl) ?_
                          refine lv_iadd hx hb dL_law_1115 ?_
                          refine lv_iload hx hb dL_law_1116 (lv_at hl 0 rfl) ?_
                          replace hf := zs_s hf
                          obtain ⟨hi1118, s1118, es1118, hf⟩ := hf
                          refine z_iast (ws' := wAR G ad b 20 s1118 ++ wAR G ad1 b1 8 u1 ++ wAR G ad2 b2 6 u2 ++ wAR G ad3 b3 20 u3 ++ wAR G ad4 b4 30 u4 ++ wX6 G ad5 b5 ((r1095.2.1, u5.1.2.1, u5.1.2.2.1, u5.1.2.2.2.1, u5.1.2.2.2.2.1, u5.1.2.2.2.2.2.1, u5.1.2.2.2.2.2.2.1, u5.1.2.2.2.2.2.2.2.1, u5.1.2.2.2.2.2.2.2.2.1, u5.1.2.2.2.2.2.2.2.2.2.1, u5.1.2.2.2.2.2.2.2.2.2.2.1, u5.1.2.2.2.2.2.2.2.2.2.2.2.1, u5.1.2.2.2.2.2.2.2.2.2.2.2.2.1, u5.1.2.2.2.2.2.2.2.2.2.2.2.2.2.1, u5.1.2.2.2.2.2.2.2.2.2.2.2.2.2.2.1, u5.1.2.2.2.2.2.2.2.2.2.2.2.2.2.2.2.1, u5.1.2.2.2.2.2.2.2.2.2.2.2.2.2.2.2.2), u5.2.1, r1095.2.2, u5.2.2.2.1, u5.2.2.2.2)) hx hb hK hP hD hS 0 0 rfl rfl hi1118 es1118 rfl dL_law_1118 (fun H locs hP hD hS => ?_)
                          obtain rfl := zo hf
                          exact kk _ _ _ hP hD hS (lv_sub hl [1, 2, 3, 4, 5, 6, 7, 8, 9] rfl)
                        · replace hf := zi_n hf c1105
                          cases hf
                      refine lv_if_ne (tgt := 1015) hx hb dL_law_1000 (by decide) (fun c1000 => ?_) (fun c1000 => ?_)
                      · replace hf := zi_n hf c1000
                        refine lv_iload hx hb dL_law_1015 (lv_at hl 0 rfl) ?_
                        refine lv_iconst (v := 1) hx hb dL_law_1017 (by decide) ?_
                        refine lv_icmp_ne (tgt := 1035) hx hb dL_law_1018 (by decide) (fun c1018 => ?_) (fun c1018 => ?_)
                        · replace hf := zi_n hf c1018
                          refine lv_iload hx hb dL_law_1035 (lv_at hl 0 rfl) ?_
                          refine lv_iconst (v := 2) hx hb dL_law_1037 (by decide) ?_
                          refine lv_icmp_ne (tgt := 1055) hx hb dL_law_1038 (by decide) (fun c1038 => ?_) (fun c1038 => ?_)
                          · replace hf := zi_n hf c1038
                            refine lv_iload hx hb dL_law_1055 (lv_at hl 0 rfl) ?_
                            refine lv_iconst (v := 3) hx hb dL_law_1057 (by decide) ?_
                            refine lv_icmp_ne (tgt := 1075) hx hb dL_law_1058 (by decide) (fun c1058 => ?_) (fun c1058 => ?_)
                            · replace hf := zi_n hf c1058
                              refine lv_bipush (v := 50) hx hb dL_law_1075 (by decide) ?_
                              refine lv_iload hx hb dL_law_1077 (lv_at hl 11 rfl) ?_
                              refine lv_iconst (v := 3) hx hb dL_law_1079 (by decide) ?_
                              refine lv_ishr hx hb dL_law_1080 ?_
                              refine lv_sipush (v := 500) hx hb dL_law_1081 (by decide) ?_
                              replace hf := zb_s hf
                              obtain ⟨r1084, hr1084, hf⟩ := hf
                              refine z_GSi (rest := [.int 50]) C0 kL_89 (c_L_low l D G (p9 >>> (3 &&& 31)) 500 r1084 hr1084) (List.Perm.refl _) (List.Perm.refl _) rfl ⟨Nat.le_of_ble_eq_true rfl, Nat.le_of_ble_eq_true rfl⟩ (Nat.le_of_ble_eq_true rfl) hcs rfl hl.1 hP hD hS dL_law_1084 (fun H locs hP hD hS => ?_)
                              replace hP : va_P D vwCl (wAR G ad b 20 u ++ wAR G ad1 b1 8 u1 ++ wAR G ad2 b2 6 u2 ++ wAR G ad3 b3 20 u3 ++ wAR G ad4 b4 30 u4 ++ wX6 G ad5 b5 u5) H := hP
                              replace hD : va_D A (wAR G ad b 20 u ++ wAR G ad1 b1 8 u1 ++ wAR G ad2 b2 6 u2 ++ wAR G ad3 b3 20 u3 ++ wAR G ad4 b4 30 u4 ++ wX6 G ad5 b5 u5) := hD
                              refine lv_iadd hx hb dL_law_1087 ?_
                              exact J1088 (50 + r1084) hf _ _ hP hD hS _ (lv_sub hl [2, 3, 4, 5, 6, 7, 8, 9, 11, 0] rfl)
                            · replace hf := zi_p hf c1058
                              refine lv_iconst (v := 2) hx hb dL_law_1061 (by decide) ?_
                              refine lv_iload hx hb dL_law_1062 (lv_at hl 11 rfl) ?_
                              refine lv_iconst (v := 3) hx hb dL_law_1064 (by decide) ?_
                              refine lv_ishr hx hb dL_law_1065 ?_
                              refine lv_bipush (v := 8) hx hb dL_law_1066 (by decide) ?_
                              replace hf := zb_s hf
                              obtain ⟨r1068, hr1068, hf⟩ := hf
                              refine z_GSi (rest := [.int 2]) C0 kL_89 (c_L_low l D G (p9 >>> (3 &&& 31)) 8 r1068 hr1068) (List.Perm.refl _) (List.Perm.refl _) rfl ⟨Nat.le_of_ble_eq_true rfl, Nat.le_of_ble_eq_true rfl⟩ (Nat.le_of_ble_eq_true rfl) hcs rfl hl.1 hP hD hS dL_law_1068 (fun H locs hP hD hS => ?_)
                              replace hP : va_P D vwCl (wAR G ad b 20 u ++ wAR G ad1 b1 8 u1 ++ wAR G ad2 b2 6 u2 ++ wAR G ad3 b3 20 u3 ++ wAR G ad4 b4 30 u4 ++ wX6 G ad5 b5 u5) H := hP
                              replace hD : va_D A (wAR G ad b 20 u ++ wAR G ad1 b1 8 u1 ++ wAR G ad2 b2 6 u2 ++ wAR G ad3 b3 20 u3 ++ wAR G ad4 b4 30 u4 ++ wX6 G ad5 b5 u5) := hD
                              refine lv_iadd hx hb dL_law_1071 ?_
                              refine lv_goto (tgt := 1088) hx hb dL_law_1072 (by decide) ?_
                              exact J1088 (2 + r1068) hf _ _ hP hD hS _ (lv_sub hl [2, 3, 4, 5, 6, 7, 8, 9, 11, 0] rfl)
                          · replace hf := zi_p hf c1038
                            refine lv_iconst (v := 1) hx hb dL_law_1041 (by decide) ?_
                            refine lv_iload hx hb dL_law_1042 (lv_at hl 11 rfl) ?_
                            refine lv_iconst (v := 3) hx hb dL_law_1044 (by decide) ?_
                            refine lv_ishr hx hb dL_law_1045 ?_
                            refine lv_bipush (v := 9) hx hb dL_law_1046 (by decide) ?_
                            replace hf := zb_s hf
                            obtain ⟨r1048, hr1048, hf⟩ := hf
                            refine z_GSi (rest := [.int 1]) C0 kL_89 (c_L_low l D G (p9 >>> (3 &&& 31)) 9 r1048 hr1048) (List.Perm.refl _) (List.Perm.refl _) rfl ⟨Nat.le_of_ble_eq_true rfl, Nat.le_of_ble_eq_true rfl⟩ (Nat.le_of_ble_eq_true rfl) hcs rfl hl.1 hP hD hS dL_law_1048 (fun H locs hP hD hS => ?_)
                            replace hP : va_P D vwCl (wAR G ad b 20 u ++ wAR G ad1 b1 8 u1 ++ wAR G ad2 b2 6 u2 ++ wAR G ad3 b3 20 u3 ++ wAR G ad4 b4 30 u4 ++ wX6 G ad5 b5 u5) H := hP
                            replace hD : va_D A (wAR G ad b 20 u ++ wAR G ad1 b1 8 u1 ++ wAR G ad2 b2 6 u2 ++ wAR G ad3 b3 20 u3 ++ wAR G ad4 b4 30 u4 ++ wX6 G ad5 b5 u5) := hD
                            refine lv_iadd hx hb dL_law_1051 ?_
                            refine lv_goto (tgt := 1088) hx hb dL_law_1052 (by decide) ?_
                            exact J1088 (1 + r1048) hf _ _ hP hD hS _ (lv_sub hl [2, 3, 4, 5, 6, 7, 8, 9, 11, 0] rfl)
                        · replace hf := zi_p hf c1018
                          refine lv_iconst (v := 1) hx hb dL_law_1021 (by decide) ?_
                          refine lv_iload hx hb dL_law_1022 (lv_at hl 11 rfl) ?_
                          refine lv_iconst (v := 3) hx hb dL_law_1024 (by decide) ?_
                          refine lv_ishr hx hb dL_law_1025 ?_
                          refine lv_bipush (v := 20) hx hb dL_law_1026 (by decide) ?_
                          replace hf := zb_s hf
                          obtain ⟨r1028, hr1028, hf⟩ := hf
                          refine z_GSi (rest := [.int 1]) C0 kL_89 (c_L_low l D G (p9 >>> (3 &&& 31)) 20 r1028 hr1028) (List.Perm.refl _) (List.Perm.refl _) rfl ⟨Nat.le_of_ble_eq_true rfl, Nat.le_of_ble_eq_true rfl⟩ (Nat.le_of_ble_eq_true rfl) hcs rfl hl.1 hP hD hS dL_law_1028 (fun H locs hP hD hS => ?_)
                          replace hP : va_P D vwCl (wAR G ad b 20 u ++ wAR G ad1 b1 8 u1 ++ wAR G ad2 b2 6 u2 ++ wAR G ad3 b3 20 u3 ++ wAR G ad4 b4 30 u4 ++ wX6 G ad5 b5 u5) H := hP
                          replace hD : va_D A (wAR G ad b 20 u ++ wAR G ad1 b1 8 u1 ++ wAR G ad2 b2 6 u2 ++ wAR G ad3 b3 20 u3 ++ wAR G ad4 b4 30 u4 ++ wX6 G ad5 b5 u5) := hD
                          refine lv_iadd hx hb dL_law_1031 ?_
                          refine lv_goto (tgt := 1088) hx hb dL_law_1032 (by decide) ?_
                          exact J1088 (1 + r1028) hf _ _ hP hD hS _ (lv_sub hl [2, 3, 4, 5, 6, 7, 8, 9, 11, 0] rfl)
                      · replace hf := zi_p hf c1000
                        refine lv_iload hx hb dL_law_1003 (lv_at hl 11 rfl) ?_
                        refine lv_iconst (v := 3) hx hb dL_law_1005 (by decide) ?_
                        refine lv_ishr hx hb dL_law_1006 ?_
                        refine lv_bipush (v := 12) hx hb dL_law_1007 (by decide) ?_
                        replace hf := zb_s hf
                        obtain ⟨r1009, hr1009, hf⟩ := hf
                        refine z_GSi (rest := []) C0 kL_89 (c_L_low l D G (p9 >>> (3 &&& 31)) 12 r1009 hr1009) (List.Perm.refl _) (List.Perm.refl _) rfl ⟨Nat.le_of_ble_eq_true rfl, Nat.le_of_ble_eq_true rfl⟩ (Nat.le_of_ble_eq_true rfl) hcs rfl hl.1 hP hD hS dL_law_1009 (fun H locs hP hD hS => ?_)
                        replace hP : va_P D vwCl (wAR G ad b 20 u ++ wAR G ad1 b1 8 u1 ++ wAR G ad2 b2 6 u2 ++ wAR G ad3 b3 20 u3 ++ wAR G ad4 b4 30 u4 ++ wX6 G ad5 b5 u5) H := hP
                        replace hD : va_D A (wAR G ad b 20 u ++ wAR G ad1 b1 8 u1 ++ wAR G ad2 b2 6 u2 ++ wAR G ad3 b3 20 u3 ++ wAR G ad4 b4 30 u4 ++ wX6 G ad5 b5 u5) := hD
                        refine lv_goto (tgt := 1088) hx hb dL_law_1012 (by decide) ?_
                        exact J1088 r1009 hf _ _ hP hD hS _ (lv_sub hl [2, 3, 4, 5, 6, 7, 8, 9, 11, 0] rfl)
                    · replace hf := zi_p hf c912
                      refine lv_iconst (v := 1) hx hb dL_law_915 (by decide) ?_
                      refine lv_iload hx hb dL_law_916 (lv_at hl 10 rfl) ?_
                      refine lv_iconst (v := 2) hx hb dL_law_918 (by decide) ?_
                      replace hf := zb_s hf
                      obtain ⟨r919, hr919, hf⟩ := hf
                      refine z_GSi (rest := [.int 1]) C0 kL_89 (c_L_low l D G p9 2 r919 hr919) (List.Perm.refl _) (List.Perm.refl _) rfl ⟨Nat.le_of_ble_eq_true rfl, Nat.le_of_ble_eq_true rfl⟩ (Nat.le_of_ble_eq_true rfl) hcs rfl hl.1 hP hD hS dL_law_919 (fun H locs hP hD hS => ?_)
                      replace hP : va_P D vwCl (wAR G ad b 20 u ++ wAR G ad1 b1 8 u1 ++ wAR G ad2 b2 6 u2 ++ wAR G ad3 b3 20 u3 ++ wAR G ad4 b4 30 u4 ++ wX6 G ad5 b5 u5) H := hP
                      replace hD : va_D A (wAR G ad b 20 u ++ wAR G ad1 b1 8 u1 ++ wAR G ad2 b2 6 u2 ++ wAR G ad3 b3 20 u3 ++ wAR G ad4 b4 30 u4 ++ wX6 G ad5 b5 u5) := hD
                      refine lv_iadd hx hb dL_law_922 ?_
                      refine lv_istore (lv' := [(12, .int (1 + r919)), (11, .int r160), (0, .ref sb), (1, .ref (ad5 b5)), (2, .ref (ad b)), (3, .ref (ad1 b1)), (4, .ref (ad2 b2)), (5, .ref (ad3 b3)), (6, .ref (ad4 b4)), (7, .int p7), (8, .int p8), (9, .int p9), (10, .int y139_0)]) hx hb dL_law_923 hl (by decide) rfl (fun ls hl => ?_)
                      refine lv_aload_n hx hb dL_law_925 rfl (lv_at hl 4 rfl) ?_
                      refine lv_iconst (v := 3) hx hb dL_law_926 (by decide) ?_
                      refine z_iald (v := (u 3)) hx hb hK hP 0 0 rfl rfl (z_in rfl) rfl dL_law_927 ?_
                      refine lv_iload hx hb dL_law_928 (lv_at hl 0 rfl) ?_
                      refine lv_iadd hx hb dL_law_930 ?_
                      refine lv_bipush (v := 50) hx hb dL_law_931 (by decide) ?_
                      have J941 : ∀ (y941_0 : Int32) (hf : q_L_turn_J941 u u1 u2 u3 u4 u5 r919 y941_0 = some res) (H : Heap) (locs : List Loc) (hP : va_P D vwCl (wAR G ad b 20 u ++ wAR G ad1 b1 8 u1 ++ wAR G ad2 b2 6 u2 ++ wAR G ad3 b3 20 u3 ++ wAR G ad4 b4 30 u4 ++ wX6 G ad5 b5 u5) H) (hD : va_D A (wAR G ad b 20 u ++ wAR G ad1 b1 8 u1 ++ wAR G ad2 b2 6 u2 ++ wAR G ad3 b3 20 u3 ++ wAR G ad4 b4 30 u4 ++ wX6 G ad5 b5 u5)) (hS : va_S A s.heap H locs) (ls : Array Slot) (hl : lv_has ls 16 [(0, .ref sb), (1, .ref (ad5 b5)), (2, .ref (ad b)), (3, .ref (ad1 b1)), (4, .ref (ad2 b2)), (5, .ref (ad3 b3)), (6, .ref (ad4 b4)), (7, .int p7), (9, .int p9), (12, .int (1 + r919))]), W p l e room_1 s m args below meth c H locs cells slots Q (F0 m 941 ls [.int y941_0]) := by
                        intro y941_0 hf H locs hP hD hS ls hl
                        unfold q_L_turn_J941 at hf
                        refine lv_istore (lv' := [(13, .int y941_0), (0, .ref sb), (1, .ref (ad5 b5)), (2, .ref (ad b)), (3, .ref (ad1 b1)), (4, .ref (ad2 b2)), (5, .ref (ad3 b3)), (6, .ref (ad4 b4)), (7, .int p7), (9, .int p9), (12, .int (1 + r919))]) hx hb dL_law_941 hl (by decide) rfl (fun ls hl => ?_)
                        refine lv_aload_n hx hb dL_law_943 rfl (lv_at hl 2 rfl) ?_
                        refine lv_iload hx hb dL_law_944 (lv_at hl 10 rfl) ?_
                        replace hf := zb_s hf
                        obtain ⟨r946, hr946, hf⟩ := hf
                        refine z_GVi (rest := []) C0 kL_131 (c_X6_addSpares l D G ad5 (b5) u5 (1 + r919) r946 hr946) pz_6_5 pz_6_5.symm (ci := 7) (T := TX6) (N := 5) rfl rfl rfl ⟨Nat.le_of_ble_eq_true rfl, Nat.le_of_ble_eq_true rfl⟩ (Nat.le_of_ble_eq_true rfl) hcs rfl hl.1 hP hD hS dL_law_946 (fun H locs hP hD hS => ?_)
                        replace hP : va_P D vwCl (wAR G ad b 20 u ++ wAR G ad1 b1 8 u1 ++ wAR G ad2 b2 6 u2 ++ wAR G ad3 b3 20 u3 ++ wAR G ad4 b4 30 u4 ++ wX6 G ad5 b5 ((u5.1.1, u5.1.2.1, u5.1.2.2.1, u5.1.2.2.2.1, u5.1.2.2.2.2.1, u5.1.2.2.2.2.2.1, r946.2.1, u5.1.2.2.2.2.2.2.2.1, u5.1.2.2.2.2.2.2.2.2.1, u5.1.2.2.2.2.2.2.2.2.2.1, u5.1.2.2.2.2.2.2.2.2.2.2.1, u5.1.2.2.2.2.2.2.2.2.2.2.2.1, u5.1.2.2.2.2.2.2.2.2.2.2.2.2.1, u5.1.2.2.2.2.2.2.2.2.2.2.2.2.2.1, u5.1.2.2.2.2.2.2.2.2.2.2.2.2.2.2.1, u5.1.2.2.2.2.2.2.2.2.2.2.2.2.2.2.2.1, u5.1.2.2.2.2.2.2.2.2.2.2.2.2.2.2.2.2), u5.2.1, r946.2.2, u5.2.2.2.1, u5.2.2.2.2)) H := hP
                        replace hD : va_D A (wAR G ad b 20 u ++ wAR G ad1 b1 8 u1 ++ wAR G ad2 b2 6 u2 ++ wAR G ad3 b3 20 u3 ++ wAR G ad4 b4 30 u4 ++ wX6 G ad5 b5 ((u5.1.1, u5.1.2.1, u5.1.2.2.1, u5.1.2.2.2.1, u5.1.2.2.2.2.1, u5.1.2.2.2.2.2.1, r946.2.1, u5.1.2.2.2.2.2.2.2.1, u5.1.2.2.2.2.2.2.2.2.1, u5.1.2.2.2.2.2.2.2.2.2.1, u5.1.2.2.2.2.2.2.2.2.2.2.1, u5.1.2.2.2.2.2.2.2.2.2.2.2.1, u5.1.2.2.2.2.2.2.2.2.2.2.2.2.1, u5.1.2.2.2.2.2.2.2.2.2.2.2.2.2.1, u5.1.2.2.2.2.2.2.2.2.2.2.2.2.2.2.1, u5.1.2.2.2.2.2.2.2.2.2.2.2.2.2.2.2.1, u5.1.2.2.2.2.2.2.2.2.2.2.2.2.2.2.2.2), u5.2.1, r946.2.2, u5.2.2.2.1, u5.2.2.2.2)) := hD
                        refine lv_iload hx hb dL_law_949 (lv_at hl 0 rfl) ?_
                        have J965 : ∀ (y965_1 : Int32) (hf : q_L_turn_J965 u u1 u2 u3 u4 u5 r919 y941_0 r946 y965_1 = some res) (H : Heap) (locs : List Loc) (hP : va_P D vwCl (wAR G ad b 20 u ++ wAR G ad1 b1 8 u1 ++ wAR G ad2 b2 6 u2 ++ wAR G ad3 b3 20 u3 ++ wAR G ad4 b4 30 u4 ++ wX6 G ad5 b5 ((u5.1.1, u5.1.2.1, u5.1.2.2.1, u5.1.2.2.2.1, u5.1.2.2.2.2.1, u5.1.2.2.2.2.2.1, r946.2.1, u5.1.2.2.2.2.2.2.2.1, u5.1.2.2.2.2.2.2.2.2.1, u5.1.2.2.2.2.2.2.2.2.2.1, u5.1.2.2.2.2.2.2.2.2.2.2.1, u5.1.2.2.2.2.2.2.2.2.2.2.2.1, u5.1.2.2.2.2.2.2.2.2.2.2.2.2.1, u5.1.2.2.2.2.2.2.2.2.2.2.2.2.2.1, u5.1.2.2.2.2.2.2.2.2.2.2.2.2.2.2.1, u5.1.2.2.2.2.2.2.2.2.2.2.2.2.2.2.2.1, u5.1.2.2.2.2.2.2.2.2.2.2.2.2.2.2.2.2), u5.2.1, r946.2.2, u5.2.2.2.1, u5.2.2.2.2)) H) (hD : va_D A (wAR G ad b 20 u ++ wAR G ad1 b1 8 u1 ++ wAR G ad2 b2 6 u2 ++ wAR G ad3 b3 20 u3 ++ wAR G ad4 b4 30 u4 ++ wX6 G ad5 b5 ((u5.1.1, u5.1.2.1, u5.1.2.2.1, u5.1.2.2.2.1, u5.1.2.2.2.2.1, u5.1.2.2.2.2.2.1, r946.2.1, u5.1.2.2.2.2.2.2.2.1, u5.1.2.2.2.2.2.2.2.2.1, u5.1.2.2.2.2.2.2.2.2.2.1, u5.1.2.2.2.2.2.2.2.2.2.2.1, u5.1.2.2.2.2.2.2.2.2.2.2.2.1, u5.1.2.2.2.2.2.2.2.2.2.2.2.2.1, u5.1.2.2.2.2.2.2.2.2.2.2.2.2.2.1, u5.1.2.2.2.2.2.2.2.2.2.2.2.2.2.2.1, u5.1.2.2.2.2.2.2.2.2.2.2.2.2.2.2.2.1, u5.1.2.2.2.2.2.2.2.2.2.2.2.2.2.2.2.2), u5.2.1, r946.2.2, u5.2.2.2.1, u5.2.2.2.2))) (hS : va_S A s.heap H locs) (ls : Array Slot) (hl : lv_has ls 16 [(0, .ref sb), (1, .ref (ad5 b5)), (2, .ref (ad b)), (3, .ref (ad1 b1)), (4, .ref (ad2 b2)), (5, .ref (ad3 b3)), (6, .ref (ad4 b4)), (7, .int p7), (9, .int p9), (12, .int (1 + r919)), (13, .int y941_0)]), W p l e room_1 s m args below meth c H locs cells slots Q (F0 m 965 ls [.int y965_1, .int r946.1]) := by
                          intro y965_1 hf H locs hP hD hS ls hl
                          unfold q_L_turn_J965 at hf
                          refine lv_icmp_eq (tgt := 970) hx hb dL_law_965 (by decide) (fun c965 => ?_) (fun c965 => ?_)
                          · replace hf := zi_p hf c965
                            refine lv_aload_n hx hb dL_law_970 rfl (lv_at hl 2 rfl) ?_
                            refine lv_iconst (v := 3) hx hb dL_law_971 (by decide) ?_
                            refine lv_dup2_11 hx hb dL_law_972 rfl rfl ?_
                            refine z_iald (v := (u 3)) hx hb hK hP 0 0 rfl rfl (z_in rfl) rfl dL_law_973 ?_
                            refine lv_iload hx hb dL_law_974 (lv_at hl 10 rfl) ?_
                            have J985 : ∀ (y985_3 : Int32) (hf : q_L_turn_J985 u u1 u2 u3 u4 u5 r946 y985_3 = some res) (H : Heap) (locs : List Loc) (hP : va_P D vwCl (wAR G ad b 20 u ++ wAR G ad1 b1 8 u1 ++ wAR G ad2 b2 6 u2 ++ wAR G ad3 b3 20 u3 ++ wAR G ad4 b4 30 u4 ++ wX6 G ad5 b5 ((u5.1.1, u5.1.2.1, u5.1.2.2.1, u5.1.2.2.2.1, u5.1.2.2.2.2.1, u5.1.2.2.2.2.2.1, r946.2.1, u5.1.2.2.2.2.2.2.2.1, u5.1.2.2.2.2.2.2.2.2.1, u5.1.2.2.2.2.2.2.2.2.2.1, u5.1.2.2.2.2.2.2.2.2.2.2.1, u5.1.2.2.2.2.2.2.2.2.2.2.2.1, u5.1.2.2.2.2.2.2.2.2.2.2.2.2.1, u5.1.2.2.2.2.2.2.2.2.2.2.2.2.2.1, u5.1.2.2.2.2.2.2.2.2.2.2.2.2.2.2.1, u5.1.2.2.2.2.2.2.2.2.2.2.2.2.2.2.2.1, u5.1.2.2.2.2.2.2.2.2.2.2.2.2.2.2.2.2), u5.2.1, r946.2.2, u5.2.2.2.1, u5.2.2.2.2)) H) (hD : va_D A (wAR G ad b 20 u ++ wAR G ad1 b1 8 u1 ++ wAR G ad2 b2 6 u2 ++ wAR G ad3 b3 20 u3 ++ wAR G ad4 b4 30 u4 ++ wX6 G ad5 b5 ((u5.1.1, u5.1.2.1, u5.1.2.2.1, u5.1.2.2.2.1, u5.1.2.2.2.2.1, u5.1.2.2.2.2.2.1, r946.2.1, u5.1.2.2.2.2.2.2.2.1, u5.1.2.2.2.2.2.2.2.2.1, u5.1.2.2.2.2.2.2.2.2.2.1, u5.1.2.2.2.2.2.2.2.2.2.2.1, u5.1.2.2.2.2.2.2.2.2.2.2.2.1, u5.1.2.2.2.2.2.2.2.2.2.2.2.2.1, u5.1.2.2.2.2.2.2.2.2.2.2.2.2.2.1, u5.1.2.2.2.2.2.2.2.2.2.2.2.2.2.2.1, u5.1.2.2.2.2.2.2.2.2.2.2.2.2.2.2.2.1, u5.1.2.2.2.2.2.2.2.2.2.2.2.2.2.2.2.2), u5.2.1, r946.2.2, u5.2.2.2.1, u5.2.2.2.2))) (hS : va_S A s.heap H locs) (ls : Array Slot) (hl : lv_has ls 16 [(0, .ref sb), (1, .ref (ad5 b5)), (2, .ref (ad b)), (3, .ref (ad1 b1)), (4, .ref (ad2 b2)), (5, .ref (ad3 b3)), (6, .ref (ad4 b4)), (7, .int p7), (9, .int p9)]), W p l e room_1 s m args below meth c H locs cells slots Q (F0 m 985 ls [.int y985_3, .int (u 3), .int 3, .ref (ad b)]) := by
                              intro y985_3 hf H locs hP hD hS ls hl
                              unfold q_L_turn_J985 at hf
                              refine lv_iadd hx hb dL_law_985 ?_
                              replace hf := zn_s hf
                              obtain ⟨s986, es986, hf⟩ := hf
                              refine z_iast (ws' := wAR G ad b 20 s986 ++ wAR G ad1 b1 8 u1 ++ wAR G ad2 b2 6 u2 ++ wAR G ad3 b3 20 u3 ++ wAR G ad4 b4 30 u4 ++ wX6 G ad5 b5 ((u5.1.1, u5.1.2.1, u5.1.2.2.1, u5.1.2.2.2.1, u5.1.2.2.2.2.1, u5.1.2.2.2.2.2.1, r946.2.1, u5.1.2.2.2.2.2.2.2.1, u5.1.2.2.2.2.2.2.2.2.1, u5.1.2.2.2.2.2.2.2.2.2.1, u5.1.2.2.2.2.2.2.2.2.2.2.1, u5.1.2.2.2.2.2.2.2.2.2.2.2.1, u5.1.2.2.2.2.2.2.2.2.2.2.2.2.1, u5.1.2.2.2.2.2.2.2.2.2.2.2.2.2.1, u5.1.2.2.2.2.2.2.2.2.2.2.2.2.2.2.1, u5.1.2.2.2.2.2.2.2.2.2.2.2.2.2.2.2.1, u5.1.2.2.2.2.2.2.2.2.2.2.2.2.2.2.2.2), u5.2.1, r946.2.2, u5.2.2.2.1, u5.2.2.2.2)) hx hb hK hP hD hS 0 0 rfl rfl (z_in rfl) es986 rfl dL_law_986 (fun H locs hP hD hS => ?_)
                              refine lv_goto (tgt := 1119) hx hb dL_law_987 (by decide) ?_
                              obtain rfl := zo hf
                              exact kk _ _ _ hP hD hS (lv_sub hl [0, 1, 2, 3, 4, 5, 6, 7, 8] rfl)
                            refine lv_if_eq (tgt := 984) hx hb dL_law_976 (by decide) (fun c976 => ?_) (fun c976 => ?_)
                            · replace hf := zi_p hf c976
                              refine lv_iconst (v := 0) hx hb dL_law_984 (by decide) ?_
                              exact J985 0 hf _ _ hP hD hS _ (lv_sub hl [0, 1, 2, 3, 4, 5, 6, 7, 8] rfl)
                            · replace hf := zi_n hf c976
                              refine lv_iload hx hb dL_law_979 (lv_at hl 9 rfl) ?_
                              refine lv_goto (tgt := 985) hx hb dL_law_981 (by decide) ?_
                              exact J985 (1 + r919) hf _ _ hP hD hS _ (lv_sub hl [0, 1, 2, 3, 4, 5, 6, 7, 8] rfl)
                          · replace hf := zi_n hf c965
                            cases hf
                        refine lv_if_eq (tgt := 963) hx hb dL_law_951 (by decide) (fun c951 => ?_) (fun c951 => ?_)
                        · replace hf := zi_p hf c951
                          refine lv_bipush (v := (-4)) hx hb dL_law_963 (by decide) ?_
                          exact J965 (-4) hf _ _ hP hD hS _ (lv_sub hl [1, 2, 3, 4, 5, 6, 7, 8, 9, 10, 0] rfl)
                        · replace hf := zi_n hf c951
                          refine lv_aload_n hx hb dL_law_954 rfl (lv_at hl 3 rfl) ?_
                          refine lv_iconst (v := 3) hx hb dL_law_955 (by decide) ?_
                          refine z_iald (v := (u 3)) hx hb hK hP 0 0 rfl rfl (z_in rfl) rfl dL_law_956 ?_
                          refine lv_iload hx hb dL_law_957 (lv_at hl 10 rfl) ?_
                          refine lv_iadd hx hb dL_law_959 ?_
                          refine lv_goto (tgt := 965) hx hb dL_law_960 (by decide) ?_
                          exact J965 ((u 3) + (1 + r919)) hf _ _ hP hD hS _ (lv_sub hl [1, 2, 3, 4, 5, 6, 7, 8, 9, 10, 0] rfl)
                      refine lv_icmp_gt (tgt := 940) hx hb dL_law_933 (by decide) (fun c933 => ?_) (fun c933 => ?_)
                      · replace hf := zi_p hf c933
                        refine lv_iconst (v := 0) hx hb dL_law_940 (by decide) ?_
                        exact J941 0 hf _ _ hP hD hS _ (lv_sub hl [2, 3, 4, 5, 6, 7, 8, 9, 11, 0] rfl)
                      · replace hf := zi_n hf c933
                        refine lv_iconst (v := 1) hx hb dL_law_936 (by decide) ?_
                        refine lv_goto (tgt := 941) hx hb dL_law_937 (by decide) ?_
                        exact J941 1 hf _ _ hP hD hS _ (lv_sub hl [2, 3, 4, 5, 6, 7, 8, 9, 11, 0] rfl)
                  · replace hf := zi_p hf c875
                    refine lv_iload hx hb dL_law_878 (lv_at hl 10 rfl) ?_
                    refine lv_iconst (v := 3) hx hb dL_law_880 (by decide) ?_
                    replace hf := zb_s hf
                    obtain ⟨r881, hr881, hf⟩ := hf
                    refine z_GSi (rest := []) C0 kL_89 (c_L_low l D G p9 3 r881 hr881) (List.Perm.refl _) (List.Perm.refl _) rfl ⟨Nat.le_of_ble_eq_true rfl, Nat.le_of_ble_eq_true rfl⟩ (Nat.le_of_ble_eq_true rfl) hcs rfl hl.1 hP hD hS dL_law_881 (fun H locs hP hD hS => ?_)
                    replace hP : va_P D vwCl (wAR G ad b 20 u ++ wAR G ad1 b1 8 u1 ++ wAR G ad2 b2 6 u2 ++ wAR G ad3 b3 20 u3 ++ wAR G ad4 b4 30 u4 ++ wX6 G ad5 b5 u5) H := hP
                    replace hD : va_D A (wAR G ad b 20 u ++ wAR G ad1 b1 8 u1 ++ wAR G ad2 b2 6 u2 ++ wAR G ad3 b3 20 u3 ++ wAR G ad4 b4 30 u4 ++ wX6 G ad5 b5 u5) := hD
                    refine lv_istore (lv' := [(12, .int r881), (11, .int r160), (0, .ref sb), (1, .ref (ad5 b5)), (2, .ref (ad b)), (3, .ref (ad1 b1)), (4, .ref (ad2 b2)), (5, .ref (ad3 b3)), (6, .ref (ad4 b4)), (7, .int p7), (8, .int p8), (9, .int p9), (10, .int y139_0)]) hx hb dL_law_884 hl (by decide) rfl (fun ls hl => ?_)
                    refine lv_aload_n hx hb dL_law_886 rfl (lv_at hl 3 rfl) ?_
                    refine lv_iload hx hb dL_law_887 (lv_at hl 0 rfl) ?_
                    replace hf := zb_s hf
                    obtain ⟨r889, hr889, hf⟩ := hf
                    refine z_GVi (rest := []) C0 kL_128 (c_X6_setWay l D G ad5 (b5) u5 r881 r889 hr889) pz_6_5 pz_6_5.symm (ci := 7) (T := TX6) (N := 5) rfl rfl rfl ⟨Nat.le_of_ble_eq_true rfl, Nat.le_of_ble_eq_true rfl⟩ (Nat.le_of_ble_eq_true rfl) hcs rfl hl.1 hP hD hS dL_law_889 (fun H locs hP hD hS => ?_)
                    replace hP : va_P D vwCl (wAR G ad b 20 u ++ wAR G ad1 b1 8 u1 ++ wAR G ad2 b2 6 u2 ++ wAR G ad3 b3 20 u3 ++ wAR G ad4 b4 30 u4 ++ wX6 G ad5 b5 ((u5.1.1, u5.1.2.1, u5.1.2.2.1, u5.1.2.2.2.1, u5.1.2.2.2.2.1, r889.2.1, u5.1.2.2.2.2.2.2.1, u5.1.2.2.2.2.2.2.2.1, u5.1.2.2.2.2.2.2.2.2.1, u5.1.2.2.2.2.2.2.2.2.2.1, u5.1.2.2.2.2.2.2.2.2.2.2.1, u5.1.2.2.2.2.2.2.2.2.2.2.2.1, u5.1.2.2.2.2.2.2.2.2.2.2.2.2.1, u5.1.2.2.2.2.2.2.2.2.2.2.2.2.2.1, u5.1.2.2.2.2.2.2.2.2.2.2.2.2.2.2.1, u5.1.2.2.2.2.2.2.2.2.2.2.2.2.2.2.2.1, u5.1.2.2.2.2.2.2.2.2.2.2.2.2.2.2.2.2), u5.2.1, r889.2.2, u5.2.2.2.1, u5.2.2.2.2)) H := hP
                    replace hD : va_D A (wAR G ad b 20 u ++ wAR G ad1 b1 8 u1 ++ wAR G ad2 b2 6 u2 ++ wAR G ad3 b3 20 u3 ++ wAR G ad4 b4 30 u4 ++ wX6 G ad5 b5 ((u5.1.1, u5.1.2.1, u5.1.2.2.1, u5.1.2.2.2.1, u5.1.2.2.2.2.1, r889.2.1, u5.1.2.2.2.2.2.2.1, u5.1.2.2.2.2.2.2.2.1, u5.1.2.2.2.2.2.2.2.2.1, u5.1.2.2.2.2.2.2.2.2.2.1, u5.1.2.2.2.2.2.2.2.2.2.2.1, u5.1.2.2.2.2.2.2.2.2.2.2.2.1, u5.1.2.2.2.2.2.2.2.2.2.2.2.2.1, u5.1.2.2.2.2.2.2.2.2.2.2.2.2.2.1, u5.1.2.2.2.2.2.2.2.2.2.2.2.2.2.2.1, u5.1.2.2.2.2.2.2.2.2.2.2.2.2.2.2.2.1, u5.1.2.2.2.2.2.2.2.2.2.2.2.2.2.2.2.2), u5.2.1, r889.2.2, u5.2.2.2.1, u5.2.2.2.2)) := hD
                    refine lv_aload_n hx hb dL_law_892 rfl (lv_at hl 4 rfl) ?_
                    refine lv_iconst (v := 4) hx hb dL_law_893 (by decide) ?_
                    refine z_iald (v := (u 4)) hx hb hK hP 0 0 rfl rfl (z_in rfl) rfl dL_law_894 ?_
                    refine lv_icmp_eq (tgt := 900) hx hb dL_law_895 (by decide) (fun c895 => ?_) (fun c895 => ?_)
                    · replace hf := zi_p hf c895
                      refine lv_aload_n hx hb dL_law_900 rfl (lv_at hl 4 rfl) ?_
                      refine lv_iconst (v := 4) hx hb dL_law_901 (by decide) ?_
                      refine lv_iload hx hb dL_law_902 (lv_at hl 0 rfl) ?_
                      replace hf := zn_s hf
                      obtain ⟨s904, es904, hf⟩ := hf
                      refine z_iast (ws' := wAR G ad b 20 s904 ++ wAR G ad1 b1 8 u1 ++ wAR G ad2 b2 6 u2 ++ wAR G ad3 b3 20 u3 ++ wAR G ad4 b4 30 u4 ++ wX6 G ad5 b5 ((u5.1.1, u5.1.2.1, u5.1.2.2.1, u5.1.2.2.2.1, u5.1.2.2.2.2.1, r889.2.1, u5.1.2.2.2.2.2.2.1, u5.1.2.2.2.2.2.2.2.1, u5.1.2.2.2.2.2.2.2.2.1, u5.1.2.2.2.2.2.2.2.2.2.1, u5.1.2.2.2.2.2.2.2.2.2.2.1, u5.1.2.2.2.2.2.2.2.2.2.2.2.1, u5.1.2.2.2.2.2.2.2.2.2.2.2.2.1, u5.1.2.2.2.2.2.2.2.2.2.2.2.2.2.1, u5.1.2.2.2.2.2.2.2.2.2.2.2.2.2.2.1, u5.1.2.2.2.2.2.2.2.2.2.2.2.2.2.2.2.1, u5.1.2.2.2.2.2.2.2.2.2.2.2.2.2.2.2.2), u5.2.1, r889.2.2, u5.2.2.2.1, u5.2.2.2.2)) hx hb hK hP hD hS 0 0 rfl rfl (z_in rfl) es904 rfl dL_law_904 (fun H locs hP hD hS => ?_)
                      refine lv_goto (tgt := 1119) hx hb dL_law_905 (by decide) ?_
                      obtain rfl := zo hf
                      exact kk _ _ _ hP hD hS (lv_sub hl [2, 3, 4, 5, 6, 7, 8, 9, 11] rfl)
                    · replace hf := zi_n hf c895
                      cases hf
                · replace hf := zi_p hf c809
                  refine lv_aload_n hx hb dL_law_812 rfl (lv_at hl 3 rfl) ?_
                  refine lv_iconst (v := 5) hx hb dL_law_813 (by decide) ?_
                  refine z_iald (v := (u 5)) hx hb hK hP 0 0 rfl rfl (z_in rfl) rfl dL_law_814 ?_
                  have J823 : ∀ (y823_0 : Int32) (hf : q_L_turn_J823 u u1 u2 u3 u4 u5 y823_0 = some res) (H : Heap) (locs : List Loc) (hP : va_P D vwCl (wAR G ad b 20 u ++ wAR G ad1 b1 8 u1 ++ wAR G ad2 b2 6 u2 ++ wAR G ad3 b3 20 u3 ++ wAR G ad4 b4 30 u4 ++ wX6 G ad5 b5 u5) H) (hD : va_D A (wAR G ad b 20 u ++ wAR G ad1 b1 8 u1 ++ wAR G ad2 b2 6 u2 ++ wAR G ad3 b3 20 u3 ++ wAR G ad4 b4 30 u4 ++ wX6 G ad5 b5 u5)) (hS : va_S A s.heap H locs) (ls : Array Slot) (hl : lv_has ls 16 [(0, .ref sb), (1, .ref (ad5 b5)), (2, .ref (ad b)), (3, .ref (ad1 b1)), (4, .ref (ad2 b2)), (5, .ref (ad3 b3)), (6, .ref (ad4 b4)), (7, .int p7), (9, .int p9)]), W p l e room_1 s m args below meth c H locs cells slots Q (F0 m 823 ls [.int y823_0]) := by
                    intro y823_0 hf H locs hP hD hS ls hl
                    unfold q_L_turn_J823 at hf
                    refine lv_istore (lv' := [(12, .int y823_0), (0, .ref sb), (1, .ref (ad5 b5)), (2, .ref (ad b)), (3, .ref (ad1 b1)), (4, .ref (ad2 b2)), (5, .ref (ad3 b3)), (6, .ref (ad4 b4)), (7, .int p7), (9, .int p9)]) hx hb dL_law_823 hl (by decide) rfl (fun ls hl => ?_)
                    refine lv_aload_n hx hb dL_law_825 rfl (lv_at hl 2 rfl) ?_
                    replace hf := zb_s hf
                    obtain ⟨r826, hr826, hf⟩ := hf
                    refine z_GVi (rest := []) C0 kL_125 (c_X6_giveUp l D G ad5 (b5) u5 r826 hr826) pz_6_5 pz_6_5.symm (ci := 7) (T := TX6) (N := 5) rfl rfl rfl ⟨Nat.le_of_ble_eq_true rfl, Nat.le_of_ble_eq_true rfl⟩ (Nat.le_of_ble_eq_true rfl) hcs rfl hl.1 hP hD hS dL_law_826 (fun H locs hP hD hS => ?_)
                    replace hP : va_P D vwCl (wAR G ad b 20 u ++ wAR G ad1 b1 8 u1 ++ wAR G ad2 b2 6 u2 ++ wAR G ad3 b3 20 u3 ++ wAR G ad4 b4 30 u4 ++ wX6 G ad5 b5 r826.2) H := hP
                    replace hD : va_D A (wAR G ad b 20 u ++ wAR G ad1 b1 8 u1 ++ wAR G ad2 b2 6 u2 ++ wAR G ad3 b3 20 u3 ++ wAR G ad4 b4 30 u4 ++ wX6 G ad5 b5 r826.2) := hD
                    refine lv_iload hx hb dL_law_829 (lv_at hl 0 rfl) ?_
                    have J843 : ∀ (y843_1 : Int32) (hf : q_L_turn_J843 u u1 u2 u3 u4 y823_0 r826 y843_1 = some res) (H : Heap) (locs : List Loc) (hP : va_P D vwCl (wAR G ad b 20 u ++ wAR G ad1 b1 8 u1 ++ wAR G ad2 b2 6 u2 ++ wAR G ad3 b3 20 u3 ++ wAR G ad4 b4 30 u4 ++ wX6 G ad5 b5 r826.2) H) (hD : va_D A (wAR G ad b 20 u ++ wAR G ad1 b1 8 u1 ++ wAR G ad2 b2 6 u2 ++ wAR G ad3 b3 20 u3 ++ wAR G ad4 b4 30 u4 ++ wX6 G ad5 b5 r826.2)) (hS : va_S A s.heap H locs) (ls : Array Slot) (hl : lv_has ls 16 [(0, .ref sb), (1, .ref (ad5 b5)), (2, .ref (ad b)), (3, .ref (ad1 b1)), (4, .ref (ad2 b2)), (5, .ref (ad3 b3)), (6, .ref (ad4 b4)), (7, .int p7), (9, .int p9), (12, .int y823_0)]), W p l e room_1 s m args below meth c H locs cells slots Q (F0 m 843 ls [.int y843_1, .int r826.1]) := by
                      intro y843_1 hf H locs hP hD hS ls hl
                      unfold q_L_turn_J843 at hf
                      refine lv_icmp_eq (tgt := 848) hx hb dL_law_843 (by decide) (fun c843 => ?_) (fun c843 => ?_)
                      · replace hf := zi_p hf c843
                        refine lv_iload hx hb dL_law_848 (lv_at hl 9 rfl) ?_
                        refine lv_if_eq (tgt := 868) hx hb dL_law_850 (by decide) (fun c850 => ?_) (fun c850 => ?_)
                        · replace hf := zi_p hf c850
                          refine lv_goto (tgt := 1119) hx hb dL_law_868 (by decide) ?_
                          obtain rfl := zo hf
                          exact kk _ _ _ hP hD hS (lv_sub hl [0, 1, 2, 3, 4, 5, 6, 7, 8] rfl)
                        · replace hf := zi_n hf c850
                          refine lv_aload_n hx hb dL_law_853 rfl (lv_at hl 2 rfl) ?_
                          refine lv_iconst (v := 5) hx hb dL_law_854 (by decide) ?_
                          refine lv_bipush (v := (-6)) hx hb dL_law_855 (by decide) ?_
                          replace hf := zn_s hf
                          obtain ⟨s857, es857, hf⟩ := hf
                          refine z_iast (ws' := wAR G ad b 20 s857 ++ wAR G ad1 b1 8 u1 ++ wAR G ad2 b2 6 u2 ++ wAR G ad3 b3 20 u3 ++ wAR G ad4 b4 30 u4 ++ wX6 G ad5 b5 r826.2) hx hb hK hP hD hS 0 0 rfl rfl (z_in rfl) es857 rfl dL_law_857 (fun H locs hP hD hS => ?_)
                          refine lv_aload_n hx hb dL_law_858 rfl (lv_at hl 2 rfl) ?_
                          refine lv_bipush (v := 6) hx hb dL_law_859 (by decide) ?_
                          refine lv_iconst (v := 0) hx hb dL_law_861 (by decide) ?_
                          replace hf := zn_s hf
                          obtain ⟨s862, es862, hf⟩ := hf
                          refine z_iast (ws' := wAR G ad b 20 s862 ++ wAR G ad1 b1 8 u1 ++ wAR G ad2 b2 6 u2 ++ wAR G ad3 b3 20 u3 ++ wAR G ad4 b4 30 u4 ++ wX6 G ad5 b5 r826.2) hx hb hK hP hD hS 0 0 rfl rfl (z_in rfl) es862 rfl dL_law_862 (fun H locs hP hD hS => ?_)
                          refine lv_aload_n hx hb dL_law_863 rfl (lv_at hl 2 rfl) ?_
                          refine lv_bipush (v := 7) hx hb dL_law_864 (by decide) ?_
                          refine lv_iconst (v := 0) hx hb dL_law_866 (by decide) ?_
                          replace hf := zn_s hf
                          obtain ⟨s867, es867, hf⟩ := hf
                          refine z_iast (ws' := wAR G ad b 20 s867 ++ wAR G ad1 b1 8 u1 ++ wAR G ad2 b2 6 u2 ++ wAR G ad3 b3 20 u3 ++ wAR G ad4 b4 30 u4 ++ wX6 G ad5 b5 r826.2) hx hb hK hP hD hS 0 0 rfl rfl (z_in rfl) es867 rfl dL_law_867 (fun H locs hP hD hS => ?_)
                          refine lv_goto (tgt := 1119) hx hb dL_law_868 (by decide) ?_
                          obtain rfl := zo hf
                          exact kk _ _ _ hP hD hS (lv_sub hl [0, 1, 2, 3, 4, 5, 6, 7, 8] rfl)
                      · replace hf := zi_n hf c843
                        cases hf
                    refine lv_if_eq (tgt := 841) hx hb dL_law_831 (by decide) (fun c831 => ?_) (fun c831 => ?_)
                    · replace hf := zi_p hf c831
                      refine lv_bipush (v := (-3)) hx hb dL_law_841 (by decide) ?_
                      exact J843 (-3) hf _ _ hP hD hS _ (lv_sub hl [1, 2, 3, 4, 5, 6, 7, 8, 9, 0] rfl)
                    · replace hf := zi_n hf c831
                      refine lv_aload_n hx hb dL_law_834 rfl (lv_at hl 3 rfl) ?_
                      refine lv_bipush (v := 6) hx hb dL_law_835 (by decide) ?_
                      refine z_iald (v := (u 6)) hx hb hK hP 0 0 rfl rfl (z_in rfl) rfl dL_law_837 ?_
                      refine lv_goto (tgt := 843) hx hb dL_law_838 (by decide) ?_
                      exact J843 (u 6) hf _ _ hP hD hS _ (lv_sub hl [1, 2, 3, 4, 5, 6, 7, 8, 9, 0] rfl)
                  refine lv_if_lt (tgt := 822) hx hb dL_law_815 (by decide) (fun c815 => ?_) (fun c815 => ?_)
                  · replace hf := zi_p hf c815
                    refine lv_iconst (v := 0) hx hb dL_law_822 (by decide) ?_
                    exact J823 0 hf _ _ hP hD hS _ (lv_sub hl [1, 2, 3, 4, 5, 6, 7, 8, 10] rfl)
                  · replace hf := zi_n hf c815
                    refine lv_iconst (v := 1) hx hb dL_law_818 (by decide) ?_
                    refine lv_goto (tgt := 823) hx hb dL_law_819 (by decide) ?_
                    exact J823 1 hf _ _ hP hD hS _ (lv_sub hl [1, 2, 3, 4, 5, 6, 7, 8, 10] rfl)
              · replace hf := zi_n hf c712
                refine lv_iconst (v := 1) hx hb dL_law_715 (by decide) ?_
                refine lv_iload hx hb dL_law_716 (lv_at hl 10 rfl) ?_
                refine lv_iconst (v := 3) hx hb dL_law_718 (by decide) ?_
                refine lv_ishr hx hb dL_law_719 ?_
                refine lv_iload hx hb dL_law_720 (lv_at hl 9 rfl) ?_
                refine lv_bipush (v := 6) hx hb dL_law_722 (by decide) ?_
                refine lv_ishr hx hb dL_law_724 ?_
                refine lv_iconst (v := 3) hx hb dL_law_725 (by decide) ?_
                replace hf := zb_s hf
                obtain ⟨r726, hr726, hf⟩ := hf
                refine z_GSi (rest := [.int (p9 >>> (3 &&& 31)), .int 1]) C0 kL_89 (c_L_low l D G (p8 >>> (6 &&& 31)) 3 r726 hr726) (List.Perm.refl _) (List.Perm.refl _) rfl ⟨Nat.le_of_ble_eq_true rfl, Nat.le_of_ble_eq_true rfl⟩ (Nat.le_of_ble_eq_true rfl) hcs rfl hl.1 hP hD hS dL_law_726 (fun H locs hP hD hS => ?_)
                replace hP : va_P D vwCl (wAR G ad b 20 u ++ wAR G ad1 b1 8 u1 ++ wAR G ad2 b2 6 u2 ++ wAR G ad3 b3 20 u3 ++ wAR G ad4 b4 30 u4 ++ wX6 G ad5 b5 u5) H := hP
                replace hD : va_D A (wAR G ad b 20 u ++ wAR G ad1 b1 8 u1 ++ wAR G ad2 b2 6 u2 ++ wAR G ad3 b3 20 u3 ++ wAR G ad4 b4 30 u4 ++ wX6 G ad5 b5 u5) := hD
                have J740 : ∀ (y740_2 : Int32) (hf : q_L_turn_J740 u u1 u2 u3 u4 u5 p9 y740_2 = some res) (H : Heap) (locs : List Loc) (hP : va_P D vwCl (wAR G ad b 20 u ++ wAR G ad1 b1 8 u1 ++ wAR G ad2 b2 6 u2 ++ wAR G ad3 b3 20 u3 ++ wAR G ad4 b4 30 u4 ++ wX6 G ad5 b5 u5) H) (hD : va_D A (wAR G ad b 20 u ++ wAR G ad1 b1 8 u1 ++ wAR G ad2 b2 6 u2 ++ wAR G ad3 b3 20 u3 ++ wAR G ad4 b4 30 u4 ++ wX6 G ad5 b5 u5)) (hS : va_S A s.heap H locs) (ls : Array Slot) (hl : lv_has ls 16 [(0, .ref sb), (1, .ref (ad5 b5)), (2, .ref (ad b)), (3, .ref (ad1 b1)), (4, .ref (ad2 b2)), (5, .ref (ad3 b3)), (6, .ref (ad4 b4)), (7, .int p7), (9, .int p9)]), W p l e room_1 s m args below meth c H locs cells slots Q (F0 m 740 ls [.int y740_2, .int (p9 >>> (3 &&& 31)), .int 1]) := by
                  intro y740_2 hf H locs hP hD hS ls hl
                  unfold q_L_turn_J740 at hf
                  replace hf := zb_s hf
                  obtain ⟨r740, hr740, hf⟩ := hf
                  refine z_GSi (rest := [.int 1]) C0 kL_89 (c_L_low l D G (p9 >>> (3 &&& 31)) y740_2 r740 hr740) (List.Perm.refl _) (List.Perm.refl _) rfl ⟨Nat.le_of_ble_eq_true rfl, Nat.le_of_ble_eq_true rfl⟩ (Nat.le_of_ble_eq_true rfl) hcs rfl hl.1 hP hD hS dL_law_740 (fun H locs hP hD hS => ?_)
                  replace hP : va_P D vwCl (wAR G ad b 20 u ++ wAR G ad1 b1 8 u1 ++ wAR G ad2 b2 6 u2 ++ wAR G ad3 b3 20 u3 ++ wAR G ad4 b4 30 u4 ++ wX6 G ad5 b5 u5) H := hP
                  replace hD : va_D A (wAR G ad b 20 u ++ wAR G ad1 b1 8 u1 ++ wAR G ad2 b2 6 u2 ++ wAR G ad3 b3 20 u3 ++ wAR G ad4 b4 30 u4 ++ wX6 G ad5 b5 u5) := hD
                  refine lv_iadd hx hb dL_law_743 ?_
                  refine lv_istore (lv' := [(12, .int (1 + r740)), (0, .ref sb), (1, .ref (ad5 b5)), (2, .ref (ad b)), (3, .ref (ad1 b1)), (4, .ref (ad2 b2)), (5, .ref (ad3 b3)), (6, .ref (ad4 b4)), (7, .int p7), (9, .int p9)]) hx hb dL_law_744 hl (by decide) rfl (fun ls hl => ?_)
                  refine lv_iconst (v := 0) hx hb dL_law_746 (by decide) ?_
                  refine lv_istore (lv' := [(13, .int 0), (12, .int (1 + r740)), (0, .ref sb), (1, .ref (ad5 b5)), (2, .ref (ad b)), (3, .ref (ad1 b1)), (4, .ref (ad2 b2)), (5, .ref (ad3 b3)), (6, .ref (ad4 b4)), (7, .int p7), (9, .int p9)]) hx hb dL_law_747 hl (by decide) rfl (fun ls hl => ?_)
                  refine lv_iconst (v := 0) hx hb dL_law_749 (by decide) ?_
                  refine lv_istore (lv' := [(14, .int 0), (13, .int 0), (12, .int (1 + r740)), (0, .ref sb), (1, .ref (ad5 b5)), (2, .ref (ad b)), (3, .ref (ad1 b1)), (4, .ref (ad2 b2)), (5, .ref (ad3 b3)), (6, .ref (ad4 b4)), (7, .int p7), (9, .int p9)]) hx hb dL_law_750 hl (by decide) rfl (fun ls hl => ?_)
                  have J789 : ∀ (x789_13 : Int32) (w789_0 : Nat → Int32) (w789_1 : Nat → Int32) (w789_2 : Nat → Int32) (w789_3 : Nat → Int32) (w789_4 : Nat → Int32) (hf : q_L_turn_J789 u5 r740 x789_13 w789_0 w789_1 w789_2 w789_3 w789_4 = some res) (H : Heap) (locs : List Loc) (hP : va_P D vwCl (wAR G ad b 20 w789_0 ++ wAR G ad1 b1 8 w789_1 ++ wAR G ad2 b2 6 w789_2 ++ wAR G ad3 b3 20 w789_3 ++ wAR G ad4 b4 30 w789_4 ++ wX6 G ad5 b5 u5) H) (hD : va_D A (wAR G ad b 20 w789_0 ++ wAR G ad1 b1 8 w789_1 ++ wAR G ad2 b2 6 w789_2 ++ wAR G ad3 b3 20 w789_3 ++ wAR G ad4 b4 30 w789_4 ++ wX6 G ad5 b5 u5)) (hS : va_S A s.heap H locs) (ls : Array Slot) (hl : lv_has ls 16 [(0, .ref sb), (1, .ref (ad5 b5)), (2, .ref (ad b)), (3, .ref (ad1 b1)), (4, .ref (ad2 b2)), (5, .ref (ad3 b3)), (6, .ref (ad4 b4)), (7, .int p7), (9, .int p9), (12, .int (1 + r740)), (13, .int x789_13)]), W p l e room_1 s m args below meth c H locs cells slots Q (F0 m 789 ls []) := by
                    intro x789_13 w789_0 w789_1 w789_2 w789_3 w789_4 hf H locs hP hD hS ls hl
                    unfold q_L_turn_J789 at hf
                    refine lv_aload_n hx hb dL_law_789 rfl (lv_at hl 1 rfl) ?_
                    refine lv_iload hx hb dL_law_790 (lv_at hl 9 rfl) ?_
                    replace hf := zb_s hf
                    obtain ⟨r792, hr792, hf⟩ := hf
                    refine z_GVi (rest := []) C0 kL_122 (c_X6_quiet l D G ad5 (b5) u5 (1 + r740) r792 hr792) pz_6_5 pz_6_5.symm (ci := 7) (T := TX6) (N := 5) rfl rfl rfl ⟨Nat.le_of_ble_eq_true rfl, Nat.le_of_ble_eq_true rfl⟩ (Nat.le_of_ble_eq_true rfl) hcs rfl hl.1 hP hD hS dL_law_792 (fun H locs hP hD hS => ?_)
                    replace hP : va_P D vwCl (wAR G ad b 20 w789_0 ++ wAR G ad1 b1 8 w789_1 ++ wAR G ad2 b2 6 w789_2 ++ wAR G ad3 b3 20 w789_3 ++ wAR G ad4 b4 30 w789_4 ++ wX6 G ad5 b5 (r792.2.1, u5.2.1, r792.2.2, u5.2.2.2.1, u5.2.2.2.2)) H := hP
                    replace hD : va_D A (wAR G ad b 20 w789_0 ++ wAR G ad1 b1 8 w789_1 ++ wAR G ad2 b2 6 w789_2 ++ wAR G ad3 b3 20 w789_3 ++ wAR G ad4 b4 30 w789_4 ++ wX6 G ad5 b5 (r792.2.1, u5.2.1, r792.2.2, u5.2.2.2.1, u5.2.2.2.2)) := hD
                    refine lv_iload hx hb dL_law_795 (lv_at hl 10 rfl) ?_
                    refine lv_icmp_eq (tgt := 802) hx hb dL_law_797 (by decide) (fun c797 => ?_) (fun c797 => ?_)
                    · replace hf := zi_p hf c797
                      refine lv_goto (tgt := 1119) hx hb dL_law_802 (by decide) ?_
                      obtain rfl := zo hf
                      exact kk _ _ _ hP hD hS (lv_sub hl [0, 1, 2, 3, 4, 5, 6, 7, 8] rfl)
                    · replace hf := zi_n hf c797
                      cases hf
                  replace hf := zb_s hf
                  obtain ⟨bb752, hz752, hk752⟩ := hf
                  have L752 : ∀ (n752 : Nat) (v752 : Int32 × Int32 × (Nat → Int32) × (Nat → Int32) × (Nat → Int32) × (Nat → Int32) × (Nat → Int32)) (hz752 : zl n752 (q_L_turn_L752 r740) v752 = some bb752) (H : Heap) (locs : List Loc) (hP : va_P D vwCl (wAR G ad b 20 v752.2.2.1 ++ wAR G ad1 b1 8 v752.2.2.2.1 ++ wAR G ad2 b2 6 v752.2.2.2.2.1 ++ wAR G ad3 b3 20 v752.2.2.2.2.2.1 ++ wAR G ad4 b4 30 v752.2.2.2.2.2.2 ++ wX6 G ad5 b5 u5) H) (hD : va_D A (wAR G ad b 20 v752.2.2.1 ++ wAR G ad1 b1 8 v752.2.2.2.1 ++ wAR G ad2 b2 6 v752.2.2.2.2.1 ++ wAR G ad3 b3 20 v752.2.2.2.2.2.1 ++ wAR G ad4 b4 30 v752.2.2.2.2.2.2 ++ wX6 G ad5 b5 u5)) (hS : va_S A s.heap H locs) (ls : Array Slot) (hl : lv_has ls 16 [(0, .ref sb), (1, .ref (ad5 b5)), (2, .ref (ad b)), (3, .ref (ad1 b1)), (4, .ref (ad2 b2)), (5, .ref (ad3 b3)), (6, .ref (ad4 b4)), (7, .int p7), (9, .int p9), (12, .int (1 + r740)), (13, .int v752.1), (14, .int v752.2.1)]), W p l e room_1 s m args below meth c H locs cells slots Q (F0 m 752 ls []) := by
                    intro n752
                    induction n752 with
                    | zero => intro v752 hz752; exact (zl_0 hz752).elim
                    | succ n752 ih752 =>
                      intro v752 hz752 H locs hP hD hS ls hl
                      obtain ⟨o752, hf, hz752⟩ := zl_s hz752
                      unfold q_L_turn_L752 at hf
                      refine lv_iload hx hb dL_law_752 (lv_at hl 11 rfl) ?_
                      refine lv_iload hx hb dL_law_754 (lv_at hl 9 rfl) ?_
                      refine lv_icmp_ge (tgt := 789) hx hb dL_law_756 (by decide) (fun c756 => ?_) (fun c756 => ?_)
                      · replace hf := zi_p hf c756
                        have hb752 := (zk_r hf hz752).symm
                        subst hb752
                        replace hf := hk752
                        exact J789 v752.1 v752.2.2.1 v752.2.2.2.1 v752.2.2.2.2.1 v752.2.2.2.2.2.1 v752.2.2.2.2.2.2 hf _ _ hP hD hS _ (lv_sub hl [0, 1, 2, 3, 4, 5, 6, 7, 8, 9, 10] rfl)
                      · replace hf := zi_n hf c756
                        refine lv_iload hx hb dL_law_759 (lv_at hl 10 rfl) ?_
                        refine lv_aload_n hx hb dL_law_761 rfl (lv_at hl 2 rfl) ?_
                        refine lv_aload_n hx hb dL_law_762 rfl (lv_at hl 3 rfl) ?_
                        refine lv_aload hx hb dL_law_763 (lv_at hl 4 rfl) ?_
                        refine lv_aload hx hb dL_law_765 (lv_at hl 5 rfl) ?_
                        refine lv_aload hx hb dL_law_767 (lv_at hl 6 rfl) ?_
                        replace hf := zb_s hf
                        obtain ⟨r769, hr769, hf⟩ := hf
                        refine z_GSi (rest := [.int v752.1]) C0 kL_28 (c_L_tick l D G ad (b) ad1 (b1) ad2 (b2) ad3 (b3) ad4 (b4) v752.2.2.1 v752.2.2.2.1 v752.2.2.2.2.1 v752.2.2.2.2.2.1 v752.2.2.2.2.2.2 r769 hr769) pz_6_0_1_2_3_4 pz_6_0_1_2_3_4.symm rfl ⟨Nat.le_of_ble_eq_true rfl, Nat.le_of_ble_eq_true rfl⟩ (Nat.le_of_ble_eq_true rfl) hcs rfl hl.1 hP hD hS dL_law_769 (fun H locs hP hD hS => ?_)
                        replace hP : va_P D vwCl (wAR G ad b 20 r769.2.1 ++ wAR G ad1 b1 8 r769.2.2.1 ++ wAR G ad2 b2 6 r769.2.2.2.1 ++ wAR G ad3 b3 20 r769.2.2.2.2.1 ++ wAR G ad4 b4 30 r769.2.2.2.2.2 ++ wX6 G ad5 b5 u5) H := hP
                        replace hD : va_D A (wAR G ad b 20 r769.2.1 ++ wAR G ad1 b1 8 r769.2.2.1 ++ wAR G ad2 b2 6 r769.2.2.2.1 ++ wAR G ad3 b3 20 r769.2.2.2.2.1 ++ wAR G ad4 b4 30 r769.2.2.2.2.2 ++ wX6 G ad5 b5 u5) := hD
                        refine lv_if_ge (tgt := 779) hx hb dL_law_772 (by decide) (fun c772 => ?_) (fun c772 => ?_)
                        · replace hf := zi_p hf c772
                          refine lv_iconst (v := 1) hx hb dL_law_779 (by decide) ?_
                          refine lv_iadd hx hb dL_law_780 ?_
                          refine lv_istore (lv' := [(13, .int (v752.1 + 1)), (0, .ref sb), (1, .ref (ad5 b5)), (2, .ref (ad b)), (3, .ref (ad1 b1)), (4, .ref (ad2 b2)), (5, .ref (ad3 b3)), (6, .ref (ad4 b4)), (7, .int p7), (9, .int p9), (12, .int (1 + r740)), (14, .int v752.2.1)]) hx hb dL_law_781 hl (by decide) rfl (fun ls hl => ?_)
                          refine lv_iinc (v := (v752.2.1 + 1)) (lv' := [(14, .int (v752.2.1 + 1)), (13, .int (v752.1 + 1)), (0, .ref sb), (1, .ref (ad5 b5)), (2, .ref (ad b)), (3, .ref (ad1 b1)), (4, .ref (ad2 b2)), (5, .ref (ad3 b3)), (6, .ref (ad4 b4)), (7, .int p7), (9, .int p9), (12, .int (1 + r740))]) hx hb dL_law_783 hl (k := 11) rfl rfl (by decide) rfl (fun ls hl => ?_)
                          refine lv_goto (tgt := 752) hx hb dL_law_786 (by decide) ?_
                          exact ih752 _ (zk_l hf hz752) _ _ hP hD hS _ (lv_sub hl [2, 3, 4, 5, 6, 7, 8, 9, 10, 11, 1, 0] rfl)
                        · replace hf := zi_n hf c772
                          refine lv_iconst (v := 0) hx hb dL_law_775 (by decide) ?_
                          refine lv_goto (tgt := 780) hx hb dL_law_776 (by decide) ?_
                          refine lv_iadd hx hb dL_law_780 ?_
                          refine lv_istore (lv' := [(13, .int (v752.1 + 0)), (0, .ref sb), (1, .ref (ad5 b5)), (2, .ref (ad b)), (3, .ref (ad1 b1)), (4, .ref (ad2 b2)), (5, .ref (ad3 b3)), (6, .ref (ad4 b4)), (7, .int p7), (9, .int p9), (12, .int (1 + r740)), (14, .int v752.2.1)]) hx hb dL_law_781 hl (by decide) rfl (fun ls hl => ?_)
                          refine lv_iinc (v := (v752.2.1 + 1)) (lv' := [(14, .int (v752.2.1 + 1)), (13, .int (v752.1 + 0)), (0, .ref sb), (1, .ref (ad5 b5)), (2, .ref (ad b)), (3, .ref (ad1 b1)), (4, .ref (ad2 b2)), (5, .ref (ad3 b3)), (6, .ref (ad4 b4)), (7, .int p7), (9, .int p9), (12, .int (1 + r740))]) hx hb dL_law_783 hl (k := 11) rfl rfl (by decide) rfl (fun ls hl => ?_)
                          refine lv_goto (tgt := 752) hx hb dL_law_786 (by decide) ?_
                          exact ih752 _ (zk_l hf hz752) _ _ hP hD hS _ (lv_sub hl [2, 3, 4, 5, 6, 7, 8, 9, 10, 11, 1, 0] rfl)
                  exact L752 _ _ hz752 _ _ hP hD hS _ (lv_sub hl [3, 4, 5, 6, 7, 8, 9, 10, 11, 2, 1, 0] rfl)
                refine lv_if_ne (tgt := 738) hx hb dL_law_729 (by decide) (fun c729 => ?_) (fun c729 => ?_)
                · replace hf := zi_n hf c729
                  refine lv_bipush (v := 40) hx hb dL_law_738 (by decide) ?_
                  exact J740 40 hf _ _ hP hD hS _ (lv_sub hl [1, 2, 3, 4, 5, 6, 7, 8, 10] rfl)
                · replace hf := zi_p hf c729
                  refine lv_sipush (v := 300) hx hb dL_law_732 (by decide) ?_
                  refine lv_goto (tgt := 740) hx hb dL_law_735 (by decide) ?_
                  exact J740 300 hf _ _ hP hD hS _ (lv_sub hl [1, 2, 3, 4, 5, 6, 7, 8, 10] rfl)
            · replace hf := zi_n hf c465
              refine lv_iconst (v := 1) hx hb dL_law_468 (by decide) ?_
              refine lv_iload hx hb dL_law_469 (lv_at hl 10 rfl) ?_
              refine lv_iconst (v := 3) hx hb dL_law_471 (by decide) ?_
              refine lv_ishr hx hb dL_law_472 ?_
              refine lv_iload hx hb dL_law_473 (lv_at hl 9 rfl) ?_
              refine lv_bipush (v := 6) hx hb dL_law_475 (by decide) ?_
              refine lv_ishr hx hb dL_law_477 ?_
              refine lv_iconst (v := 3) hx hb dL_law_478 (by decide) ?_
              replace hf := zb_s hf
              obtain ⟨r479, hr479, hf⟩ := hf
              refine z_GSi (rest := [.int (p9 >>> (3 &&& 31)), .int 1]) C0 kL_89 (c_L_low l D G (p8 >>> (6 &&& 31)) 3 r479 hr479) (List.Perm.refl _) (List.Perm.refl _) rfl ⟨Nat.le_of_ble_eq_true rfl, Nat.le_of_ble_eq_true rfl⟩ (Nat.le_of_ble_eq_true rfl) hcs rfl hl.1 hP hD hS dL_law_479 (fun H locs hP hD hS => ?_)
              replace hP : va_P D vwCl (wAR G ad b 20 u ++ wAR G ad1 b1 8 u1 ++ wAR G ad2 b2 6 u2 ++ wAR G ad3 b3 20 u3 ++ wAR G ad4 b4 30 u4 ++ wX6 G ad5 b5 u5) H := hP
              replace hD : va_D A (wAR G ad b 20 u ++ wAR G ad1 b1 8 u1 ++ wAR G ad2 b2 6 u2 ++ wAR G ad3 b3 20 u3 ++ wAR G ad4 b4 30 u4 ++ wX6 G ad5 b5 u5) := hD
              have J493 : ∀ (y493_2 : Int32) (hf : q_L_turn_J493 u u1 u2 u3 u4 u5 p9 r160 y493_2 = some res) (H : Heap) (locs : List Loc) (hP : va_P D vwCl (wAR G ad b 20 u ++ wAR G ad1 b1 8 u1 ++ wAR G ad2 b2 6 u2 ++ wAR G ad3 b3 20 u3 ++ wAR G ad4 b4 30 u4 ++ wX6 G ad5 b5 u5) H) (hD : va_D A (wAR G ad b 20 u ++ wAR G ad1 b1 8 u1 ++ wAR G ad2 b2 6 u2 ++ wAR G ad3 b3 20 u3 ++ wAR G ad4 b4 30 u4 ++ wX6 G ad5 b5 u5)) (hS : va_S A s.heap H locs) (ls : Array Slot) (hl : lv_has ls 16 [(0, .ref sb), (1, .ref (ad5 b5)), (2, .ref (ad b)), (3, .ref (ad1 b1)), (4, .ref (ad2 b2)), (5, .ref (ad3 b3)), (6, .ref (ad4 b4)), (7, .int p7), (9, .int p9), (11, .int r160)]), W p l e room_1 s m args below meth c H locs cells slots Q (F0 m 493 ls [.int y493_2, .int (p9 >>> (3 &&& 31)), .int 1]) := by
                intro y493_2 hf H locs hP hD hS ls hl
                unfold q_L_turn_J493 at hf
                replace hf := zb_s hf
                obtain ⟨r493, hr493, hf⟩ := hf
                refine z_GSi (rest := [.int 1]) C0 kL_89 (c_L_low l D G (p9 >>> (3 &&& 31)) y493_2 r493 hr493) (List.Perm.refl _) (List.Perm.refl _) rfl ⟨Nat.le_of_ble_eq_true rfl, Nat.le_of_ble_eq_true rfl⟩ (Nat.le_of_ble_eq_true rfl) hcs rfl hl.1 hP hD hS dL_law_493 (fun H locs hP hD hS => ?_)
                replace hP : va_P D vwCl (wAR G ad b 20 u ++ wAR G ad1 b1 8 u1 ++ wAR G ad2 b2 6 u2 ++ wAR G ad3 b3 20 u3 ++ wAR G ad4 b4 30 u4 ++ wX6 G ad5 b5 u5) H := hP
                replace hD : va_D A (wAR G ad b 20 u ++ wAR G ad1 b1 8 u1 ++ wAR G ad2 b2 6 u2 ++ wAR G ad3 b3 20 u3 ++ wAR G ad4 b4 30 u4 ++ wX6 G ad5 b5 u5) := hD
                refine lv_iadd hx hb dL_law_496 ?_
                refine lv_istore (lv' := [(12, .int (1 + r493)), (0, .ref sb), (1, .ref (ad5 b5)), (2, .ref (ad b)), (3, .ref (ad1 b1)), (4, .ref (ad2 b2)), (5, .ref (ad3 b3)), (6, .ref (ad4 b4)), (7, .int p7), (9, .int p9), (11, .int r160)]) hx hb dL_law_497 hl (by decide) rfl (fun ls hl => ?_)
                refine lv_iconst (v := 0) hx hb dL_law_499 (by decide) ?_
                refine lv_istore (lv' := [(13, .int 0), (12, .int (1 + r493)), (0, .ref sb), (1, .ref (ad5 b5)), (2, .ref (ad b)), (3, .ref (ad1 b1)), (4, .ref (ad2 b2)), (5, .ref (ad3 b3)), (6, .ref (ad4 b4)), (7, .int p7), (9, .int p9), (11, .int r160)]) hx hb dL_law_500 hl (by decide) rfl (fun ls hl => ?_)
                refine lv_aload_n hx hb dL_law_502 rfl (lv_at hl 4 rfl) ?_
                refine lv_iconst (v := 0) hx hb dL_law_503 (by decide) ?_
                refine lv_dup2_11 hx hb dL_law_504 rfl rfl ?_
                refine z_iald (v := (u 0)) hx hb hK hP 0 0 rfl rfl (z_in rfl) rfl dL_law_505 ?_
                refine lv_iload hx hb dL_law_506 (lv_at hl 1 rfl) ?_
                refine lv_iadd hx hb dL_law_508 ?_
                replace hf := zn_s hf
                obtain ⟨s509, es509, hf⟩ := hf
                refine z_iast (ws' := wAR G ad b 20 s509 ++ wAR G ad1 b1 8 u1 ++ wAR G ad2 b2 6 u2 ++ wAR G ad3 b3 20 u3 ++ wAR G ad4 b4 30 u4 ++ wX6 G ad5 b5 u5) hx hb hK hP hD hS 0 0 rfl rfl (z_in rfl) es509 rfl dL_law_509 (fun H locs hP hD hS => ?_)
                refine lv_aload_n hx hb dL_law_510 rfl (lv_at hl 4 rfl) ?_
                refine lv_iconst (v := 1) hx hb dL_law_511 (by decide) ?_
                refine lv_iconst (v := 0) hx hb dL_law_512 (by decide) ?_
                replace hf := zn_s hf
                obtain ⟨s513, es513, hf⟩ := hf
                refine z_iast (ws' := wAR G ad b 20 s513 ++ wAR G ad1 b1 8 u1 ++ wAR G ad2 b2 6 u2 ++ wAR G ad3 b3 20 u3 ++ wAR G ad4 b4 30 u4 ++ wX6 G ad5 b5 u5) hx hb hK hP hD hS 0 0 rfl rfl (z_in rfl) es513 rfl dL_law_513 (fun H locs hP hD hS => ?_)
                refine lv_aload_n hx hb dL_law_514 rfl (lv_at hl 4 rfl) ?_
                refine lv_iconst (v := 5) hx hb dL_law_515 (by decide) ?_
                refine z_iald (v := (s513 5)) hx hb hK hP 0 0 rfl rfl (z_in rfl) rfl dL_law_516 ?_
                have J560 : ∀ (w560_0 : Nat → Int32) (w560_1 : Nat → Int32) (hf : q_L_turn_J560 u1 u2 u3 u5 r160 r493 w560_0 w560_1 = some res) (H : Heap) (locs : List Loc) (hP : va_P D vwCl (wAR G ad b 20 w560_0 ++ wAR G ad1 b1 8 u1 ++ wAR G ad2 b2 6 u2 ++ wAR G ad3 b3 20 u3 ++ wAR G ad4 b4 30 w560_1 ++ wX6 G ad5 b5 u5) H) (hD : va_D A (wAR G ad b 20 w560_0 ++ wAR G ad1 b1 8 u1 ++ wAR G ad2 b2 6 u2 ++ wAR G ad3 b3 20 u3 ++ wAR G ad4 b4 30 w560_1 ++ wX6 G ad5 b5 u5)) (hS : va_S A s.heap H locs) (ls : Array Slot) (hl : lv_has ls 16 [(0, .ref sb), (1, .ref (ad5 b5)), (2, .ref (ad b)), (3, .ref (ad1 b1)), (4, .ref (ad2 b2)), (5, .ref (ad3 b3)), (6, .ref (ad4 b4)), (7, .int p7), (9, .int p9), (11, .int r160), (12, .int (1 + r493)), (13, .int 0)]), W p l e room_1 s m args below meth c H locs cells slots Q (F0 m 560 ls []) := by
                  intro w560_0 w560_1 hf H locs hP hD hS ls hl
                  unfold q_L_turn_J560 at hf
                  refine lv_iconst (v := 0) hx hb dL_law_560 (by decide) ?_
                  refine lv_istore (lv' := [(14, .int 0), (0, .ref sb), (1, .ref (ad5 b5)), (2, .ref (ad b)), (3, .ref (ad1 b1)), (4, .ref (ad2 b2)), (5, .ref (ad3 b3)), (6, .ref (ad4 b4)), (7, .int p7), (9, .int p9), (11, .int r160), (12, .int (1 + r493)), (13, .int 0)]) hx hb dL_law_561 hl (by decide) rfl (fun ls hl => ?_)
                  have J617 : ∀ (x617_13 : Int32) (hf : q_L_turn_J617 u1 u2 u3 u5 r160 r493 w560_0 w560_1 x617_13 = some res) (H : Heap) (locs : List Loc) (hP : va_P D vwCl (wAR G ad b 20 w560_0 ++ wAR G ad1 b1 8 u1 ++ wAR G ad2 b2 6 u2 ++ wAR G ad3 b3 20 u3 ++ wAR G ad4 b4 30 w560_1 ++ wX6 G ad5 b5 u5) H) (hD : va_D A (wAR G ad b 20 w560_0 ++ wAR G ad1 b1 8 u1 ++ wAR G ad2 b2 6 u2 ++ wAR G ad3 b3 20 u3 ++ wAR G ad4 b4 30 w560_1 ++ wX6 G ad5 b5 u5)) (hS : va_S A s.heap H locs) (ls : Array Slot) (hl : lv_has ls 16 [(0, .ref sb), (1, .ref (ad5 b5)), (2, .ref (ad b)), (3, .ref (ad1 b1)), (4, .ref (ad2 b2)), (5, .ref (ad3 b3)), (6, .ref (ad4 b4)), (7, .int p7), (9, .int p9), (11, .int r160), (12, .int (1 + r493)), (13, .int x617_13)]), W p l e room_1 s m args below meth c H locs cells slots Q (F0 m 617 ls []) := by
                    intro x617_13 hf H locs hP hD hS ls hl
                    unfold q_L_turn_J617 at hf
                    refine lv_iload hx hb dL_law_617 (lv_at hl 11 rfl) ?_
                    have J682 : ∀ (w682_0 : Nat → Int32) (w682_1 : Nat → Int32) (w682_2 : Nat → Int32) (hf : q_L_turn_J682 u1 u3 u5 r160 r493 x617_13 w682_0 w682_1 w682_2 = some res) (H : Heap) (locs : List Loc) (hP : va_P D vwCl (wAR G ad b 20 w682_0 ++ wAR G ad1 b1 8 u1 ++ wAR G ad2 b2 6 w682_1 ++ wAR G ad3 b3 20 u3 ++ wAR G ad4 b4 30 w682_2 ++ wX6 G ad5 b5 u5) H) (hD : va_D A (wAR G ad b 20 w682_0 ++ wAR G ad1 b1 8 u1 ++ wAR G ad2 b2 6 w682_1 ++ wAR G ad3 b3 20 u3 ++ wAR G ad4 b4 30 w682_2 ++ wX6 G ad5 b5 u5)) (hS : va_S A s.heap H locs) (ls : Array Slot) (hl : lv_has ls 16 [(0, .ref sb), (1, .ref (ad5 b5)), (2, .ref (ad b)), (3, .ref (ad1 b1)), (4, .ref (ad2 b2)), (5, .ref (ad3 b3)), (6, .ref (ad4 b4)), (7, .int p7), (9, .int p9), (11, .int r160), (12, .int (1 + r493)), (13, .int x617_13)]), W p l e room_1 s m args below meth c H locs cells slots Q (F0 m 682 ls []) := by
                      intro w682_0 w682_1 w682_2 hf H locs hP hD hS ls hl
                      unfold q_L_turn_J682 at hf
                      refine lv_aload_n hx hb dL_law_682 rfl (lv_at hl 1 rfl) ?_
                      refine lv_iload hx hb dL_law_683 (lv_at hl 9 rfl) ?_
                      refine lv_iload hx hb dL_law_685 (lv_at hl 10 rfl) ?_
                      replace hf := zb_s hf
                      obtain ⟨r687, hr687, hf⟩ := hf
                      refine z_GVi (rest := []) C0 kL_119 (c_X6_read l D G ad5 (b5) u5 r160 (1 + r493) r687 hr687) pz_6_5 pz_6_5.symm (ci := 7) (T := TX6) (N := 5) rfl rfl rfl ⟨Nat.le_of_ble_eq_true rfl, Nat.le_of_ble_eq_true rfl⟩ (Nat.le_of_ble_eq_true rfl) hcs rfl hl.1 hP hD hS dL_law_687 (fun H locs hP hD hS => ?_)
                      replace hP : va_P D vwCl (wAR G ad b 20 w682_0 ++ wAR G ad1 b1 8 u1 ++ wAR G ad2 b2 6 w682_1 ++ wAR G ad3 b3 20 u3 ++ wAR G ad4 b4 30 w682_2 ++ wX6 G ad5 b5 (r687.2.1, u5.2.1, r687.2.2, u5.2.2.2.1, u5.2.2.2.2)) H := hP
                      replace hD : va_D A (wAR G ad b 20 w682_0 ++ wAR G ad1 b1 8 u1 ++ wAR G ad2 b2 6 w682_1 ++ wAR G ad3 b3 20 u3 ++ wAR G ad4 b4 30 w682_2 ++ wX6 G ad5 b5 (r687.2.1, u5.2.1, r687.2.2, u5.2.2.2.1, u5.2.2.2.2)) := hD
                      refine lv_iload hx hb dL_law_690 (lv_at hl 11 rfl) ?_
                      refine lv_if_eq (tgt := 699) hx hb dL_law_692 (by decide) (fun c692 => ?_) (fun c692 => ?_)
                      · replace hf := zi_p hf c692
                        refine lv_iconst (v := 0) hx hb dL_law_699 (by decide) ?_
                        refine lv_icmp_eq (tgt := 705) hx hb dL_law_700 (by decide) (fun c700 => ?_) (fun c700 => ?_)
                        · replace hf := zi_p hf c700
                          refine lv_goto (tgt := 1119) hx hb dL_law_705 (by decide) ?_
                          obtain rfl := zo hf
                          exact kk _ _ _ hP hD hS (lv_sub hl [0, 1, 2, 3, 4, 5, 6, 7, 8] rfl)
                        · replace hf := zi_n hf c700
                          cases hf
                      · replace hf := zi_n hf c692
                        refine lv_iconst (v := 1) hx hb dL_law_695 (by decide) ?_
                        refine lv_goto (tgt := 700) hx hb dL_law_696 (by decide) ?_
                        refine lv_icmp_eq (tgt := 705) hx hb dL_law_700 (by decide) (fun c700 => ?_) (fun c700 => ?_)
                        · replace hf := zi_p hf c700
                          refine lv_goto (tgt := 1119) hx hb dL_law_705 (by decide) ?_
                          obtain rfl := zo hf
                          exact kk _ _ _ hP hD hS (lv_sub hl [0, 1, 2, 3, 4, 5, 6, 7, 8] rfl)
                        · replace hf := zi_n hf c700
                          cases hf
                    refine lv_if_eq (tgt := 682) hx hb dL_law_619 (by decide) (fun c619 => ?_) (fun c619 => ?_)
                    · replace hf := zi_p hf c619
                      exact J682 w560_0 u2 w560_1 hf _ _ hP hD hS _ (lv_sub hl [0, 1, 2, 3, 4, 5, 6, 7, 8, 9, 10, 11] rfl)
                    · replace hf := zi_n hf c619
                      refine lv_aload_n hx hb dL_law_622 rfl (lv_at hl 2 rfl) ?_
                      refine lv_bipush (v := 12) hx hb dL_law_623 (by decide) ?_
                      refine lv_dup2_11 hx hb dL_law_625 rfl rfl ?_
                      refine z_iald (v := (w560_0 12)) hx hb hK hP 0 0 rfl rfl (z_in rfl) rfl dL_law_626 ?_
                      refine lv_iconst (v := 1) hx hb dL_law_627 (by decide) ?_
                      refine lv_iadd hx hb dL_law_628 ?_
                      replace hf := zn_s hf
                      obtain ⟨s629, es629, hf⟩ := hf
                      refine z_iast (ws' := wAR G ad b 20 s629 ++ wAR G ad1 b1 8 u1 ++ wAR G ad2 b2 6 u2 ++ wAR G ad3 b3 20 u3 ++ wAR G ad4 b4 30 w560_1 ++ wX6 G ad5 b5 u5) hx hb hK hP hD hS 0 0 rfl rfl (z_in rfl) es629 rfl dL_law_629 (fun H locs hP hD hS => ?_)
                      refine lv_bipush (v := 6) hx hb dL_law_630 (by decide) ?_
                      refine lv_iload hx hb dL_law_632 (lv_at hl 9 rfl) ?_
                      refine lv_aload_n hx hb dL_law_634 rfl (lv_at hl 2 rfl) ?_
                      refine lv_aload hx hb dL_law_635 (lv_at hl 6 rfl) ?_
                      replace hf := zb_s hf
                      obtain ⟨r637, hr637, hf⟩ := hf
                      refine z_GSv (rest := []) C0 kL_24 (c_L_log l D G ad (b) ad4 (b4) s629 w560_1 6 r160 r637 hr637) pz_6_0_4 pz_6_0_4.symm rfl ⟨Nat.le_of_ble_eq_true rfl, Nat.le_of_ble_eq_true rfl⟩ (Nat.le_of_ble_eq_true rfl) hcs rfl hl.1 hP hD hS dL_law_637 (fun H locs hP hD hS => ?_)
                      replace hP : va_P D vwCl (wAR G ad b 20 r637.1 ++ wAR G ad1 b1 8 u1 ++ wAR G ad2 b2 6 u2 ++ wAR G ad3 b3 20 u3 ++ wAR G ad4 b4 30 r637.2 ++ wX6 G ad5 b5 u5) H := hP
                      replace hD : va_D A (wAR G ad b 20 r637.1 ++ wAR G ad1 b1 8 u1 ++ wAR G ad2 b2 6 u2 ++ wAR G ad3 b3 20 u3 ++ wAR G ad4 b4 30 r637.2 ++ wX6 G ad5 b5 u5) := hD
                      refine lv_iload hx hb dL_law_640 (lv_at hl 9 rfl) ?_
                      refine lv_aload_n hx hb dL_law_642 rfl (lv_at hl 2 rfl) ?_
                      refine lv_aload hx hb dL_law_643 (lv_at hl 4 rfl) ?_
                      replace hf := zb_s hf
                      obtain ⟨r645, hr645, hf⟩ := hf
                      refine z_GSi (rest := []) C0 kL_66 (c_L_place l D G ad (b) ad2 (b2) r637.1 u2 r160 r645 hr645) pz_6_0_2 pz_6_0_2.symm rfl ⟨Nat.le_of_ble_eq_true rfl, Nat.le_of_ble_eq_true rfl⟩ (Nat.le_of_ble_eq_true rfl) hcs rfl hl.1 hP hD hS dL_law_645 (fun H locs hP hD hS => ?_)
                      refine lv_if_ge (tgt := 682) hx hb dL_law_648 (by decide) (fun c648 => ?_) (fun c648 => ?_)
                      · replace hf := zi_p hf c648
                        exact J682 r637.1 u2 r637.2 hf _ _ hP hD hS _ (lv_sub hl [0, 1, 2, 3, 4, 5, 6, 7, 8, 9, 10, 11] rfl)
                      · replace hf := zi_n hf c648
                        refine lv_aload_n hx hb dL_law_651 rfl (lv_at hl 2 rfl) ?_
                        refine lv_iconst (v := 5) hx hb dL_law_652 (by decide) ?_
                        refine z_iald (v := (r637.1 5)) hx hb hK hP 0 0 rfl rfl (z_in rfl) rfl dL_law_653 ?_
                        refine lv_iload hx hb dL_law_654 (lv_at hl 9 rfl) ?_
                        refine lv_icmp_eq (tgt := 682) hx hb dL_law_656 (by decide) (fun c656 => ?_) (fun c656 => ?_)
                        · replace hf := zi_p hf c656
                          exact J682 r637.1 u2 r637.2 hf _ _ hP hD hS _ (lv_sub hl [0, 1, 2, 3, 4, 5, 6, 7, 8, 9, 10, 11] rfl)
                        · replace hf := zi_n hf c656
                          refine lv_aload_n hx hb dL_law_659 rfl (lv_at hl 2 rfl) ?_
                          refine lv_bipush (v := 8) hx hb dL_law_660 (by decide) ?_
                          refine z_iald (v := (r637.1 8)) hx hb hK hP 0 0 rfl rfl (z_in rfl) rfl dL_law_662 ?_
                          refine lv_bipush (v := 6) hx hb dL_law_663 (by decide) ?_
                          refine lv_icmp_ge (tgt := 682) hx hb dL_law_665 (by decide) (fun c665 => ?_) (fun c665 => ?_)
                          · replace hf := zi_p hf c665
                            exact J682 r637.1 u2 r637.2 hf _ _ hP hD hS _ (lv_sub hl [0, 1, 2, 3, 4, 5, 6, 7, 8, 9, 10, 11] rfl)
                          · replace hf := zi_n hf c665
                            refine lv_aload hx hb dL_law_668 (lv_at hl 4 rfl) ?_
                            refine lv_aload_n hx hb dL_law_670 rfl (lv_at hl 2 rfl) ?_
                            refine lv_bipush (v := 8) hx hb dL_law_671 (by decide) ?_
                            refine lv_dup2_11 hx hb dL_law_673 rfl rfl ?_
                            refine z_iald (v := (r637.1 8)) hx hb hK hP 0 0 rfl rfl (z_in rfl) rfl dL_law_674 ?_
                            refine lv_dup_x2 hx hb dL_law_675 rfl rfl rfl ?_
                            refine lv_iconst (v := 1) hx hb dL_law_676 (by decide) ?_
                            refine lv_iadd hx hb dL_law_677 ?_
                            replace hf := zn_s hf
                            obtain ⟨s678, es678, hf⟩ := hf
                            refine z_iast (ws' := wAR G ad b 20 s678 ++ wAR G ad1 b1 8 u1 ++ wAR G ad2 b2 6 u2 ++ wAR G ad3 b3 20 u3 ++ wAR G ad4 b4 30 r637.2 ++ wX6 G ad5 b5 u5) hx hb hK hP hD hS 0 0 rfl rfl (z_in rfl) es678 rfl dL_law_678 (fun H locs hP hD hS => ?_)
                            refine lv_iload hx hb dL_law_679 (lv_at hl 9 rfl) ?_
                            replace hf := zs_s hf
                            obtain ⟨hi681, s681, es681, hf⟩ := hf
                            refine z_iast (ws' := wAR G ad b 20 s678 ++ wAR G ad1 b1 8 u1 ++ wAR G ad2 b2 6 s681 ++ wAR G ad3 b3 20 u3 ++ wAR G ad4 b4 30 r637.2 ++ wX6 G ad5 b5 u5) hx hb hK hP hD hS 2 0 rfl rfl hi681 es681 rfl dL_law_681 (fun H locs hP hD hS => ?_)
                            exact J682 s678 s681 r637.2 hf _ _ hP hD hS _ (lv_sub hl [0, 1, 2, 3, 4, 5, 6, 7, 8, 9, 10, 11] rfl)
                  replace hf := zb_s hf
                  obtain ⟨bb563, hz563, hk563⟩ := hf
                  have L563 : ∀ (n563 : Nat) (v563 : Int32 × Int32) (hz563 : zl n563 (q_L_turn_L563 u3 r160 w560_0) v563 = some bb563) (H : Heap) (locs : List Loc) (hP : va_P D vwCl (wAR G ad b 20 w560_0 ++ wAR G ad1 b1 8 u1 ++ wAR G ad2 b2 6 u2 ++ wAR G ad3 b3 20 u3 ++ wAR G ad4 b4 30 w560_1 ++ wX6 G ad5 b5 u5) H) (hD : va_D A (wAR G ad b 20 w560_0 ++ wAR G ad1 b1 8 u1 ++ wAR G ad2 b2 6 u2 ++ wAR G ad3 b3 20 u3 ++ wAR G ad4 b4 30 w560_1 ++ wX6 G ad5 b5 u5)) (hS : va_S A s.heap H locs) (ls : Array Slot) (hl : lv_has ls 16 [(0, .ref sb), (1, .ref (ad5 b5)), (2, .ref (ad b)), (3, .ref (ad1 b1)), (4, .ref (ad2 b2)), (5, .ref (ad3 b3)), (6, .ref (ad4 b4)), (7, .int p7), (9, .int p9), (11, .int r160), (12, .int (1 + r493)), (13, .int v563.1), (14, .int v563.2)]), W p l e room_1 s m args below meth c H locs cells slots Q (F0 m 563 ls []) := by
                    intro n563
                    induction n563 with
                    | zero => intro v563 hz563; exact (zl_0 hz563).elim
                    | succ n563 ih563 =>
                      intro v563 hz563 H locs hP hD hS ls hl
                      obtain ⟨o563, hf, hz563⟩ := zl_s hz563
                      unfold q_L_turn_L563 at hf
                      refine lv_iload hx hb dL_law_563 (lv_at hl 12 rfl) ?_
                      refine lv_aload_n hx hb dL_law_565 rfl (lv_at hl 2 rfl) ?_
                      refine lv_iconst (v := 2) hx hb dL_law_566 (by decide) ?_
                      refine z_iald (v := (w560_0 2)) hx hb hK hP 0 0 rfl rfl (z_in rfl) rfl dL_law_567 ?_
                      refine lv_icmp_ge (tgt := 617) hx hb dL_law_568 (by decide) (fun c568 => ?_) (fun c568 => ?_)
                      · replace hf := zi_p hf c568
                        have hb563 := (zk_r hf hz563).symm
                        subst hb563
                        replace hf := hk563
                        exact J617 v563.1 hf _ _ hP hD hS _ (lv_sub hl [0, 1, 2, 3, 4, 5, 6, 7, 8, 9, 10, 11] rfl)
                      · replace hf := zi_n hf c568
                        refine lv_iload hx hb dL_law_571 (lv_at hl 11 rfl) ?_
                        refine lv_if_ne (tgt := 604) hx hb dL_law_573 (by decide) (fun c573 => ?_) (fun c573 => ?_)
                        · replace hf := zi_n hf c573
                          refine lv_iconst (v := 1) hx hb dL_law_604 (by decide) ?_
                          refine lv_goto (tgt := 609) hx hb dL_law_605 (by decide) ?_
                          refine lv_istore (lv' := [(13, .int 1), (0, .ref sb), (1, .ref (ad5 b5)), (2, .ref (ad b)), (3, .ref (ad1 b1)), (4, .ref (ad2 b2)), (5, .ref (ad3 b3)), (6, .ref (ad4 b4)), (7, .int p7), (9, .int p9), (11, .int r160), (12, .int (1 + r493)), (14, .int v563.2)]) hx hb dL_law_609 hl (by decide) rfl (fun ls hl => ?_)
                          refine lv_iinc (v := (v563.2 + 1)) (lv' := [(14, .int (v563.2 + 1)), (13, .int 1), (0, .ref sb), (1, .ref (ad5 b5)), (2, .ref (ad b)), (3, .ref (ad1 b1)), (4, .ref (ad2 b2)), (5, .ref (ad3 b3)), (6, .ref (ad4 b4)), (7, .int p7), (9, .int p9), (11, .int r160), (12, .int (1 + r493))]) hx hb dL_law_611 hl (k := 12) rfl rfl (by decide) rfl (fun ls hl => ?_)
                          refine lv_goto (tgt := 563) hx hb dL_law_614 (by decide) ?_
                          exact ih563 _ (zk_l hf hz563) _ _ hP hD hS _ (lv_sub hl [2, 3, 4, 5, 6, 7, 8, 9, 10, 11, 12, 1, 0] rfl)
                        · replace hf := zi_p hf c573
                          refine lv_aload hx hb dL_law_576 (lv_at hl 5 rfl) ?_
                          refine lv_iload hx hb dL_law_578 (lv_at hl 12 rfl) ?_
                          replace hf := zg_s hf
                          obtain ⟨hi580, a580, ea580, hf⟩ := hf
                          refine z_iald hx hb hK hP 3 0 rfl rfl hi580 ea580 dL_law_580 ?_
                          refine lv_bipush (v := 10) hx hb dL_law_581 (by decide) ?_
                          refine lv_idiv hx hb dL_law_583 (by decide) ?_
                          refine lv_iload hx hb dL_law_584 (lv_at hl 9 rfl) ?_
                          refine lv_icmp_ne (tgt := 608) hx hb dL_law_586 (by decide) (fun c586 => ?_) (fun c586 => ?_)
                          · replace hf := zi_n hf c586
                            refine lv_iconst (v := 0) hx hb dL_law_608 (by decide) ?_
                            refine lv_istore (lv' := [(13, .int 0), (0, .ref sb), (1, .ref (ad5 b5)), (2, .ref (ad b)), (3, .ref (ad1 b1)), (4, .ref (ad2 b2)), (5, .ref (ad3 b3)), (6, .ref (ad4 b4)), (7, .int p7), (9, .int p9), (11, .int r160), (12, .int (1 + r493)), (14, .int v563.2)]) hx hb dL_law_609 hl (by decide) rfl (fun ls hl => ?_)
                            refine lv_iinc (v := (v563.2 + 1)) (lv' := [(14, .int (v563.2 + 1)), (13, .int 0), (0, .ref sb), (1, .ref (ad5 b5)), (2, .ref (ad b)), (3, .ref (ad1 b1)), (4, .ref (ad2 b2)), (5, .ref (ad3 b3)), (6, .ref (ad4 b4)), (7, .int p7), (9, .int p9), (11, .int r160), (12, .int (1 + r493))]) hx hb dL_law_611 hl (k := 12) rfl rfl (by decide) rfl (fun ls hl => ?_)
                            refine lv_goto (tgt := 563) hx hb dL_law_614 (by decide) ?_
                            exact ih563 _ (zk_l hf hz563) _ _ hP hD hS _ (lv_sub hl [2, 3, 4, 5, 6, 7, 8, 9, 10, 11, 12, 1, 0] rfl)
                          · replace hf := zi_p hf c586
                            refine lv_aload hx hb dL_law_589 (lv_at hl 5 rfl) ?_
                            refine lv_iload hx hb dL_law_591 (lv_at hl 12 rfl) ?_
                            replace hf := zg_s hf
                            obtain ⟨hi593, a593, ea593, hf⟩ := hf
                            refine z_iald hx hb hK hP 3 0 rfl rfl hi593 ea593 dL_law_593 ?_
                            refine lv_bipush (v := 10) hx hb dL_law_594 (by decide) ?_
                            refine lv_irem hx hb dL_law_596 (by decide) ?_
                            refine lv_aload_n hx hb dL_law_597 rfl (lv_at hl 2 rfl) ?_
                            refine lv_bipush (v := 18) hx hb dL_law_598 (by decide) ?_
                            refine z_iald (v := (w560_0 18)) hx hb hK hP 0 0 rfl rfl (z_in rfl) rfl dL_law_600 ?_
                            refine lv_icmp_lt (tgt := 608) hx hb dL_law_601 (by decide) (fun c601 => ?_) (fun c601 => ?_)
                            · replace hf := zi_p hf c601
                              refine lv_iconst (v := 0) hx hb dL_law_608 (by decide) ?_
                              refine lv_istore (lv' := [(13, .int 0), (0, .ref sb), (1, .ref (ad5 b5)), (2, .ref (ad b)), (3, .ref (ad1 b1)), (4, .ref (ad2 b2)), (5, .ref (ad3 b3)), (6, .ref (ad4 b4)), (7, .int p7), (9, .int p9), (11, .int r160), (12, .int (1 + r493)), (14, .int v563.2)]) hx hb dL_law_609 hl (by decide) rfl (fun ls hl => ?_)
                              refine lv_iinc (v := (v563.2 + 1)) (lv' := [(14, .int (v563.2 + 1)), (13, .int 0), (0, .ref sb), (1, .ref (ad5 b5)), (2, .ref (ad b)), (3, .ref (ad1 b1)), (4, .ref (ad2 b2)), (5, .ref (ad3 b3)), (6, .ref (ad4 b4)), (7, .int p7), (9, .int p9), (11, .int r160), (12, .int (1 + r493))]) hx hb dL_law_611 hl (k := 12) rfl rfl (by decide) rfl (fun ls hl => ?_)
                              refine lv_goto (tgt := 563) hx hb dL_law_614 (by decide) ?_
                              exact ih563 _ (zk_l hf hz563) _ _ hP hD hS _ (lv_sub hl [2, 3, 4, 5, 6, 7, 8, 9, 10, 11, 12, 1, 0] rfl)
                            · replace hf := zi_n hf c601
                              refine lv_iconst (v := 1) hx hb dL_law_604 (by decide) ?_
                              refine lv_goto (tgt := 609) hx hb dL_law_605 (by decide) ?_
                              refine lv_istore (lv' := [(13, .int 1), (0, .ref sb), (1, .ref (ad5 b5)), (2, .ref (ad b)), (3, .ref (ad1 b1)), (4, .ref (ad2 b2)), (5, .ref (ad3 b3)), (6, .ref (ad4 b4)), (7, .int p7), (9, .int p9), (11, .int r160), (12, .int (1 + r493)), (14, .int v563.2)]) hx hb dL_law_609 hl (by decide) rfl (fun ls hl => ?_)
                              refine lv_iinc (v := (v563.2 + 1)) (lv' := [(14, .int (v563.2 + 1)), (13, .int 1), (0, .ref sb), (1, .ref (ad5 b5)), (2, .ref (ad b)), (3, .ref (ad1 b1)), (4, .ref (ad2 b2)), (5, .ref (ad3 b3)), (6, .ref (ad4 b4)), (7, .int p7), (9, .int p9), (11, .int r160), (12, .int (1 + r493))]) hx hb dL_law_611 hl (k := 12) rfl rfl (by decide) rfl (fun ls hl => ?_)
                              refine lv_goto (tgt := 563) hx hb dL_law_614 (by decide) ?_
                              exact ih563 _ (zk_l hf hz563) _ _ hP hD hS _ (lv_sub hl [2, 3, 4, 5, 6, 7, 8, 9, 10, 11, 12, 1, 0] rfl)
                  exact L563 _ _ hz563 _ _ hP hD hS _ (lv_sub hl [1, 2, 3, 4, 5, 6, 7, 8, 9, 10, 11, 12, 0] rfl)
                refine lv_if_lt (tgt := 560) hx hb dL_law_517 (by decide) (fun c517 => ?_) (fun c517 => ?_)
                · replace hf := zi_p hf c517
                  exact J560 s513 u4 hf _ _ hP hD hS _ (lv_sub hl [2, 3, 4, 5, 6, 7, 8, 9, 10, 11, 1, 0] rfl)
                · replace hf := zi_n hf c517
                  refine lv_aload_n hx hb dL_law_520 rfl (lv_at hl 4 rfl) ?_
                  refine lv_bipush (v := 6) hx hb dL_law_521 (by decide) ?_
                  refine lv_aload_n hx hb dL_law_523 rfl (lv_at hl 4 rfl) ?_
                  refine lv_bipush (v := 6) hx hb dL_law_524 (by decide) ?_
                  refine z_iald (v := (s513 6)) hx hb hK hP 0 0 rfl rfl (z_in rfl) rfl dL_law_526 ?_
                  refine lv_iconst (v := 2) hx hb dL_law_527 (by decide) ?_
                  have J541 : ∀ (y541_2 : Int32) (hf : q_L_turn_J541 u1 u2 u3 u4 u5 r160 r493 s513 y541_2 = some res) (H : Heap) (locs : List Loc) (hP : va_P D vwCl (wAR G ad b 20 s513 ++ wAR G ad1 b1 8 u1 ++ wAR G ad2 b2 6 u2 ++ wAR G ad3 b3 20 u3 ++ wAR G ad4 b4 30 u4 ++ wX6 G ad5 b5 u5) H) (hD : va_D A (wAR G ad b 20 s513 ++ wAR G ad1 b1 8 u1 ++ wAR G ad2 b2 6 u2 ++ wAR G ad3 b3 20 u3 ++ wAR G ad4 b4 30 u4 ++ wX6 G ad5 b5 u5)) (hS : va_S A s.heap H locs) (ls : Array Slot) (hl : lv_has ls 16 [(0, .ref sb), (1, .ref (ad5 b5)), (2, .ref (ad b)), (3, .ref (ad1 b1)), (4, .ref (ad2 b2)), (5, .ref (ad3 b3)), (6, .ref (ad4 b4)), (7, .int p7), (9, .int p9), (11, .int r160), (12, .int (1 + r493)), (13, .int 0)]), W p l e room_1 s m args below meth c H locs cells slots Q (F0 m 541 ls [.int y541_2, .int 6, .ref (ad b)]) := by
                    intro y541_2 hf H locs hP hD hS ls hl
                    unfold q_L_turn_J541 at hf
                    replace hf := zn_s hf
                    obtain ⟨s541, es541, hf⟩ := hf
                    refine z_iast (ws' := wAR G ad b 20 s541 ++ wAR G ad1 b1 8 u1 ++ wAR G ad2 b2 6 u2 ++ wAR G ad3 b3 20 u3 ++ wAR G ad4 b4 30 u4 ++ wX6 G ad5 b5 u5) hx hb hK hP hD hS 0 0 rfl rfl (z_in rfl) es541 rfl dL_law_541 (fun H locs hP hD hS => ?_)
                    refine lv_aload_n hx hb dL_law_542 rfl (lv_at hl 2 rfl) ?_
                    refine lv_bipush (v := 10) hx hb dL_law_543 (by decide) ?_
                    refine lv_dup2_11 hx hb dL_law_545 rfl rfl ?_
                    refine z_iald (v := (s541 10)) hx hb hK hP 0 0 rfl rfl (z_in rfl) rfl dL_law_546 ?_
                    refine lv_iconst (v := 1) hx hb dL_law_547 (by decide) ?_
                    refine lv_iadd hx hb dL_law_548 ?_
                    replace hf := zn_s hf
                    obtain ⟨s549, es549, hf⟩ := hf
                    refine z_iast (ws' := wAR G ad b 20 s549 ++ wAR G ad1 b1 8 u1 ++ wAR G ad2 b2 6 u2 ++ wAR G ad3 b3 20 u3 ++ wAR G ad4 b4 30 u4 ++ wX6 G ad5 b5 u5) hx hb hK hP hD hS 0 0 rfl rfl (z_in rfl) es549 rfl dL_law_549 (fun H locs hP hD hS => ?_)
                    refine lv_iconst (v := 2) hx hb dL_law_550 (by decide) ?_
                    refine lv_aload_n hx hb dL_law_551 rfl (lv_at hl 2 rfl) ?_
                    refine lv_iconst (v := 5) hx hb dL_law_552 (by decide) ?_
                    refine z_iald (v := (s549 5)) hx hb hK hP 0 0 rfl rfl (z_in rfl) rfl dL_law_553 ?_
                    refine lv_aload_n hx hb dL_law_554 rfl (lv_at hl 2 rfl) ?_
                    refine lv_aload hx hb dL_law_555 (lv_at hl 6 rfl) ?_
                    replace hf := zb_s hf
                    obtain ⟨r557, hr557, hf⟩ := hf
                    refine z_GSv (rest := []) C0 kL_24 (c_L_log l D G ad (b) ad4 (b4) s549 u4 2 (s549 5) r557 hr557) pz_6_0_4 pz_6_0_4.symm rfl ⟨Nat.le_of_ble_eq_true rfl, Nat.le_of_ble_eq_true rfl⟩ (Nat.le_of_ble_eq_true rfl) hcs rfl hl.1 hP hD hS dL_law_557 (fun H locs hP hD hS => ?_)
                    replace hP : va_P D vwCl (wAR G ad b 20 r557.1 ++ wAR G ad1 b1 8 u1 ++ wAR G ad2 b2 6 u2 ++ wAR G ad3 b3 20 u3 ++ wAR G ad4 b4 30 r557.2 ++ wX6 G ad5 b5 u5) H := hP
                    replace hD : va_D A (wAR G ad b 20 r557.1 ++ wAR G ad1 b1 8 u1 ++ wAR G ad2 b2 6 u2 ++ wAR G ad3 b3 20 u3 ++ wAR G ad4 b4 30 r557.2 ++ wX6 G ad5 b5 u5) := hD
                    exact J560 r557.1 r557.2 hf _ _ hP hD hS _ (lv_sub hl [0, 1, 2, 3, 4, 5, 6, 7, 8, 9, 10, 11] rfl)
                  refine lv_icmp_le (tgt := 540) hx hb dL_law_528 (by decide) (fun c528 => ?_) (fun c528 => ?_)
                  · replace hf := zi_p hf c528
                    refine lv_iconst (v := 0) hx hb dL_law_540 (by decide) ?_
                    exact J541 0 hf _ _ hP hD hS _ (lv_sub hl [2, 3, 4, 5, 6, 7, 8, 9, 10, 11, 1, 0] rfl)
                  · replace hf := zi_n hf c528
                    refine lv_aload_n hx hb dL_law_531 rfl (lv_at hl 4 rfl) ?_
                    refine lv_bipush (v := 6) hx hb dL_law_532 (by decide) ?_
                    refine z_iald (v := (s513 6)) hx hb hK hP 0 0 rfl rfl (z_in rfl) rfl dL_law_534 ?_
                    refine lv_iconst (v := 2) hx hb dL_law_535 (by decide) ?_
                    refine lv_isub hx hb dL_law_536 ?_
                    refine lv_goto (tgt := 541) hx hb dL_law_537 (by decide) ?_
                    exact J541 ((s513 6) - 2) hf _ _ hP hD hS _ (lv_sub hl [2, 3, 4, 5, 6, 7, 8, 9, 10, 11, 1, 0] rfl)
              refine lv_if_ne (tgt := 491) hx hb dL_law_482 (by decide) (fun c482 => ?_) (fun c482 => ?_)
              · replace hf := zi_n hf c482
                refine lv_bipush (v := 20) hx hb dL_law_491 (by decide) ?_
                exact J493 20 hf _ _ hP hD hS _ (lv_sub hl [1, 2, 3, 4, 5, 6, 7, 8, 10, 0] rfl)
              · replace hf := zi_p hf c482
                refine lv_sipush (v := 200) hx hb dL_law_485 (by decide) ?_
                refine lv_goto (tgt := 493) hx hb dL_law_488 (by decide) ?_
                exact J493 200 hf _ _ hP hD hS _ (lv_sub hl [1, 2, 3, 4, 5, 6, 7, 8, 10, 0] rfl)
          · replace hf := zi_p hf c407
            refine lv_iload hx hb dL_law_410 (lv_at hl 0 rfl) ?_
            refine lv_aload_n hx hb dL_law_412 rfl (lv_at hl 3 rfl) ?_
            refine lv_aload hx hb dL_law_413 (lv_at hl 5 rfl) ?_
            replace hf := zb_s hf
            obtain ⟨r415, hr415, hf⟩ := hf
            refine z_GSi (rest := []) C0 kL_66 (c_L_place l D G ad (b) ad2 (b2) u u2 r160 r415 hr415) pz_6_0_2 pz_6_0_2.symm rfl ⟨Nat.le_of_ble_eq_true rfl, Nat.le_of_ble_eq_true rfl⟩ (Nat.le_of_ble_eq_true rfl) hcs rfl hl.1 hP hD hS dL_law_415 (fun H locs hP hD hS => ?_)
            refine lv_istore (lv' := [(12, .int r415), (11, .int r160), (0, .ref sb), (1, .ref (ad5 b5)), (2, .ref (ad b)), (3, .ref (ad1 b1)), (4, .ref (ad2 b2)), (5, .ref (ad3 b3)), (6, .ref (ad4 b4)), (7, .int p7), (8, .int p8), (9, .int p9), (10, .int y139_0)]) hx hb dL_law_418 hl (by decide) rfl (fun ls hl => ?_)
            refine lv_iload hx hb dL_law_420 (lv_at hl 0 rfl) ?_
            have J433 : ∀ (w433_0 : Nat → Int32) (w433_1 : Nat → Int32) (hf : q_L_turn_J433 u1 u3 u4 u5 r160 r415 w433_0 w433_1 = some res) (H : Heap) (locs : List Loc) (hP : va_P D vwCl (wAR G ad b 20 w433_0 ++ wAR G ad1 b1 8 u1 ++ wAR G ad2 b2 6 w433_1 ++ wAR G ad3 b3 20 u3 ++ wAR G ad4 b4 30 u4 ++ wX6 G ad5 b5 u5) H) (hD : va_D A (wAR G ad b 20 w433_0 ++ wAR G ad1 b1 8 u1 ++ wAR G ad2 b2 6 w433_1 ++ wAR G ad3 b3 20 u3 ++ wAR G ad4 b4 30 u4 ++ wX6 G ad5 b5 u5)) (hS : va_S A s.heap H locs) (ls : Array Slot) (hl : lv_has ls 16 [(0, .ref sb), (1, .ref (ad5 b5)), (2, .ref (ad b)), (3, .ref (ad1 b1)), (4, .ref (ad2 b2)), (5, .ref (ad3 b3)), (6, .ref (ad4 b4)), (7, .int p7), (9, .int p9), (11, .int r160), (12, .int r415)]), W p l e room_1 s m args below meth c H locs cells slots Q (F0 m 433 ls []) := by
              intro w433_0 w433_1 hf H locs hP hD hS ls hl
              unfold q_L_turn_J433 at hf
              refine lv_aload_n hx hb dL_law_433 rfl (lv_at hl 1 rfl) ?_
              refine lv_iload hx hb dL_law_434 (lv_at hl 9 rfl) ?_
              replace hf := zb_s hf
              obtain ⟨r436, hr436, hf⟩ := hf
              refine z_GVi (rest := []) C0 kL_116 (c_X6_unask l D G ad5 (b5) u5 r160 r436 hr436) pz_6_5 pz_6_5.symm (ci := 7) (T := TX6) (N := 5) rfl rfl rfl ⟨Nat.le_of_ble_eq_true rfl, Nat.le_of_ble_eq_true rfl⟩ (Nat.le_of_ble_eq_true rfl) hcs rfl hl.1 hP hD hS dL_law_436 (fun H locs hP hD hS => ?_)
              replace hP : va_P D vwCl (wAR G ad b 20 w433_0 ++ wAR G ad1 b1 8 u1 ++ wAR G ad2 b2 6 w433_1 ++ wAR G ad3 b3 20 u3 ++ wAR G ad4 b4 30 u4 ++ wX6 G ad5 b5 ((u5.1.1, u5.1.2.1, u5.1.2.2.1, r436.2.1, u5.1.2.2.2.2.1, u5.1.2.2.2.2.2.1, u5.1.2.2.2.2.2.2.1, u5.1.2.2.2.2.2.2.2.1, u5.1.2.2.2.2.2.2.2.2.1, u5.1.2.2.2.2.2.2.2.2.2.1, u5.1.2.2.2.2.2.2.2.2.2.2.1, u5.1.2.2.2.2.2.2.2.2.2.2.2.1, u5.1.2.2.2.2.2.2.2.2.2.2.2.2.1, u5.1.2.2.2.2.2.2.2.2.2.2.2.2.2.1, u5.1.2.2.2.2.2.2.2.2.2.2.2.2.2.2.1, u5.1.2.2.2.2.2.2.2.2.2.2.2.2.2.2.2.1, u5.1.2.2.2.2.2.2.2.2.2.2.2.2.2.2.2.2), u5.2.1, r436.2.2, u5.2.2.2.1, u5.2.2.2.2)) H := hP
              replace hD : va_D A (wAR G ad b 20 w433_0 ++ wAR G ad1 b1 8 u1 ++ wAR G ad2 b2 6 w433_1 ++ wAR G ad3 b3 20 u3 ++ wAR G ad4 b4 30 u4 ++ wX6 G ad5 b5 ((u5.1.1, u5.1.2.1, u5.1.2.2.1, r436.2.1, u5.1.2.2.2.2.1, u5.1.2.2.2.2.2.1, u5.1.2.2.2.2.2.2.1, u5.1.2.2.2.2.2.2.2.1, u5.1.2.2.2.2.2.2.2.2.1, u5.1.2.2.2.2.2.2.2.2.2.1, u5.1.2.2.2.2.2.2.2.2.2.2.1, u5.1.2.2.2.2.2.2.2.2.2.2.2.1, u5.1.2.2.2.2.2.2.2.2.2.2.2.2.1, u5.1.2.2.2.2.2.2.2.2.2.2.2.2.2.1, u5.1.2.2.2.2.2.2.2.2.2.2.2.2.2.2.1, u5.1.2.2.2.2.2.2.2.2.2.2.2.2.2.2.2.1, u5.1.2.2.2.2.2.2.2.2.2.2.2.2.2.2.2.2), u5.2.1, r436.2.2, u5.2.2.2.1, u5.2.2.2.2)) := hD
              refine lv_iload hx hb dL_law_439 (lv_at hl 10 rfl) ?_
              refine lv_if_ge (tgt := 449) hx hb dL_law_441 (by decide) (fun c441 => ?_) (fun c441 => ?_)
              · replace hf := zi_p hf c441
                refine lv_aload_n hx hb dL_law_449 rfl (lv_at hl 2 rfl) ?_
                refine lv_bipush (v := 8) hx hb dL_law_450 (by decide) ?_
                refine z_iald (v := (w433_0 8)) hx hb hK hP 0 0 rfl rfl (z_in rfl) rfl dL_law_452 ?_
                refine lv_icmp_eq (tgt := 458) hx hb dL_law_453 (by decide) (fun c453 => ?_) (fun c453 => ?_)
                · replace hf := zi_p hf c453
                  refine lv_goto (tgt := 1119) hx hb dL_law_458 (by decide) ?_
                  obtain rfl := zo hf
                  exact kk _ _ _ hP hD hS (lv_sub hl [0, 1, 2, 3, 4, 5, 6, 7, 8] rfl)
                · replace hf := zi_n hf c453
                  cases hf
              · replace hf := zi_n hf c441
                refine lv_bipush (v := (-3)) hx hb dL_law_444 (by decide) ?_
                refine lv_goto (tgt := 453) hx hb dL_law_446 (by decide) ?_
                refine lv_icmp_eq (tgt := 458) hx hb dL_law_453 (by decide) (fun c453 => ?_) (fun c453 => ?_)
                · replace hf := zi_p hf c453
                  refine lv_goto (tgt := 1119) hx hb dL_law_458 (by decide) ?_
                  obtain rfl := zo hf
                  exact kk _ _ _ hP hD hS (lv_sub hl [0, 1, 2, 3, 4, 5, 6, 7, 8] rfl)
                · replace hf := zi_n hf c453
                  cases hf
            refine lv_if_lt (tgt := 433) hx hb dL_law_422 (by decide) (fun c422 => ?_) (fun c422 => ?_)
            · replace hf := zi_p hf c422
              exact J433 u u2 hf _ _ hP hD hS _ (lv_sub hl [2, 3, 4, 5, 6, 7, 8, 9, 11, 1, 0] rfl)
            · replace hf := zi_n hf c422
              refine lv_iload hx hb dL_law_425 (lv_at hl 0 rfl) ?_
              refine lv_aload_n hx hb dL_law_427 rfl (lv_at hl 4 rfl) ?_
              refine lv_aload hx hb dL_law_428 (lv_at hl 6 rfl) ?_
              replace hf := zb_s hf
              obtain ⟨r430, hr430, hf⟩ := hf
              refine z_GSv (rest := []) C0 kL_20 (c_L_drop l D G ad (b) ad2 (b2) u u2 r415 r430 hr430) pz_6_0_2 pz_6_0_2.symm rfl ⟨Nat.le_of_ble_eq_true rfl, Nat.le_of_ble_eq_true rfl⟩ (Nat.le_of_ble_eq_true rfl) hcs rfl hl.1 hP hD hS dL_law_430 (fun H locs hP hD hS => ?_)
              replace hP : va_P D vwCl (wAR G ad b 20 r430.1 ++ wAR G ad1 b1 8 u1 ++ wAR G ad2 b2 6 r430.2 ++ wAR G ad3 b3 20 u3 ++ wAR G ad4 b4 30 u4 ++ wX6 G ad5 b5 u5) H := hP
              replace hD : va_D A (wAR G ad b 20 r430.1 ++ wAR G ad1 b1 8 u1 ++ wAR G ad2 b2 6 r430.2 ++ wAR G ad3 b3 20 u3 ++ wAR G ad4 b4 30 u4 ++ wX6 G ad5 b5 u5) := hD
              exact J433 r430.1 r430.2 hf _ _ hP hD hS _ (lv_sub hl [2, 3, 4, 5, 6, 7, 8, 9, 11, 1, 0] rfl)
        · replace hf := zi_p hf c297
          refine lv_iload hx hb dL_law_300 (lv_at hl 0 rfl) ?_
          refine lv_aload_n hx hb dL_law_302 rfl (lv_at hl 3 rfl) ?_
          refine lv_aload hx hb dL_law_303 (lv_at hl 5 rfl) ?_
          replace hf := zb_s hf
          obtain ⟨r305, hr305, hf⟩ := hf
          refine z_GSi (rest := []) C0 kL_66 (c_L_place l D G ad (b) ad2 (b2) u u2 r160 r305 hr305) pz_6_0_2 pz_6_0_2.symm rfl ⟨Nat.le_of_ble_eq_true rfl, Nat.le_of_ble_eq_true rfl⟩ (Nat.le_of_ble_eq_true rfl) hcs rfl hl.1 hP hD hS dL_law_305 (fun H locs hP hD hS => ?_)
          have J324 : ∀ (y324_0 : Int32) (hf : q_L_turn_J324 u u1 u2 u3 u4 u5 r160 y324_0 = some res) (H : Heap) (locs : List Loc) (hP : va_P D vwCl (wAR G ad b 20 u ++ wAR G ad1 b1 8 u1 ++ wAR G ad2 b2 6 u2 ++ wAR G ad3 b3 20 u3 ++ wAR G ad4 b4 30 u4 ++ wX6 G ad5 b5 u5) H) (hD : va_D A (wAR G ad b 20 u ++ wAR G ad1 b1 8 u1 ++ wAR G ad2 b2 6 u2 ++ wAR G ad3 b3 20 u3 ++ wAR G ad4 b4 30 u4 ++ wX6 G ad5 b5 u5)) (hS : va_S A s.heap H locs) (ls : Array Slot) (hl : lv_has ls 16 [(0, .ref sb), (1, .ref (ad5 b5)), (2, .ref (ad b)), (3, .ref (ad1 b1)), (4, .ref (ad2 b2)), (5, .ref (ad3 b3)), (6, .ref (ad4 b4)), (7, .int p7), (9, .int p9), (11, .int r160)]), W p l e room_1 s m args below meth c H locs cells slots Q (F0 m 324 ls [.int y324_0]) := by
            intro y324_0 hf H locs hP hD hS ls hl
            unfold q_L_turn_J324 at hf
            refine lv_istore (lv' := [(12, .int y324_0), (0, .ref sb), (1, .ref (ad5 b5)), (2, .ref (ad b)), (3, .ref (ad1 b1)), (4, .ref (ad2 b2)), (5, .ref (ad3 b3)), (6, .ref (ad4 b4)), (7, .int p7), (9, .int p9), (11, .int r160)]) hx hb dL_law_324 hl (by decide) rfl (fun ls hl => ?_)
            refine lv_iload hx hb dL_law_326 (lv_at hl 0 rfl) ?_
            have J345 : ∀ (y345_0 : Int32) (hf : q_L_turn_J345 u u1 u2 u3 u4 u5 r160 y324_0 y345_0 = some res) (H : Heap) (locs : List Loc) (hP : va_P D vwCl (wAR G ad b 20 u ++ wAR G ad1 b1 8 u1 ++ wAR G ad2 b2 6 u2 ++ wAR G ad3 b3 20 u3 ++ wAR G ad4 b4 30 u4 ++ wX6 G ad5 b5 u5) H) (hD : va_D A (wAR G ad b 20 u ++ wAR G ad1 b1 8 u1 ++ wAR G ad2 b2 6 u2 ++ wAR G ad3 b3 20 u3 ++ wAR G ad4 b4 30 u4 ++ wX6 G ad5 b5 u5)) (hS : va_S A s.heap H locs) (ls : Array Slot) (hl : lv_has ls 16 [(0, .ref sb), (1, .ref (ad5 b5)), (2, .ref (ad b)), (3, .ref (ad1 b1)), (4, .ref (ad2 b2)), (5, .ref (ad3 b3)), (6, .ref (ad4 b4)), (7, .int p7), (9, .int p9), (11, .int r160), (12, .int y324_0)]), W p l e room_1 s m args below meth c H locs cells slots Q (F0 m 345 ls [.int y345_0]) := by
              intro y345_0 hf H locs hP hD hS ls hl
              unfold q_L_turn_J345 at hf
              refine lv_istore (lv' := [(13, .int y345_0), (0, .ref sb), (1, .ref (ad5 b5)), (2, .ref (ad b)), (3, .ref (ad1 b1)), (4, .ref (ad2 b2)), (5, .ref (ad3 b3)), (6, .ref (ad4 b4)), (7, .int p7), (9, .int p9), (11, .int r160), (12, .int y324_0)]) hx hb dL_law_345 hl (by decide) rfl (fun ls hl => ?_)
              refine lv_aload_n hx hb dL_law_347 rfl (lv_at hl 2 rfl) ?_
              refine lv_iload hx hb dL_law_348 (lv_at hl 10 rfl) ?_
              replace hf := zb_s hf
              obtain ⟨r350, hr350, hf⟩ := hf
              refine z_GVi (rest := []) C0 kL_113 (c_X6_ask l D G ad5 (b5) u5 r160 r350 hr350) pz_6_5 pz_6_5.symm (ci := 7) (T := TX6) (N := 5) rfl rfl rfl ⟨Nat.le_of_ble_eq_true rfl, Nat.le_of_ble_eq_true rfl⟩ (Nat.le_of_ble_eq_true rfl) hcs rfl hl.1 hP hD hS dL_law_350 (fun H locs hP hD hS => ?_)
              replace hP : va_P D vwCl (wAR G ad b 20 u ++ wAR G ad1 b1 8 u1 ++ wAR G ad2 b2 6 u2 ++ wAR G ad3 b3 20 u3 ++ wAR G ad4 b4 30 u4 ++ wX6 G ad5 b5 ((u5.1.1, u5.1.2.1, u5.1.2.2.1, r350.2.1, u5.1.2.2.2.2.1, u5.1.2.2.2.2.2.1, u5.1.2.2.2.2.2.2.1, u5.1.2.2.2.2.2.2.2.1, u5.1.2.2.2.2.2.2.2.2.1, u5.1.2.2.2.2.2.2.2.2.2.1, u5.1.2.2.2.2.2.2.2.2.2.2.1, u5.1.2.2.2.2.2.2.2.2.2.2.2.1, u5.1.2.2.2.2.2.2.2.2.2.2.2.2.1, u5.1.2.2.2.2.2.2.2.2.2.2.2.2.2.1, u5.1.2.2.2.2.2.2.2.2.2.2.2.2.2.2.1, u5.1.2.2.2.2.2.2.2.2.2.2.2.2.2.2.2.1, u5.1.2.2.2.2.2.2.2.2.2.2.2.2.2.2.2.2), u5.2.1, r350.2.2, u5.2.2.2.1, u5.2.2.2.2)) H := hP
              replace hD : va_D A (wAR G ad b 20 u ++ wAR G ad1 b1 8 u1 ++ wAR G ad2 b2 6 u2 ++ wAR G ad3 b3 20 u3 ++ wAR G ad4 b4 30 u4 ++ wX6 G ad5 b5 ((u5.1.1, u5.1.2.1, u5.1.2.2.1, r350.2.1, u5.1.2.2.2.2.1, u5.1.2.2.2.2.2.1, u5.1.2.2.2.2.2.2.1, u5.1.2.2.2.2.2.2.2.1, u5.1.2.2.2.2.2.2.2.2.1, u5.1.2.2.2.2.2.2.2.2.2.1, u5.1.2.2.2.2.2.2.2.2.2.2.1, u5.1.2.2.2.2.2.2.2.2.2.2.2.1, u5.1.2.2.2.2.2.2.2.2.2.2.2.2.1, u5.1.2.2.2.2.2.2.2.2.2.2.2.2.2.1, u5.1.2.2.2.2.2.2.2.2.2.2.2.2.2.2.1, u5.1.2.2.2.2.2.2.2.2.2.2.2.2.2.2.2.1, u5.1.2.2.2.2.2.2.2.2.2.2.2.2.2.2.2.2), u5.2.1, r350.2.2, u5.2.2.2.1, u5.2.2.2.2)) := hD
              refine lv_iload hx hb dL_law_353 (lv_at hl 11 rfl) ?_
              have J377 : ∀ (y377_1 : Int32) (hf : q_L_turn_J377 u u1 u2 u3 u4 u5 r160 y345_0 r350 y377_1 = some res) (H : Heap) (locs : List Loc) (hP : va_P D vwCl (wAR G ad b 20 u ++ wAR G ad1 b1 8 u1 ++ wAR G ad2 b2 6 u2 ++ wAR G ad3 b3 20 u3 ++ wAR G ad4 b4 30 u4 ++ wX6 G ad5 b5 ((u5.1.1, u5.1.2.1, u5.1.2.2.1, r350.2.1, u5.1.2.2.2.2.1, u5.1.2.2.2.2.2.1, u5.1.2.2.2.2.2.2.1, u5.1.2.2.2.2.2.2.2.1, u5.1.2.2.2.2.2.2.2.2.1, u5.1.2.2.2.2.2.2.2.2.2.1, u5.1.2.2.2.2.2.2.2.2.2.2.1, u5.1.2.2.2.2.2.2.2.2.2.2.2.1, u5.1.2.2.2.2.2.2.2.2.2.2.2.2.1, u5.1.2.2.2.2.2.2.2.2.2.2.2.2.2.1, u5.1.2.2.2.2.2.2.2.2.2.2.2.2.2.2.1, u5.1.2.2.2.2.2.2.2.2.2.2.2.2.2.2.2.1, u5.1.2.2.2.2.2.2.2.2.2.2.2.2.2.2.2.2), u5.2.1, r350.2.2, u5.2.2.2.1, u5.2.2.2.2)) H) (hD : va_D A (wAR G ad b 20 u ++ wAR G ad1 b1 8 u1 ++ wAR G ad2 b2 6 u2 ++ wAR G ad3 b3 20 u3 ++ wAR G ad4 b4 30 u4 ++ wX6 G ad5 b5 ((u5.1.1, u5.1.2.1, u5.1.2.2.1, r350.2.1, u5.1.2.2.2.2.1, u5.1.2.2.2.2.2.1, u5.1.2.2.2.2.2.2.1, u5.1.2.2.2.2.2.2.2.1, u5.1.2.2.2.2.2.2.2.2.1, u5.1.2.2.2.2.2.2.2.2.2.1, u5.1.2.2.2.2.2.2.2.2.2.2.1, u5.1.2.2.2.2.2.2.2.2.2.2.2.1, u5.1.2.2.2.2.2.2.2.2.2.2.2.2.1, u5.1.2.2.2.2.2.2.2.2.2.2.2.2.2.1, u5.1.2.2.2.2.2.2.2.2.2.2.2.2.2.2.1, u5.1.2.2.2.2.2.2.2.2.2.2.2.2.2.2.2.1, u5.1.2.2.2.2.2.2.2.2.2.2.2.2.2.2.2.2), u5.2.1, r350.2.2, u5.2.2.2.1, u5.2.2.2.2))) (hS : va_S A s.heap H locs) (ls : Array Slot) (hl : lv_has ls 16 [(0, .ref sb), (1, .ref (ad5 b5)), (2, .ref (ad b)), (3, .ref (ad1 b1)), (4, .ref (ad2 b2)), (5, .ref (ad3 b3)), (6, .ref (ad4 b4)), (7, .int p7), (9, .int p9), (11, .int r160), (13, .int y345_0)]), W p l e room_1 s m args below meth c H locs cells slots Q (F0 m 377 ls [.int y377_1, .int r350.1]) := by
                intro y377_1 hf H locs hP hD hS ls hl
                unfold q_L_turn_J377 at hf
                refine lv_icmp_eq (tgt := 382) hx hb dL_law_377 (by decide) (fun c377 => ?_) (fun c377 => ?_)
                · replace hf := zi_p hf c377
                  refine lv_iload hx hb dL_law_382 (lv_at hl 10 rfl) ?_
                  refine lv_if_eq (tgt := 401) hx hb dL_law_384 (by decide) (fun c384 => ?_) (fun c384 => ?_)
                  · replace hf := zi_p hf c384
                    refine lv_goto (tgt := 1119) hx hb dL_law_401 (by decide) ?_
                    obtain rfl := zo hf
                    exact kk _ _ _ hP hD hS (lv_sub hl [0, 1, 2, 3, 4, 5, 6, 7, 8] rfl)
                  · replace hf := zi_n hf c384
                    refine lv_aload hx hb dL_law_387 (lv_at hl 4 rfl) ?_
                    refine lv_aload_n hx hb dL_law_389 rfl (lv_at hl 2 rfl) ?_
                    refine lv_bipush (v := 8) hx hb dL_law_390 (by decide) ?_
                    refine lv_dup2_11 hx hb dL_law_392 rfl rfl ?_
                    refine z_iald (v := (u 8)) hx hb hK hP 0 0 rfl rfl (z_in rfl) rfl dL_law_393 ?_
                    refine lv_dup_x2 hx hb dL_law_394 rfl rfl rfl ?_
                    refine lv_iconst (v := 1) hx hb dL_law_395 (by decide) ?_
                    refine lv_iadd hx hb dL_law_396 ?_
                    replace hf := zn_s hf
                    obtain ⟨s397, es397, hf⟩ := hf
                    refine z_iast (ws' := wAR G ad b 20 s397 ++ wAR G ad1 b1 8 u1 ++ wAR G ad2 b2 6 u2 ++ wAR G ad3 b3 20 u3 ++ wAR G ad4 b4 30 u4 ++ wX6 G ad5 b5 ((u5.1.1, u5.1.2.1, u5.1.2.2.1, r350.2.1, u5.1.2.2.2.2.1, u5.1.2.2.2.2.2.1, u5.1.2.2.2.2.2.2.1, u5.1.2.2.2.2.2.2.2.1, u5.1.2.2.2.2.2.2.2.2.1, u5.1.2.2.2.2.2.2.2.2.2.1, u5.1.2.2.2.2.2.2.2.2.2.2.1, u5.1.2.2.2.2.2.2.2.2.2.2.2.1, u5.1.2.2.2.2.2.2.2.2.2.2.2.2.1, u5.1.2.2.2.2.2.2.2.2.2.2.2.2.2.1, u5.1.2.2.2.2.2.2.2.2.2.2.2.2.2.2.1, u5.1.2.2.2.2.2.2.2.2.2.2.2.2.2.2.2.1, u5.1.2.2.2.2.2.2.2.2.2.2.2.2.2.2.2.2), u5.2.1, r350.2.2, u5.2.2.2.1, u5.2.2.2.2)) hx hb hK hP hD hS 0 0 rfl rfl (z_in rfl) es397 rfl dL_law_397 (fun H locs hP hD hS => ?_)
                    refine lv_iload hx hb dL_law_398 (lv_at hl 9 rfl) ?_
                    replace hf := zs_s hf
                    obtain ⟨hi400, s400, es400, hf⟩ := hf
                    refine z_iast (ws' := wAR G ad b 20 s397 ++ wAR G ad1 b1 8 u1 ++ wAR G ad2 b2 6 s400 ++ wAR G ad3 b3 20 u3 ++ wAR G ad4 b4 30 u4 ++ wX6 G ad5 b5 ((u5.1.1, u5.1.2.1, u5.1.2.2.1, r350.2.1, u5.1.2.2.2.2.1, u5.1.2.2.2.2.2.1, u5.1.2.2.2.2.2.2.1, u5.1.2.2.2.2.2.2.2.1, u5.1.2.2.2.2.2.2.2.2.1, u5.1.2.2.2.2.2.2.2.2.2.1, u5.1.2.2.2.2.2.2.2.2.2.2.1, u5.1.2.2.2.2.2.2.2.2.2.2.2.1, u5.1.2.2.2.2.2.2.2.2.2.2.2.2.1, u5.1.2.2.2.2.2.2.2.2.2.2.2.2.2.1, u5.1.2.2.2.2.2.2.2.2.2.2.2.2.2.2.1, u5.1.2.2.2.2.2.2.2.2.2.2.2.2.2.2.2.1, u5.1.2.2.2.2.2.2.2.2.2.2.2.2.2.2.2.2), u5.2.1, r350.2.2, u5.2.2.2.1, u5.2.2.2.2)) hx hb hK hP hD hS 2 0 rfl rfl hi400 es400 rfl dL_law_400 (fun H locs hP hD hS => ?_)
                    refine lv_goto (tgt := 1119) hx hb dL_law_401 (by decide) ?_
                    obtain rfl := zo hf
                    exact kk _ _ _ hP hD hS (lv_sub hl [0, 1, 2, 3, 4, 5, 6, 7, 8] rfl)
                · replace hf := zi_n hf c377
                  cases hf
              refine lv_if_eq (tgt := 363) hx hb dL_law_355 (by decide) (fun c355 => ?_) (fun c355 => ?_)
              · replace hf := zi_p hf c355
                refine lv_iload hx hb dL_law_363 (lv_at hl 0 rfl) ?_
                refine lv_if_eq (tgt := 375) hx hb dL_law_365 (by decide) (fun c365 => ?_) (fun c365 => ?_)
                · replace hf := zi_p hf c365
                  refine lv_bipush (v := (-4)) hx hb dL_law_375 (by decide) ?_
                  exact J377 (-4) hf _ _ hP hD hS _ (lv_sub hl [1, 2, 3, 4, 5, 6, 7, 8, 9, 10, 0] rfl)
                · replace hf := zi_n hf c365
                  refine lv_aload_n hx hb dL_law_368 rfl (lv_at hl 3 rfl) ?_
                  refine lv_bipush (v := 8) hx hb dL_law_369 (by decide) ?_
                  refine z_iald (v := (u 8)) hx hb hK hP 0 0 rfl rfl (z_in rfl) rfl dL_law_371 ?_
                  refine lv_goto (tgt := 377) hx hb dL_law_372 (by decide) ?_
                  exact J377 (u 8) hf _ _ hP hD hS _ (lv_sub hl [1, 2, 3, 4, 5, 6, 7, 8, 9, 10, 0] rfl)
              · replace hf := zi_n hf c355
                refine lv_bipush (v := (-3)) hx hb dL_law_358 (by decide) ?_
                refine lv_goto (tgt := 377) hx hb dL_law_360 (by decide) ?_
                exact J377 (-3) hf _ _ hP hD hS _ (lv_sub hl [1, 2, 3, 4, 5, 6, 7, 8, 9, 10, 0] rfl)
            refine lv_if_ne (tgt := 344) hx hb dL_law_328 (by decide) (fun c328 => ?_) (fun c328 => ?_)
            · replace hf := zi_n hf c328
              refine lv_iconst (v := 0) hx hb dL_law_344 (by decide) ?_
              exact J345 0 hf _ _ hP hD hS _ (lv_sub hl [1, 2, 3, 4, 5, 6, 7, 8, 9, 10, 0] rfl)
            · replace hf := zi_p hf c328
              refine lv_aload_n hx hb dL_law_331 rfl (lv_at hl 3 rfl) ?_
              refine lv_bipush (v := 8) hx hb dL_law_332 (by decide) ?_
              refine z_iald (v := (u 8)) hx hb hK hP 0 0 rfl rfl (z_in rfl) rfl dL_law_334 ?_
              refine lv_bipush (v := 6) hx hb dL_law_335 (by decide) ?_
              refine lv_icmp_ge (tgt := 344) hx hb dL_law_337 (by decide) (fun c337 => ?_) (fun c337 => ?_)
              · replace hf := zi_p hf c337
                refine lv_iconst (v := 0) hx hb dL_law_344 (by decide) ?_
                exact J345 0 hf _ _ hP hD hS _ (lv_sub hl [1, 2, 3, 4, 5, 6, 7, 8, 9, 10, 0] rfl)
              · replace hf := zi_n hf c337
                refine lv_iconst (v := 1) hx hb dL_law_340 (by decide) ?_
                refine lv_goto (tgt := 345) hx hb dL_law_341 (by decide) ?_
                exact J345 1 hf _ _ hP hD hS _ (lv_sub hl [1, 2, 3, 4, 5, 6, 7, 8, 9, 10, 0] rfl)
          refine lv_if_ge (tgt := 319) hx hb dL_law_308 (by decide) (fun c308 => ?_) (fun c308 => ?_)
          · replace hf := zi_p hf c308
            refine lv_iconst (v := 1) hx hb dL_law_319 (by decide) ?_
            refine lv_goto (tgt := 324) hx hb dL_law_320 (by decide) ?_
            exact J324 1 hf _ _ hP hD hS _ (lv_sub hl [1, 2, 3, 4, 5, 6, 7, 8, 10, 0] rfl)
          · replace hf := zi_n hf c308
            refine lv_aload_n hx hb dL_law_311 rfl (lv_at hl 3 rfl) ?_
            refine lv_iconst (v := 5) hx hb dL_law_312 (by decide) ?_
            refine z_iald (v := (u 5)) hx hb hK hP 0 0 rfl rfl (z_in rfl) rfl dL_law_313 ?_
            refine lv_iload hx hb dL_law_314 (lv_at hl 0 rfl) ?_
            refine lv_icmp_ne (tgt := 323) hx hb dL_law_316 (by decide) (fun c316 => ?_) (fun c316 => ?_)
            · replace hf := zi_n hf c316
              refine lv_iconst (v := 0) hx hb dL_law_323 (by decide) ?_
              exact J324 0 hf _ _ hP hD hS _ (lv_sub hl [1, 2, 3, 4, 5, 6, 7, 8, 10, 0] rfl)
            · replace hf := zi_p hf c316
              refine lv_iconst (v := 1) hx hb dL_law_319 (by decide) ?_
              refine lv_goto (tgt := 324) hx hb dL_law_320 (by decide) ?_
              exact J324 1 hf _ _ hP hD hS _ (lv_sub hl [1, 2, 3, 4, 5, 6, 7, 8, 10, 0] rfl)
      · replace hf := zi_n hf c168
        refine lv_iconst (v := 1) hx hb dL_law_171 (by decide) ?_
        refine lv_iload hx hb dL_law_172 (lv_at hl 10 rfl) ?_
        refine lv_iconst (v := 4) hx hb dL_law_174 (by decide) ?_
        refine lv_ishr hx hb dL_law_175 ?_
        refine lv_bipush (v := 9) hx hb dL_law_176 (by decide) ?_
        replace hf := zb_s hf
        obtain ⟨r178, hr178, hf⟩ := hf
        refine z_GSi (rest := [.int 1]) C0 kL_89 (c_L_low l D G (p9 >>> (4 &&& 31)) 9 r178 hr178) (List.Perm.refl _) (List.Perm.refl _) rfl ⟨Nat.le_of_ble_eq_true rfl, Nat.le_of_ble_eq_true rfl⟩ (Nat.le_of_ble_eq_true rfl) hcs rfl hl.1 hP hD hS dL_law_178 (fun H locs hP hD hS => ?_)
        replace hP : va_P D vwCl (wAR G ad b 20 u ++ wAR G ad1 b1 8 u1 ++ wAR G ad2 b2 6 u2 ++ wAR G ad3 b3 20 u3 ++ wAR G ad4 b4 30 u4 ++ wX6 G ad5 b5 u5) H := hP
        replace hD : va_D A (wAR G ad b 20 u ++ wAR G ad1 b1 8 u1 ++ wAR G ad2 b2 6 u2 ++ wAR G ad3 b3 20 u3 ++ wAR G ad4 b4 30 u4 ++ wX6 G ad5 b5 u5) := hD
        refine lv_iadd hx hb dL_law_181 ?_
        refine lv_istore (lv' := [(12, .int (1 + r178)), (11, .int r160), (0, .ref sb), (1, .ref (ad5 b5)), (2, .ref (ad b)), (3, .ref (ad1 b1)), (4, .ref (ad2 b2)), (5, .ref (ad3 b3)), (6, .ref (ad4 b4)), (7, .int p7), (8, .int p8), (9, .int p9), (10, .int y139_0)]) hx hb dL_law_182 hl (by decide) rfl (fun ls hl => ?_)
        refine lv_aload_n hx hb dL_law_184 rfl (lv_at hl 4 rfl) ?_
        refine lv_iconst (v := 2) hx hb dL_law_185 (by decide) ?_
        refine z_iald (v := (u 2)) hx hb hK hP 0 0 rfl rfl (z_in rfl) rfl dL_law_186 ?_
        refine lv_bipush (v := 20) hx hb dL_law_187 (by decide) ?_
        have J197 : ∀ (y197_0 : Int32) (hf : q_L_turn_J197 u u1 u2 u3 u4 u5 r160 r178 y197_0 = some res) (H : Heap) (locs : List Loc) (hP : va_P D vwCl (wAR G ad b 20 u ++ wAR G ad1 b1 8 u1 ++ wAR G ad2 b2 6 u2 ++ wAR G ad3 b3 20 u3 ++ wAR G ad4 b4 30 u4 ++ wX6 G ad5 b5 u5) H) (hD : va_D A (wAR G ad b 20 u ++ wAR G ad1 b1 8 u1 ++ wAR G ad2 b2 6 u2 ++ wAR G ad3 b3 20 u3 ++ wAR G ad4 b4 30 u4 ++ wX6 G ad5 b5 u5)) (hS : va_S A s.heap H locs) (ls : Array Slot) (hl : lv_has ls 16 [(0, .ref sb), (1, .ref (ad5 b5)), (2, .ref (ad b)), (3, .ref (ad1 b1)), (4, .ref (ad2 b2)), (5, .ref (ad3 b3)), (6, .ref (ad4 b4)), (7, .int p7), (9, .int p9), (11, .int r160), (12, .int (1 + r178))]), W p l e room_1 s m args below meth c H locs cells slots Q (F0 m 197 ls [.int y197_0]) := by
          intro y197_0 hf H locs hP hD hS ls hl
          unfold q_L_turn_J197 at hf
          refine lv_istore (lv' := [(13, .int y197_0), (0, .ref sb), (1, .ref (ad5 b5)), (2, .ref (ad b)), (3, .ref (ad1 b1)), (4, .ref (ad2 b2)), (5, .ref (ad3 b3)), (6, .ref (ad4 b4)), (7, .int p7), (9, .int p9), (11, .int r160), (12, .int (1 + r178))]) hx hb dL_law_197 hl (by decide) rfl (fun ls hl => ?_)
          refine lv_iconst (v := 1) hx hb dL_law_199 (by decide) ?_
          refine lv_istore (lv' := [(14, .int 1), (13, .int y197_0), (0, .ref sb), (1, .ref (ad5 b5)), (2, .ref (ad b)), (3, .ref (ad1 b1)), (4, .ref (ad2 b2)), (5, .ref (ad3 b3)), (6, .ref (ad4 b4)), (7, .int p7), (9, .int p9), (11, .int r160), (12, .int (1 + r178))]) hx hb dL_law_200 hl (by decide) rfl (fun ls hl => ?_)
          refine lv_iconst (v := 0) hx hb dL_law_202 (by decide) ?_
          refine lv_istore (lv' := [(15, .int 0), (14, .int 1), (13, .int y197_0), (0, .ref sb), (1, .ref (ad5 b5)), (2, .ref (ad b)), (3, .ref (ad1 b1)), (4, .ref (ad2 b2)), (5, .ref (ad3 b3)), (6, .ref (ad4 b4)), (7, .int p7), (9, .int p9), (11, .int r160), (12, .int (1 + r178))]) hx hb dL_law_203 hl (by decide) rfl (fun ls hl => ?_)
          have J242 : ∀ (x242_14 : Int32) (hf : q_L_turn_J242 u u1 u2 u3 u4 u5 r160 r178 y197_0 x242_14 = some res) (H : Heap) (locs : List Loc) (hP : va_P D vwCl (wAR G ad b 20 u ++ wAR G ad1 b1 8 u1 ++ wAR G ad2 b2 6 u2 ++ wAR G ad3 b3 20 u3 ++ wAR G ad4 b4 30 u4 ++ wX6 G ad5 b5 u5) H) (hD : va_D A (wAR G ad b 20 u ++ wAR G ad1 b1 8 u1 ++ wAR G ad2 b2 6 u2 ++ wAR G ad3 b3 20 u3 ++ wAR G ad4 b4 30 u4 ++ wX6 G ad5 b5 u5)) (hS : va_S A s.heap H locs) (ls : Array Slot) (hl : lv_has ls 16 [(0, .ref sb), (1, .ref (ad5 b5)), (2, .ref (ad b)), (3, .ref (ad1 b1)), (4, .ref (ad2 b2)), (5, .ref (ad3 b3)), (6, .ref (ad4 b4)), (7, .int p7), (9, .int p9), (11, .int r160), (12, .int (1 + r178)), (13, .int y197_0), (14, .int x242_14)]), W p l e room_1 s m args below meth c H locs cells slots Q (F0 m 242 ls []) := by
            intro x242_14 hf H locs hP hD hS ls hl
            unfold q_L_turn_J242 at hf
            refine lv_aload_n hx hb dL_law_242 rfl (lv_at hl 1 rfl) ?_
            refine lv_iload hx hb dL_law_243 (lv_at hl 9 rfl) ?_
            refine lv_iload hx hb dL_law_245 (lv_at hl 10 rfl) ?_
            replace hf := zb_s hf
            obtain ⟨r247, hr247, hf⟩ := hf
            refine z_GVi (rest := []) C0 kL_110 (c_X6_spot l D G ad5 (b5) u5 r160 (1 + r178) r247 hr247) pz_6_5 pz_6_5.symm (ci := 7) (T := TX6) (N := 5) rfl rfl rfl ⟨Nat.le_of_ble_eq_true rfl, Nat.le_of_ble_eq_true rfl⟩ (Nat.le_of_ble_eq_true rfl) hcs rfl hl.1 hP hD hS dL_law_247 (fun H locs hP hD hS => ?_)
            replace hP : va_P D vwCl (wAR G ad b 20 u ++ wAR G ad1 b1 8 u1 ++ wAR G ad2 b2 6 u2 ++ wAR G ad3 b3 20 u3 ++ wAR G ad4 b4 30 u4 ++ wX6 G ad5 b5 ((u5.1.1, u5.1.2.1, r247.2.1, u5.1.2.2.2.1, u5.1.2.2.2.2.1, u5.1.2.2.2.2.2.1, u5.1.2.2.2.2.2.2.1, u5.1.2.2.2.2.2.2.2.1, u5.1.2.2.2.2.2.2.2.2.1, u5.1.2.2.2.2.2.2.2.2.2.1, u5.1.2.2.2.2.2.2.2.2.2.2.1, u5.1.2.2.2.2.2.2.2.2.2.2.2.1, u5.1.2.2.2.2.2.2.2.2.2.2.2.2.1, u5.1.2.2.2.2.2.2.2.2.2.2.2.2.2.1, u5.1.2.2.2.2.2.2.2.2.2.2.2.2.2.2.1, u5.1.2.2.2.2.2.2.2.2.2.2.2.2.2.2.2.1, u5.1.2.2.2.2.2.2.2.2.2.2.2.2.2.2.2.2), u5.2.1, r247.2.2, u5.2.2.2.1, u5.2.2.2.2)) H := hP
            replace hD : va_D A (wAR G ad b 20 u ++ wAR G ad1 b1 8 u1 ++ wAR G ad2 b2 6 u2 ++ wAR G ad3 b3 20 u3 ++ wAR G ad4 b4 30 u4 ++ wX6 G ad5 b5 ((u5.1.1, u5.1.2.1, r247.2.1, u5.1.2.2.2.1, u5.1.2.2.2.2.1, u5.1.2.2.2.2.2.1, u5.1.2.2.2.2.2.2.1, u5.1.2.2.2.2.2.2.2.1, u5.1.2.2.2.2.2.2.2.2.1, u5.1.2.2.2.2.2.2.2.2.2.1, u5.1.2.2.2.2.2.2.2.2.2.2.1, u5.1.2.2.2.2.2.2.2.2.2.2.2.1, u5.1.2.2.2.2.2.2.2.2.2.2.2.2.1, u5.1.2.2.2.2.2.2.2.2.2.2.2.2.2.1, u5.1.2.2.2.2.2.2.2.2.2.2.2.2.2.2.1, u5.1.2.2.2.2.2.2.2.2.2.2.2.2.2.2.2.1, u5.1.2.2.2.2.2.2.2.2.2.2.2.2.2.2.2.2), u5.2.1, r247.2.2, u5.2.2.2.1, u5.2.2.2.2)) := hD
            refine lv_iload hx hb dL_law_250 (lv_at hl 11 rfl) ?_
            have J262 : ∀ (y262_1 : Int32) (hf : q_L_turn_J262 u u1 u2 u3 u4 u5 r160 r178 y197_0 r247 y262_1 = some res) (H : Heap) (locs : List Loc) (hP : va_P D vwCl (wAR G ad b 20 u ++ wAR G ad1 b1 8 u1 ++ wAR G ad2 b2 6 u2 ++ wAR G ad3 b3 20 u3 ++ wAR G ad4 b4 30 u4 ++ wX6 G ad5 b5 ((u5.1.1, u5.1.2.1, r247.2.1, u5.1.2.2.2.1, u5.1.2.2.2.2.1, u5.1.2.2.2.2.2.1, u5.1.2.2.2.2.2.2.1, u5.1.2.2.2.2.2.2.2.1, u5.1.2.2.2.2.2.2.2.2.1, u5.1.2.2.2.2.2.2.2.2.2.1, u5.1.2.2.2.2.2.2.2.2.2.2.1, u5.1.2.2.2.2.2.2.2.2.2.2.2.1, u5.1.2.2.2.2.2.2.2.2.2.2.2.2.1, u5.1.2.2.2.2.2.2.2.2.2.2.2.2.2.1, u5.1.2.2.2.2.2.2.2.2.2.2.2.2.2.2.1, u5.1.2.2.2.2.2.2.2.2.2.2.2.2.2.2.2.1, u5.1.2.2.2.2.2.2.2.2.2.2.2.2.2.2.2.2), u5.2.1, r247.2.2, u5.2.2.2.1, u5.2.2.2.2)) H) (hD : va_D A (wAR G ad b 20 u ++ wAR G ad1 b1 8 u1 ++ wAR G ad2 b2 6 u2 ++ wAR G ad3 b3 20 u3 ++ wAR G ad4 b4 30 u4 ++ wX6 G ad5 b5 ((u5.1.1, u5.1.2.1, r247.2.1, u5.1.2.2.2.1, u5.1.2.2.2.2.1, u5.1.2.2.2.2.2.1, u5.1.2.2.2.2.2.2.1, u5.1.2.2.2.2.2.2.2.1, u5.1.2.2.2.2.2.2.2.2.1, u5.1.2.2.2.2.2.2.2.2.2.1, u5.1.2.2.2.2.2.2.2.2.2.2.1, u5.1.2.2.2.2.2.2.2.2.2.2.2.1, u5.1.2.2.2.2.2.2.2.2.2.2.2.2.1, u5.1.2.2.2.2.2.2.2.2.2.2.2.2.2.1, u5.1.2.2.2.2.2.2.2.2.2.2.2.2.2.2.1, u5.1.2.2.2.2.2.2.2.2.2.2.2.2.2.2.2.1, u5.1.2.2.2.2.2.2.2.2.2.2.2.2.2.2.2.2), u5.2.1, r247.2.2, u5.2.2.2.1, u5.2.2.2.2))) (hS : va_S A s.heap H locs) (ls : Array Slot) (hl : lv_has ls 16 [(0, .ref sb), (1, .ref (ad5 b5)), (2, .ref (ad b)), (3, .ref (ad1 b1)), (4, .ref (ad2 b2)), (5, .ref (ad3 b3)), (6, .ref (ad4 b4)), (7, .int p7), (9, .int p9), (11, .int r160), (12, .int (1 + r178)), (13, .int y197_0)]), W p l e room_1 s m args below meth c H locs cells slots Q (F0 m 262 ls [.int y262_1, .int r247.1]) := by
              intro y262_1 hf H locs hP hD hS ls hl
              unfold q_L_turn_J262 at hf
              refine lv_icmp_eq (tgt := 267) hx hb dL_law_262 (by decide) (fun c262 => ?_) (fun c262 => ?_)
              · replace hf := zi_p hf c262
                refine lv_iload hx hb dL_law_267 (lv_at hl 11 rfl) ?_
                refine lv_if_ne (tgt := 291) hx hb dL_law_269 (by decide) (fun c269 => ?_) (fun c269 => ?_)
                · replace hf := zi_n hf c269
                  refine lv_goto (tgt := 1119) hx hb dL_law_291 (by decide) ?_
                  obtain rfl := zo hf
                  exact kk _ _ _ hP hD hS (lv_sub hl [0, 1, 2, 3, 4, 5, 6, 7, 8] rfl)
                · replace hf := zi_p hf c269
                  refine lv_aload hx hb dL_law_272 (lv_at hl 5 rfl) ?_
                  refine lv_aload_n hx hb dL_law_274 rfl (lv_at hl 2 rfl) ?_
                  refine lv_iconst (v := 2) hx hb dL_law_275 (by decide) ?_
                  refine lv_dup2_11 hx hb dL_law_276 rfl rfl ?_
                  refine z_iald (v := (u 2)) hx hb hK hP 0 0 rfl rfl (z_in rfl) rfl dL_law_277 ?_
                  refine lv_dup_x2 hx hb dL_law_278 rfl rfl rfl ?_
                  refine lv_iconst (v := 1) hx hb dL_law_279 (by decide) ?_
                  refine lv_iadd hx hb dL_law_280 ?_
                  replace hf := zn_s hf
                  obtain ⟨s281, es281, hf⟩ := hf
                  refine z_iast (ws' := wAR G ad b 20 s281 ++ wAR G ad1 b1 8 u1 ++ wAR G ad2 b2 6 u2 ++ wAR G ad3 b3 20 u3 ++ wAR G ad4 b4 30 u4 ++ wX6 G ad5 b5 ((u5.1.1, u5.1.2.1, r247.2.1, u5.1.2.2.2.1, u5.1.2.2.2.2.1, u5.1.2.2.2.2.2.1, u5.1.2.2.2.2.2.2.1, u5.1.2.2.2.2.2.2.2.1, u5.1.2.2.2.2.2.2.2.2.1, u5.1.2.2.2.2.2.2.2.2.2.1, u5.1.2.2.2.2.2.2.2.2.2.2.1, u5.1.2.2.2.2.2.2.2.2.2.2.2.1, u5.1.2.2.2.2.2.2.2.2.2.2.2.2.1, u5.1.2.2.2.2.2.2.2.2.2.2.2.2.2.1, u5.1.2.2.2.2.2.2.2.2.2.2.2.2.2.2.1, u5.1.2.2.2.2.2.2.2.2.2.2.2.2.2.2.2.1, u5.1.2.2.2.2.2.2.2.2.2.2.2.2.2.2.2.2), u5.2.1, r247.2.2, u5.2.2.2.1, u5.2.2.2.2)) hx hb hK hP hD hS 0 0 rfl rfl (z_in rfl) es281 rfl dL_law_281 (fun H locs hP hD hS => ?_)
                  refine lv_bipush (v := 10) hx hb dL_law_282 (by decide) ?_
                  refine lv_iload hx hb dL_law_284 (lv_at hl 9 rfl) ?_
                  refine lv_imul hx hb dL_law_286 ?_
                  refine lv_iload hx hb dL_law_287 (lv_at hl 10 rfl) ?_
                  refine lv_iadd hx hb dL_law_289 ?_
                  replace hf := zs_s hf
                  obtain ⟨hi290, s290, es290, hf⟩ := hf
                  refine z_iast (ws' := wAR G ad b 20 s281 ++ wAR G ad1 b1 8 u1 ++ wAR G ad2 b2 6 u2 ++ wAR G ad3 b3 20 s290 ++ wAR G ad4 b4 30 u4 ++ wX6 G ad5 b5 ((u5.1.1, u5.1.2.1, r247.2.1, u5.1.2.2.2.1, u5.1.2.2.2.2.1, u5.1.2.2.2.2.2.1, u5.1.2.2.2.2.2.2.1, u5.1.2.2.2.2.2.2.2.1, u5.1.2.2.2.2.2.2.2.2.1, u5.1.2.2.2.2.2.2.2.2.2.1, u5.1.2.2.2.2.2.2.2.2.2.2.1, u5.1.2.2.2.2.2.2.2.2.2.2.2.1, u5.1.2.2.2.2.2.2.2.2.2.2.2.2.1, u5.1.2.2.2.2.2.2.2.2.2.2.2.2.2.1, u5.1.2.2.2.2.2.2.2.2.2.2.2.2.2.2.1, u5.1.2.2.2.2.2.2.2.2.2.2.2.2.2.2.2.1, u5.1.2.2.2.2.2.2.2.2.2.2.2.2.2.2.2.2), u5.2.1, r247.2.2, u5.2.2.2.1, u5.2.2.2.2)) hx hb hK hP hD hS 3 0 rfl rfl hi290 es290 rfl dL_law_290 (fun H locs hP hD hS => ?_)
                  refine lv_goto (tgt := 1119) hx hb dL_law_291 (by decide) ?_
                  obtain rfl := zo hf
                  exact kk _ _ _ hP hD hS (lv_sub hl [0, 1, 2, 3, 4, 5, 6, 7, 8] rfl)
              · replace hf := zi_n hf c262
                cases hf
            refine lv_if_eq (tgt := 260) hx hb dL_law_252 (by decide) (fun c252 => ?_) (fun c252 => ?_)
            · replace hf := zi_p hf c252
              refine lv_iload hx hb dL_law_260 (lv_at hl 12 rfl) ?_
              exact J262 x242_14 hf _ _ hP hD hS _ (lv_sub hl [0, 1, 2, 3, 4, 5, 6, 7, 8, 9, 10, 11] rfl)
            · replace hf := zi_n hf c252
              refine lv_bipush (v := (-4)) hx hb dL_law_255 (by decide) ?_
              refine lv_goto (tgt := 262) hx hb dL_law_257 (by decide) ?_
              exact J262 (-4) hf _ _ hP hD hS _ (lv_sub hl [0, 1, 2, 3, 4, 5, 6, 7, 8, 9, 10, 11] rfl)
          replace hf := zb_s hf
          obtain ⟨bb205, hz205, hk205⟩ := hf
          have L205 : ∀ (n205 : Nat) (v205 : Int32 × Int32) (hz205 : zl n205 (q_L_turn_L205 u u3 r160) v205 = some bb205) (H : Heap) (locs : List Loc) (hP : va_P D vwCl (wAR G ad b 20 u ++ wAR G ad1 b1 8 u1 ++ wAR G ad2 b2 6 u2 ++ wAR G ad3 b3 20 u3 ++ wAR G ad4 b4 30 u4 ++ wX6 G ad5 b5 u5) H) (hD : va_D A (wAR G ad b 20 u ++ wAR G ad1 b1 8 u1 ++ wAR G ad2 b2 6 u2 ++ wAR G ad3 b3 20 u3 ++ wAR G ad4 b4 30 u4 ++ wX6 G ad5 b5 u5)) (hS : va_S A s.heap H locs) (ls : Array Slot) (hl : lv_has ls 16 [(0, .ref sb), (1, .ref (ad5 b5)), (2, .ref (ad b)), (3, .ref (ad1 b1)), (4, .ref (ad2 b2)), (5, .ref (ad3 b3)), (6, .ref (ad4 b4)), (7, .int p7), (9, .int p9), (11, .int r160), (12, .int (1 + r178)), (13, .int y197_0), (14, .int v205.1), (15, .int v205.2)]), W p l e room_1 s m args below meth c H locs cells slots Q (F0 m 205 ls []) := by
            intro n205
            induction n205 with
            | zero => intro v205 hz205; exact (zl_0 hz205).elim
            | succ n205 ih205 =>
              intro v205 hz205 H locs hP hD hS ls hl
              obtain ⟨o205, hf, hz205⟩ := zl_s hz205
              unfold q_L_turn_L205 at hf
              refine lv_iload hx hb dL_law_205 (lv_at hl 13 rfl) ?_
              refine lv_aload_n hx hb dL_law_207 rfl (lv_at hl 2 rfl) ?_
              refine lv_iconst (v := 2) hx hb dL_law_208 (by decide) ?_
              refine z_iald (v := (u 2)) hx hb hK hP 0 0 rfl rfl (z_in rfl) rfl dL_law_209 ?_
              refine lv_icmp_ge (tgt := 242) hx hb dL_law_210 (by decide) (fun c210 => ?_) (fun c210 => ?_)
              · replace hf := zi_p hf c210
                have hb205 := (zk_r hf hz205).symm
                subst hb205
                replace hf := hk205
                exact J242 v205.1 hf _ _ hP hD hS _ (lv_sub hl [0, 1, 2, 3, 4, 5, 6, 7, 8, 9, 10, 11, 12] rfl)
              · replace hf := zi_n hf c210
                refine lv_iload hx hb dL_law_213 (lv_at hl 12 rfl) ?_
                refine lv_aload hx hb dL_law_215 (lv_at hl 5 rfl) ?_
                refine lv_iload hx hb dL_law_217 (lv_at hl 13 rfl) ?_
                replace hf := zg_s hf
                obtain ⟨hi219, a219, ea219, hf⟩ := hf
                refine z_iald hx hb hK hP 3 0 rfl rfl hi219 ea219 dL_law_219 ?_
                refine lv_bipush (v := 10) hx hb dL_law_220 (by decide) ?_
                refine lv_idiv hx hb dL_law_222 (by decide) ?_
                refine lv_iload hx hb dL_law_223 (lv_at hl 9 rfl) ?_
                refine lv_icmp_ne (tgt := 232) hx hb dL_law_225 (by decide) (fun c225 => ?_) (fun c225 => ?_)
                · replace hf := zi_n hf c225
                  refine lv_iconst (v := 0) hx hb dL_law_232 (by decide) ?_
                  refine lv_iadd hx hb dL_law_233 ?_
                  refine lv_istore (lv' := [(14, .int (v205.1 + 0)), (0, .ref sb), (1, .ref (ad5 b5)), (2, .ref (ad b)), (3, .ref (ad1 b1)), (4, .ref (ad2 b2)), (5, .ref (ad3 b3)), (6, .ref (ad4 b4)), (7, .int p7), (9, .int p9), (11, .int r160), (12, .int (1 + r178)), (13, .int y197_0), (15, .int v205.2)]) hx hb dL_law_234 hl (by decide) rfl (fun ls hl => ?_)
                  refine lv_iinc (v := (v205.2 + 1)) (lv' := [(15, .int (v205.2 + 1)), (14, .int (v205.1 + 0)), (0, .ref sb), (1, .ref (ad5 b5)), (2, .ref (ad b)), (3, .ref (ad1 b1)), (4, .ref (ad2 b2)), (5, .ref (ad3 b3)), (6, .ref (ad4 b4)), (7, .int p7), (9, .int p9), (11, .int r160), (12, .int (1 + r178)), (13, .int y197_0)]) hx hb dL_law_236 hl (k := 13) rfl rfl (by decide) rfl (fun ls hl => ?_)
                  refine lv_goto (tgt := 205) hx hb dL_law_239 (by decide) ?_
                  exact ih205 _ (zk_l hf hz205) _ _ hP hD hS _ (lv_sub hl [2, 3, 4, 5, 6, 7, 8, 9, 10, 11, 12, 13, 1, 0] rfl)
                · replace hf := zi_p hf c225
                  refine lv_iconst (v := 1) hx hb dL_law_228 (by decide) ?_
                  refine lv_goto (tgt := 233) hx hb dL_law_229 (by decide) ?_
                  refine lv_iadd hx hb dL_law_233 ?_
                  refine lv_istore (lv' := [(14, .int (v205.1 + 1)), (0, .ref sb), (1, .ref (ad5 b5)), (2, .ref (ad b)), (3, .ref (ad1 b1)), (4, .ref (ad2 b2)), (5, .ref (ad3 b3)), (6, .ref (ad4 b4)), (7, .int p7), (9, .int p9), (11, .int r160), (12, .int (1 + r178)), (13, .int y197_0), (15, .int v205.2)]) hx hb dL_law_234 hl (by decide) rfl (fun ls hl => ?_)
                  refine lv_iinc (v := (v205.2 + 1)) (lv' := [(15, .int (v205.2 + 1)), (14, .int (v205.1 + 1)), (0, .ref sb), (1, .ref (ad5 b5)), (2, .ref (ad b)), (3, .ref (ad1 b1)), (4, .ref (ad2 b2)), (5, .ref (ad3 b3)), (6, .ref (ad4 b4)), (7, .int p7), (9, .int p9), (11, .int r160), (12, .int (1 + r178)), (13, .int y197_0)]) hx hb dL_law_236 hl (k := 13) rfl rfl (by decide) rfl (fun ls hl => ?_)
                  refine lv_goto (tgt := 205) hx hb dL_law_239 (by decide) ?_
                  exact ih205 _ (zk_l hf hz205) _ _ hP hD hS _ (lv_sub hl [2, 3, 4, 5, 6, 7, 8, 9, 10, 11, 12, 13, 1, 0] rfl)
          exact L205 _ _ hz205 _ _ hP hD hS _ (lv_sub hl [3, 4, 5, 6, 7, 8, 9, 10, 11, 12, 13, 2, 1, 0] rfl)
        refine lv_icmp_ne (tgt := 196) hx hb dL_law_189 (by decide) (fun c189 => ?_) (fun c189 => ?_)
        · replace hf := zi_n hf c189
          refine lv_iconst (v := 0) hx hb dL_law_196 (by decide) ?_
          exact J197 0 hf _ _ hP hD hS _ (lv_sub hl [2, 3, 4, 5, 6, 7, 8, 9, 11, 1, 0] rfl)
        · replace hf := zi_p hf c189
          refine lv_iconst (v := 1) hx hb dL_law_192 (by decide) ?_
          refine lv_goto (tgt := 197) hx hb dL_law_193 (by decide) ?_
          exact J197 1 hf _ _ hP hD hS _ (lv_sub hl [2, 3, 4, 5, 6, 7, 8, 9, 11, 1, 0] rfl)
    refine lv_if_ne (tgt := 159) hx hb dL_law_151 (by decide) (fun c151 => ?_) (fun c151 => ?_)
    · replace hf := zi_n hf c151
      refine lv_iconst (v := 3) hx hb dL_law_159 (by decide) ?_
      exact J160 3 hf _ _ hP hD hS _ (lv_sub hl [1, 2, 3, 4, 5, 6, 7, 8, 9, 10, 0] rfl)
    · replace hf := zi_p hf c151
      refine lv_bipush (v := 8) hx hb dL_law_154 (by decide) ?_
      refine lv_goto (tgt := 160) hx hb dL_law_156 (by decide) ?_
      exact J160 8 hf _ _ hP hD hS _ (lv_sub hl [1, 2, 3, 4, 5, 6, 7, 8, 9, 10, 0] rfl)
  refine lv_if_ne (tgt := 122) hx hb dL_law_114 (by decide) (fun c114 => ?_) (fun c114 => ?_)
  · replace hf := zi_n hf c114
    refine lv_iload hx hb dL_law_122 (lv_at hl 7 rfl) ?_
    refine lv_iconst (v := 5) hx hb dL_law_124 (by decide) ?_
    refine lv_icmp_ge (tgt := 132) hx hb dL_law_125 (by decide) (fun c125 => ?_) (fun c125 => ?_)
    · replace hf := zi_p hf c125
      refine lv_iload hx hb dL_law_132 (lv_at hl 8 rfl) ?_
      refine lv_bipush (v := 16) hx hb dL_law_134 (by decide) ?_
      replace hf := zb_s hf
      obtain ⟨r136, hr136, hf⟩ := hf
      refine z_GSi (rest := []) C0 kL_89 (c_L_low l D G p8 16 r136 hr136) (List.Perm.refl _) (List.Perm.refl _) rfl ⟨Nat.le_of_ble_eq_true rfl, Nat.le_of_ble_eq_true rfl⟩ (Nat.le_of_ble_eq_true rfl) hcs rfl hl.1 hP hD hS dL_law_136 (fun H locs hP hD hS => ?_)
      replace hP : va_P D vwCl (wAR G ad b 20 u ++ wAR G ad1 b1 8 u1 ++ wAR G ad2 b2 6 u2 ++ wAR G ad3 b3 20 u3 ++ wAR G ad4 b4 30 u4 ++ wX6 G ad5 b5 u5) H := hP
      replace hD : va_D A (wAR G ad b 20 u ++ wAR G ad1 b1 8 u1 ++ wAR G ad2 b2 6 u2 ++ wAR G ad3 b3 20 u3 ++ wAR G ad4 b4 30 u4 ++ wX6 G ad5 b5 u5) := hD
      exact J139 r136 hf _ _ hP hD hS _ (lv_sub hl [0, 1, 2, 3, 4, 5, 6, 7, 8, 9] rfl)
    · replace hf := zi_n hf c125
      refine lv_iconst (v := 0) hx hb dL_law_128 (by decide) ?_
      refine lv_goto (tgt := 139) hx hb dL_law_129 (by decide) ?_
      exact J139 0 hf _ _ hP hD hS _ (lv_sub hl [0, 1, 2, 3, 4, 5, 6, 7, 8, 9] rfl)
  · replace hf := zi_p hf c114
    refine lv_bipush (v := 8) hx hb dL_law_117 (by decide) ?_
    refine lv_goto (tgt := 139) hx hb dL_law_119 (by decide) ?_
    exact J139 8 hf _ _ hP hD hS _ (lv_sub hl [0, 1, 2, 3, 4, 5, 6, 7, 8, 9] rfl)
