theorem kL_70 : zLkV RL 70 yX6_entries cX6_entries 1 (some .int) 0 := ⟨⟨wd_382, wd_383, wd_384, wd_2, wd_385⟩, by decide +kernel⟩
theorem kL_74 : zLkV RL 74 yX6_overdue cX6_overdue 1 (some .int) 0 := ⟨⟨wd_386, wd_387, wd_388, wd_2, wd_389⟩, by decide +kernel⟩
theorem kL_77 : zLkV RL 77 yX6_nextCheck cX6_nextCheck 1 (some .int) 0 := ⟨⟨wd_397, wd_398, wd_399, wd_2, wd_400⟩, by decide +kernel⟩
theorem kL_80 : zLkV RL 80 yX6_entry cX6_entry 3 (some .int) 2 := ⟨⟨wd_402, wd_403, wd_404, wd_2, wd_405⟩, by decide +kernel⟩
theorem kL_89 : zLkS RL 89 yL_low cL_low 2 (some .int) 2 := ⟨⟨wd_126, wd_127, wd_122, wd_128⟩, by decide +kernel⟩
theorem kL_92 : zLkS RL 92 yL_then cL_then 13 (some .int) 7 := ⟨⟨wd_667, wd_668, wd_122, wd_669⟩, by decide +kernel⟩
theorem kL_96 : zLkV RL 96 yX6_ifQuiet cX6_ifQuiet 2 (some .int) 1 := ⟨⟨wd_670, wd_671, wd_672, wd_2, wd_673⟩, by decide +kernel⟩
theorem kL_99 : zLkV RL 99 yX6_bestWay cX6_bestWay 6 (some .int) 1 := ⟨⟨wd_680, wd_681, wd_682, wd_2, wd_683⟩, by decide +kernel⟩
theorem kL_102 : zLkV RL 102 yX6_checkedIn cX6_checkedIn 3 (some .int) 1 := ⟨⟨wd_684, wd_685, wd_686, wd_2, wd_687⟩, by decide +kernel⟩
theorem kL_83 : zLkV RL 83 yX6_lineAt cX6_lineAt 3 (some .int) 2 := ⟨⟨wd_640, wd_641, wd_642, wd_2, wd_643⟩, by decide +kernel⟩
theorem kL_86 : zLkS RL 86 yL_letter cL_letter 4 (some .int) 2 := ⟨⟨wd_657, wd_658, wd_122, wd_659⟩, by decide +kernel⟩
theorem kL_63 : zLkV RL 63 yX6_span cX6_span 3 (some .int) 2 := ⟨⟨wd_370, wd_371, wd_372, wd_2, wd_373⟩, by decide +kernel⟩
theorem kL_66 : zLkS RL 66 yL_place cL_place 4 (some .int) 3 := ⟨⟨wd_183, wd_184, wd_122, wd_185⟩, by decide +kernel⟩
theorem kL_59 : zLkV RL 59 yX6_tries cX6_tries 3 (some .int) 2 := ⟨⟨wd_361, wd_362, wd_363, wd_2, wd_364⟩, by decide +kernel⟩
theorem kL_56 : zLkV RL 56 yX6_setting cX6_setting 2 (some .int) 1 := ⟨⟨wd_356, wd_357, wd_358, wd_2, wd_359⟩, by decide +kernel⟩
theorem kL_50 : zLkV RL 50 yX6_count cX6_count 2 (some .int) 1 := ⟨⟨wd_348, wd_349, wd_350, wd_2, wd_351⟩, by decide +kernel⟩
noncomputable def q_L_same_J795 (u : Nat → Int32) (u1 : Nat → Int32) (u2 : Nat → Int32) (u3 : Nat → Int32) (u5 : tX6) (w656_0 : tJ4) (r659 : Int32) (r669 : Int32) (y762_0 : Int32) (r767 : Int32 × tX1) (y795_1 : Int32) : Option (Int32 × tX1 × tJ4) :=
  (if r767.1 = y795_1 then zb (q_X6_bestWay (u5.1, r767.2, u5.2.2.1, u5.2.2.2.1, w656_0) r659) fun r801 => (if r801.1 = y762_0 then zb (q_X6_checkedIn (u5.1, r801.2, u5.2.2.1, u5.2.2.2.1, w656_0) r669) fun r812 => zb (q_L_then u u1 u2 u3 3000 (u 4) r669) fun r829 => (if r812.1 = r829 then some (1, r812.2, w656_0) else none) else none) else none)
noncomputable def q_L_same_J762 (u : Nat → Int32) (u1 : Nat → Int32) (u2 : Nat → Int32) (u3 : Nat → Int32) (u5 : tX6) (w656_0 : tJ4) (r659 : Int32) (r669 : Int32) (r697 : Int32) (r712 : Int32) (r727 : Int32) (y762_0 : Int32) : Option (Int32 × tX1 × tJ4) :=
  zb (q_X6_ifQuiet (u5.1, u5.2.1, u5.2.2.1, u5.2.2.2.1, w656_0) r659) fun r767 => (if (u 4) = 0 then q_L_same_J795 u u1 u2 u3 u5 w656_0 r659 r669 y762_0 r767 r697 else (if (u 4) = 1 then q_L_same_J795 u u1 u2 u3 u5 w656_0 r659 r669 y762_0 r767 r712 else q_L_same_J795 u u1 u2 u3 u5 w656_0 r659 r669 y762_0 r767 r727))
noncomputable def q_L_same_J750 (u : Nat → Int32) (u1 : Nat → Int32) (u2 : Nat → Int32) (u3 : Nat → Int32) (u5 : tX6) (w656_0 : tJ4) (r659 : Int32) (r669 : Int32) (r697 : Int32) (r712 : Int32) (r727 : Int32)  : Option (Int32 × tX1 × tJ4) :=
  (if r697 ≤ r712 then q_L_same_J762 u u1 u2 u3 u5 w656_0 r659 r669 r697 r712 r727 0 else q_L_same_J762 u u1 u2 u3 u5 w656_0 r659 r669 r697 r712 r727 1)
noncomputable def q_L_same_J656 (u : Nat → Int32) (u1 : Nat → Int32) (u2 : Nat → Int32) (u3 : Nat → Int32) (u5 : tX6) (p1 : Int32) (w656_0 : tJ4) : Option (Int32 × tX1 × tJ4) :=
  zb (q_L_low p1 120) fun r659 => zb (q_L_low (p1 >>> (4 &&& 31)) 8) fun r669 => zb (q_L_low (p1 >>> (8 &&& 31)) 4) fun r679 => (if r679 ≤ 0 then zb (q_L_then u u1 u2 u3 r659 0 (-1)) fun r697 => zb (q_L_then u u1 u2 u3 r659 1 (-1)) fun r712 => zb (q_L_then u u1 u2 u3 r659 2 (-1)) fun r727 => (if r697 ≤ r727 then q_L_same_J750 u u1 u2 u3 u5 w656_0 r659 r669 r697 r712 r727 else (if r712 ≤ r727 then q_L_same_J750 u u1 u2 u3 u5 w656_0 r659 r669 r697 r712 r727 else q_L_same_J762 u u1 u2 u3 u5 w656_0 r659 r669 r697 r712 r727 2)) else some (1, u5.2.1, w656_0))
noncomputable def q_L_same_J582 (u4 : Nat → Int32) (u5 : tX6) (v385 : Int32 × tJ4) (x582_9 : Int32) (w582_0 : tJ4) : Option ((Int32 × tJ4) ⊕ (tJ4)) :=
  zb (q_X6_lineAt (u5.1, u5.2.1, u5.2.2.1, u5.2.2.2.1, w582_0) v385.1 x582_9) fun r587 => (if r587.1 = 32 then zb (q_X6_lineAt (u5.1, u5.2.1, u5.2.2.1, u5.2.2.2.1, r587.2) v385.1 (x582_9 + 1)) fun r602 => zg 30 u4 ((3 * v385.1) + 2) fun a615 => (if r602.1 = (48 + a615) then zb (q_X6_lineAt (u5.1, u5.2.1, u5.2.2.1, u5.2.2.2.1, r602.2) v385.1 (x582_9 + 2)) fun r627 => (if r627.1 = (-1) then zb (q_X6_entry (u5.1, u5.2.1, u5.2.2.1, u5.2.2.2.1, r627.2) v385.1 3) fun r638 => (if r638.1 = (x582_9 + 2) then some (Sum.inl ((v385.1 + 1), r638.2)) else none) else none) else none) else none)
noncomputable def q_L_same_L529 (u4 : Nat → Int32) (u5 : tX6) (v385 : Int32 × tJ4) (v529 : Int32 × Int32 × tJ4) : Option ((Int32 × Int32 × tJ4) ⊕ (Int32 × tJ4)) :=
  zg 30 u4 ((3 * v385.1) + 1) fun a537 => zb (q_L_letter a537 v529.2.1) fun r540 => (if r540 ≤ 0 then some (Sum.inr (v529.1, v529.2.2)) else zb (q_X6_lineAt (u5.1, u5.2.1, u5.2.2.1, u5.2.2.2.1, v529.2.2) v385.1 v529.1) fun r554 => zg 30 u4 ((3 * v385.1) + 1) fun a565 => zb (q_L_letter a565 v529.2.1) fun r568 => (if r554.1 = r568 then some (Sum.inl ((v529.1 + 1), (v529.2.1 + 1), r554.2)) else none))
noncomputable def q_L_same_J508 (u4 : Nat → Int32) (u5 : tX6) (v385 : Int32 × tJ4) (x508_9 : Int32) (w508_0 : tJ4) : Option ((Int32 × tJ4) ⊕ (tJ4)) :=
  zb (q_X6_lineAt (u5.1, u5.2.1, u5.2.2.1, u5.2.2.2.1, w508_0) v385.1 x508_9) fun r516 => (if r516.1 = 32 then zb (zl 1000000 (q_L_same_L529 u4 u5 v385) ((x508_9 + 1), 0, r516.2)) (fun bb529 => q_L_same_J582 u4 u5 v385 bb529.1 bb529.2) else none)
noncomputable def q_L_same_L461 (u4 : Nat → Int32) (u5 : tX6) (v385 : Int32 × tJ4) (v461 : Int32 × Int32 × tJ4) : Option ((Int32 × Int32 × tJ4) ⊕ (Int32 × tJ4)) :=
  (if v461.2.1 ≤ 0 then some (Sum.inr (v461.1, v461.2.2)) else zb (q_X6_lineAt (u5.1, u5.2.1, u5.2.2.1, u5.2.2.2.1, v461.2.2) v385.1 v461.1) fun r474 => zg 30 u4 (3 * v385.1) fun a485 => zq (¬ v461.2.1 = 0) ((if r474.1 = (48 + ((a485 / v461.2.1) - (a485 / v461.2.1) / 10 * 10)) then some (Sum.inl ((v461.1 + 1), (v461.2.1 / 10), r474.2)) else none)))
noncomputable def q_L_same_J461 (u4 : Nat → Int32) (u5 : tX6) (v385 : Int32 × tJ4) (w430_0 : tJ4) (x461_10 : Int32) : Option ((Int32 × tJ4) ⊕ (tJ4)) :=
  zb (zl 1000000 (q_L_same_L461 u4 u5 v385) (0, x461_10, w430_0)) (fun bb461 => q_L_same_J508 u4 u5 v385 bb461.1 bb461.2)
noncomputable def q_L_same_L436 (u4 : Nat → Int32) (v385 : Int32 × tJ4) (v436 : Int32) : Option ((Int32) ⊕ (Int32)) :=
  zg 30 u4 (3 * v385.1) fun a442 => zq (¬ v436 = 0) ((if (a442 / v436) ≤ 9 then some (Sum.inr (v436)) else some (Sum.inl ((v436 * 10)))))
noncomputable def q_L_same_J430 (u4 : Nat → Int32) (u5 : tX6) (v385 : Int32 × tJ4) (w430_0 : tJ4) : Option ((Int32 × tJ4) ⊕ (tJ4)) :=
  zb (zl 1000000 (q_L_same_L436 u4 v385) (1)) (fun bb436 => q_L_same_J461 u4 u5 v385 w430_0 bb436)
noncomputable def q_L_same_L395 (u4 : Nat → Int32) (u5 : tX6) (v385 : Int32 × tJ4) (v395 : Int32 × tJ4) : Option ((Int32 × tJ4) ⊕ (tJ4)) :=
  (if 3 ≤ v395.1 then some (Sum.inr (v395.2)) else zb (q_X6_entry (u5.1, u5.2.1, u5.2.2.1, u5.2.2.2.1, v395.2) v385.1 v395.1) fun r406 => zg 30 u4 ((3 * v385.1) + v395.1) fun a418 => (if r406.1 = a418 then some (Sum.inl ((v395.1 + 1), r406.2)) else none))
noncomputable def q_L_same_L385 (u4 : Nat → Int32) (u5 : tX6) (y330_0 : Int32) (v385 : Int32 × tJ4) : Option ((Int32 × tJ4) ⊕ (tJ4)) :=
  (if y330_0 ≤ v385.1 then some (Sum.inr (v385.2)) else zb (zl 1000000 (q_L_same_L395 u4 u5 v385) (0, v385.2)) (fun bb395 => q_L_same_J430 u4 u5 v385 bb395))
noncomputable def q_L_same_J330 (u : Nat → Int32) (u1 : Nat → Int32) (u2 : Nat → Int32) (u3 : Nat → Int32) (u4 : Nat → Int32) (u5 : tX6) (p1 : Int32) (y330_0 : Int32) : Option (Int32 × tX1 × tJ4) :=
  zb (q_X6_entries u5) fun r333 => (if r333 = y330_0 then zb (q_X6_overdue u5) fun r342 => zb (q_L_late u u1) fun r347 => (if r342 = r347 then zb (q_X6_nextCheck u5) fun r354 => zb (q_L_next u u1 u2 u3) fun r363 => (if r354 = r363 then zb (q_X6_entry u5 y330_0 0) fun r373 => (if r373.1 = (-1) then zb (zl 1000000 (q_L_same_L385 u4 u5 y330_0) (0, r373.2)) (fun bb385 => q_L_same_J656 u u1 u2 u3 u5 p1 bb385) else none) else none) else none) else none)
noncomputable def q_L_same_J312 (u : Nat → Int32) (u1 : Nat → Int32) (u2 : Nat → Int32) (u3 : Nat → Int32) (u4 : Nat → Int32) (u5 : tX6) (p1 : Int32)  : Option (Int32 × tX1 × tJ4) :=
  (if 10 ≤ (u 14) then q_L_same_J330 u u1 u2 u3 u4 u5 p1 10 else q_L_same_J330 u u1 u2 u3 u4 u5 p1 (u 14))
noncomputable def q_L_same_J238 (u : Nat → Int32) (u2 : Nat → Int32) (u3 : Nat → Int32) (u5 : tX6) (v67 : Int32) (x144_9 : Int32) (r206 : Int32) (y238_1 : Int32) : Option ((Int32) ⊕ (Unit)) :=
  (if r206 = y238_1 then zb (q_X6_span u5 v67 5) fun r245 => zb (q_L_sum u u3 v67 (u 18)) fun r265 => (if r245 = ((u 16) + ((u 17) * r265)) then zb (q_X6_span u5 v67 6) fun r278 => zb (q_L_place u u2 v67) fun r286 => (if r278 = r286 then zb (q_X6_tries u5 v67 x144_9) fun r297 => (if r297 = (-1) then some (Sum.inl ((v67 + 1))) else none) else none) else none) else none)
noncomputable def q_L_same_J144 (u : Nat → Int32) (u1 : Nat → Int32) (u2 : Nat → Int32) (u3 : Nat → Int32) (u5 : tX6) (v67 : Int32) (a80 : Int32) (x144_9 : Int32) : Option ((Int32) ⊕ (Unit)) :=
  zb (q_X6_span u5 v67 0) fun r148 => zg 8 u1 v67 fun a154 => (if r148 = a154 then zb (q_X6_span u5 v67 1) fun r162 => (if r162 = ((u 0) - a80) then zb (q_X6_span u5 v67 2) fun r174 => (if r174 = x144_9 then zb (q_X6_span u5 v67 3) fun r186 => zb (q_L_sum u u3 v67 9) fun r196 => (if r186 = r196 then zb (q_X6_span u5 v67 4) fun r206 => (if ((u 0) - a80) ≤ (u 19) then (if ((u 0) - a80) < ((u 19) / 2) then q_L_same_J238 u u2 u3 u5 v67 x144_9 r206 0 else q_L_same_J238 u u2 u3 u5 v67 x144_9 r206 1) else q_L_same_J238 u u2 u3 u5 v67 x144_9 r206 2) else none) else none) else none) else none)
noncomputable def q_L_same_L90 (u : Nat → Int32) (u3 : Nat → Int32) (u5 : tX6) (v67 : Int32) (v90 : Int32 × Int32) : Option ((Int32 × Int32) ⊕ (Int32)) :=
  (if (u 2) ≤ v90.2 then some (Sum.inr (v90.1)) else zg 20 u3 v90.2 fun a102 => (if (a102 / 10) = v67 then zb (q_X6_tries u5 v67 v90.1) fun r119 => zg 20 u3 v90.2 fun a126 => (if r119 = (a126 - a126 / 10 * 10) then some (Sum.inl ((v90.1 + 1), (v90.2 + 1))) else none) else some (Sum.inl (v90.1, (v90.2 + 1)))))
noncomputable def q_L_same_L67 (u : Nat → Int32) (u1 : Nat → Int32) (u2 : Nat → Int32) (u3 : Nat → Int32) (u5 : tX6) (v67 : Int32) : Option ((Int32) ⊕ (Unit)) :=
  (if 8 ≤ v67 then some (Sum.inr ()) else zg 8 u1 v67 fun a80 => zb (zl 1000000 (q_L_same_L90 u u3 u5 v67) (0, 0)) (fun bb90 => q_L_same_J144 u u1 u2 u3 u5 v67 a80 bb90))
noncomputable def q_L_same_J64 (u : Nat → Int32) (u1 : Nat → Int32) (u2 : Nat → Int32) (u3 : Nat → Int32) (u4 : Nat → Int32) (u5 : tX6) (p1 : Int32)  : Option (Int32 × tX1 × tJ4) :=
  zb (zl 1000000 (q_L_same_L67 u u1 u2 u3 u5) (0)) (fun bb67 => q_L_same_J312 u u1 u2 u3 u4 u5 p1)
noncomputable def q_L_same_L34 (u : Nat → Int32) (u5 : tX6) (v34 : Int32) : Option ((Int32) ⊕ (Unit)) :=
  (if 5 ≤ v34 then some (Sum.inr ()) else zb (q_X6_setting u5 v34) fun r43 => zg 20 u (15 + v34) fun a52 => (if r43 = a52 then some (Sum.inl ((v34 + 1))) else none))
noncomputable def q_L_same_J31 (u : Nat → Int32) (u1 : Nat → Int32) (u2 : Nat → Int32) (u3 : Nat → Int32) (u4 : Nat → Int32) (u5 : tX6) (p1 : Int32)  : Option (Int32 × tX1 × tJ4) :=
  zb (zl 1000000 (q_L_same_L34 u u5) (0)) (fun bb34 => q_L_same_J64 u u1 u2 u3 u4 u5 p1)
noncomputable def q_L_same_L3 (u : Nat → Int32) (u5 : tX6) (v3 : Int32) : Option ((Int32) ⊕ (Unit)) :=
  (if 13 ≤ v3 then some (Sum.inr ()) else zb (q_X6_count u5 v3) fun r13 => zg 20 u v3 fun a19 => (if r13 = a19 then some (Sum.inl ((v3 + 1))) else none))
noncomputable def q_L_same (u : Nat → Int32) (u1 : Nat → Int32) (u2 : Nat → Int32) (u3 : Nat → Int32) (u4 : Nat → Int32) (u5 : tX6) (p1 : Int32) : Option (Int32 × tX1 × tJ4) :=
  zb (zl 1000000 (q_L_same_L3 u u5) (0)) (fun bb3 => q_L_same_J31 u u1 u2 u3 u4 u5 p1)
set_option maxRecDepth 100000 in
set_option maxHeartbeats 8000000 in
theorem c_L_same (l : Launch) (D : va_G) (G : zG) (ad : Nat → Nat) (b : Nat) (ad1 : Nat → Nat) (b1 : Nat) (ad2 : Nat → Nat) (b2 : Nat) (ad3 : Nat → Nat) (b3 : Nat) (ad4 : Nat → Nat) (b4 : Nat) (ad5 : Nat → Nat) (b5 : Nat) (u : Nat → Int32) (u1 : Nat → Int32) (u2 : Nat → Int32) (u3 : Nat → Int32) (u4 : Nat → Int32) (u5 : tX6) (p1 : Int32) (res : Int32 × tX1 × tJ4) (hf : q_L_same u u1 u2 u3 u4 u5 p1 = some res) : zMk l yL_same cL_same 14 (some .boolean) 7 171 20 336 D G (wAR G ad b 20 u ++ wAR G ad1 b1 8 u1 ++ wAR G ad2 b2 6 u2 ++ wAR G ad3 b3 20 u3 ++ wAR G ad4 b4 30 u4 ++ wX6 G ad5 b5 u5) (wAR G ad b 20 u ++ wAR G ad1 b1 8 u1 ++ wAR G ad2 b2 6 u2 ++ wAR G ad3 b3 20 u3 ++ wAR G ad4 b4 30 u4 ++ wX6 G ad5 b5 (u5.1, res.2.1, u5.2.2.1, u5.2.2.2.1, res.2.2)) [.ref (ad5 b5), .int p1, .ref (ad b), .ref (ad1 b1), .ref (ad2 b2), .ref (ad3 b3), .ref (ad4 b4)] res.1 := by
  refine zs_k (by decide +kernel) (Nat.le_of_ble_eq_true rfl) ?_
  intro p e s m args below meth c A Q H ls C0 hret hP hD hS hl
  obtain ⟨hx, hb, hml, hown, hW, hK, hlocks, hF, hr, hA⟩ := id C0
  replace hl : lv_has ls 14 [(0, .ref (ad5 b5)), (1, .int p1), (2, .ref (ad b)), (3, .ref (ad1 b1)), (4, .ref (ad2 b2)), (5, .ref (ad3 b3)), (6, .ref (ad4 b4))] := hl
  unfold q_L_same at hf
  refine lv_iconst (v := 0) hx hb dL_same_0 (by decide) ?_
  refine lv_istore (lv' := [(7, .int 0), (0, .ref (ad5 b5)), (1, .int p1), (2, .ref (ad b)), (3, .ref (ad1 b1)), (4, .ref (ad2 b2)), (5, .ref (ad3 b3)), (6, .ref (ad4 b4))]) hx hb dL_same_1 hl (by decide) rfl (fun ls hl => ?_)
  have J31 : ∀ (hf : q_L_same_J31 u u1 u2 u3 u4 u5 p1 = some res) (H : Heap) (locs : List Loc) (hP : va_P D vwCl (wAR G ad b 20 u ++ wAR G ad1 b1 8 u1 ++ wAR G ad2 b2 6 u2 ++ wAR G ad3 b3 20 u3 ++ wAR G ad4 b4 30 u4 ++ wX6 G ad5 b5 u5) H) (hD : va_D A (wAR G ad b 20 u ++ wAR G ad1 b1 8 u1 ++ wAR G ad2 b2 6 u2 ++ wAR G ad3 b3 20 u3 ++ wAR G ad4 b4 30 u4 ++ wX6 G ad5 b5 u5)) (hS : va_S A s.heap H locs) (ls : Array Slot) (hl : lv_has ls 14 [(0, .ref (ad5 b5)), (1, .int p1), (2, .ref (ad b)), (3, .ref (ad1 b1)), (4, .ref (ad2 b2)), (5, .ref (ad3 b3)), (6, .ref (ad4 b4))]), W p l e (zRc 7 171 20 336) s m args below meth c H locs 0 0 Q (F0 m 31 ls []) := by
    intro  hf H locs hP hD hS ls hl
    unfold q_L_same_J31 at hf
    refine lv_iconst (v := 0) hx hb dL_same_31 (by decide) ?_
    refine lv_istore (lv' := [(7, .int 0), (0, .ref (ad5 b5)), (1, .int p1), (2, .ref (ad b)), (3, .ref (ad1 b1)), (4, .ref (ad2 b2)), (5, .ref (ad3 b3)), (6, .ref (ad4 b4))]) hx hb dL_same_32 hl (by decide) rfl (fun ls hl => ?_)
    have J64 : ∀ (hf : q_L_same_J64 u u1 u2 u3 u4 u5 p1 = some res) (H : Heap) (locs : List Loc) (hP : va_P D vwCl (wAR G ad b 20 u ++ wAR G ad1 b1 8 u1 ++ wAR G ad2 b2 6 u2 ++ wAR G ad3 b3 20 u3 ++ wAR G ad4 b4 30 u4 ++ wX6 G ad5 b5 u5) H) (hD : va_D A (wAR G ad b 20 u ++ wAR G ad1 b1 8 u1 ++ wAR G ad2 b2 6 u2 ++ wAR G ad3 b3 20 u3 ++ wAR G ad4 b4 30 u4 ++ wX6 G ad5 b5 u5)) (hS : va_S A s.heap H locs) (ls : Array Slot) (hl : lv_has ls 14 [(0, .ref (ad5 b5)), (1, .int p1), (2, .ref (ad b)), (3, .ref (ad1 b1)), (4, .ref (ad2 b2)), (5, .ref (ad3 b3)), (6, .ref (ad4 b4))]), W p l e (zRc 7 171 20 336) s m args below meth c H locs 0 0 Q (F0 m 64 ls []) := by
      intro  hf H locs hP hD hS ls hl
      unfold q_L_same_J64 at hf
      refine lv_iconst (v := 0) hx hb dL_same_64 (by decide) ?_
      refine lv_istore (lv' := [(7, .int 0), (0, .ref (ad5 b5)), (1, .int p1), (2, .ref (ad b)), (3, .ref (ad1 b1)), (4, .ref (ad2 b2)), (5, .ref (ad3 b3)), (6, .ref (ad4 b4))]) hx hb dL_same_65 hl (by decide) rfl (fun ls hl => ?_)
      have J312 : ∀ (hf : q_L_same_J312 u u1 u2 u3 u4 u5 p1 = some res) (H : Heap) (locs : List Loc) (hP : va_P D vwCl (wAR G ad b 20 u ++ wAR G ad1 b1 8 u1 ++ wAR G ad2 b2 6 u2 ++ wAR G ad3 b3 20 u3 ++ wAR G ad4 b4 30 u4 ++ wX6 G ad5 b5 u5) H) (hD : va_D A (wAR G ad b 20 u ++ wAR G ad1 b1 8 u1 ++ wAR G ad2 b2 6 u2 ++ wAR G ad3 b3 20 u3 ++ wAR G ad4 b4 30 u4 ++ wX6 G ad5 b5 u5)) (hS : va_S A s.heap H locs) (ls : Array Slot) (hl : lv_has ls 14 [(0, .ref (ad5 b5)), (1, .int p1), (2, .ref (ad b)), (3, .ref (ad1 b1)), (4, .ref (ad2 b2)), (5, .ref (ad3 b3)), (6, .ref (ad4 b4))]), W p l e (zRc 7 171 20 336) s m args below meth c H locs 0 0 Q (F0 m 312 ls []) := by
        intro  hf H locs hP hD hS ls hl
        unfold q_L_same_J312 at hf
        refine lv_aload_n hx hb dL_same_312 rfl (lv_at hl 2 rfl) ?_
        refine lv_bipush (v := 14) hx hb dL_same_313 (by decide) ?_
        refine z_iald (v := (u 14)) hx hb hK hP 0 0 rfl rfl (z_in rfl) rfl dL_same_315 ?_
        refine lv_bipush (v := 10) hx hb dL_same_316 (by decide) ?_
        have J330 : ∀ (y330_0 : Int32) (hf : q_L_same_J330 u u1 u2 u3 u4 u5 p1 y330_0 = some res) (H : Heap) (locs : List Loc) (hP : va_P D vwCl (wAR G ad b 20 u ++ wAR G ad1 b1 8 u1 ++ wAR G ad2 b2 6 u2 ++ wAR G ad3 b3 20 u3 ++ wAR G ad4 b4 30 u4 ++ wX6 G ad5 b5 u5) H) (hD : va_D A (wAR G ad b 20 u ++ wAR G ad1 b1 8 u1 ++ wAR G ad2 b2 6 u2 ++ wAR G ad3 b3 20 u3 ++ wAR G ad4 b4 30 u4 ++ wX6 G ad5 b5 u5)) (hS : va_S A s.heap H locs) (ls : Array Slot) (hl : lv_has ls 14 [(0, .ref (ad5 b5)), (1, .int p1), (2, .ref (ad b)), (3, .ref (ad1 b1)), (4, .ref (ad2 b2)), (5, .ref (ad3 b3)), (6, .ref (ad4 b4))]), W p l e (zRc 7 171 20 336) s m args below meth c H locs 0 0 Q (F0 m 330 ls [.int y330_0]) := by
          intro y330_0 hf H locs hP hD hS ls hl
          unfold q_L_same_J330 at hf
          refine lv_istore (lv' := [(7, .int y330_0), (0, .ref (ad5 b5)), (1, .int p1), (2, .ref (ad b)), (3, .ref (ad1 b1)), (4, .ref (ad2 b2)), (5, .ref (ad3 b3)), (6, .ref (ad4 b4))]) hx hb dL_same_330 hl (by decide) rfl (fun ls hl => ?_)
          refine lv_aload_n hx hb dL_same_332 rfl (lv_at hl 1 rfl) ?_
          replace hf := zb_s hf
          obtain ⟨r333, hr333, hf⟩ := hf
          refine z_GVi (rest := []) C0 kL_70 (c_X6_entries l D G ad5 (b5) u5 r333 hr333) pz_6_5 pz_6_5.symm (ci := 7) (T := TX6) (N := 5) rfl rfl rfl ⟨Nat.le_of_ble_eq_true rfl, Nat.le_of_ble_eq_true rfl⟩ (Nat.le_of_ble_eq_true rfl) ⟨Nat.le_of_ble_eq_true rfl, Nat.le_of_ble_eq_true rfl⟩ rfl hl.1 hP hD hS dL_same_333 (fun H locs hP hD hS => ?_)
          refine lv_iload hx hb dL_same_336 (lv_at hl 0 rfl) ?_
          refine lv_icmp_ne (tgt := 380) hx hb dL_same_338 (by decide) (fun c338 => ?_) (fun c338 => ?_)
          · replace hf := zi_n hf c338
            cases hf
          · replace hf := zi_p hf c338
            refine lv_aload_n hx hb dL_same_341 rfl (lv_at hl 1 rfl) ?_
            replace hf := zb_s hf
            obtain ⟨r342, hr342, hf⟩ := hf
            refine z_GVi (rest := []) C0 kL_74 (c_X6_overdue l D G ad5 (b5) u5 r342 hr342) pz_6_5 pz_6_5.symm (ci := 7) (T := TX6) (N := 5) rfl rfl rfl ⟨Nat.le_of_ble_eq_true rfl, Nat.le_of_ble_eq_true rfl⟩ (Nat.le_of_ble_eq_true rfl) ⟨Nat.le_of_ble_eq_true rfl, Nat.le_of_ble_eq_true rfl⟩ rfl hl.1 hP hD hS dL_same_342 (fun H locs hP hD hS => ?_)
            refine lv_aload_n hx hb dL_same_345 rfl (lv_at hl 3 rfl) ?_
            refine lv_aload_n hx hb dL_same_346 rfl (lv_at hl 4 rfl) ?_
            replace hf := zb_s hf
            obtain ⟨r347, hr347, hf⟩ := hf
            refine z_GSi (rest := [.int r342]) C0 kL_32 (c_L_late l D G ad (b) ad1 (b1) u u1 r347 hr347) pz_6_0_1 pz_6_0_1.symm rfl ⟨Nat.le_of_ble_eq_true rfl, Nat.le_of_ble_eq_true rfl⟩ (Nat.le_of_ble_eq_true rfl) ⟨Nat.le_of_ble_eq_true rfl, Nat.le_of_ble_eq_true rfl⟩ rfl hl.1 hP hD hS dL_same_347 (fun H locs hP hD hS => ?_)
            refine lv_icmp_ne (tgt := 380) hx hb dL_same_350 (by decide) (fun c350 => ?_) (fun c350 => ?_)
            · replace hf := zi_n hf c350
              cases hf
            · replace hf := zi_p hf c350
              refine lv_aload_n hx hb dL_same_353 rfl (lv_at hl 1 rfl) ?_
              replace hf := zb_s hf
              obtain ⟨r354, hr354, hf⟩ := hf
              refine z_GVi (rest := []) C0 kL_77 (c_X6_nextCheck l D G ad5 (b5) u5 r354 hr354) pz_6_5 pz_6_5.symm (ci := 7) (T := TX6) (N := 5) rfl rfl rfl ⟨Nat.le_of_ble_eq_true rfl, Nat.le_of_ble_eq_true rfl⟩ (Nat.le_of_ble_eq_true rfl) ⟨Nat.le_of_ble_eq_true rfl, Nat.le_of_ble_eq_true rfl⟩ rfl hl.1 hP hD hS dL_same_354 (fun H locs hP hD hS => ?_)
              refine lv_aload_n hx hb dL_same_357 rfl (lv_at hl 3 rfl) ?_
              refine lv_aload_n hx hb dL_same_358 rfl (lv_at hl 4 rfl) ?_
              refine lv_aload hx hb dL_same_359 (lv_at hl 5 rfl) ?_
              refine lv_aload hx hb dL_same_361 (lv_at hl 6 rfl) ?_
              replace hf := zb_s hf
              obtain ⟨r363, hr363, hf⟩ := hf
              refine z_GSi (rest := [.int r354]) C0 kL_16 (c_L_next l D G ad (b) ad1 (b1) ad2 (b2) ad3 (b3) u u1 u2 u3 r363 hr363) pz_6_0_1_2_3 pz_6_0_1_2_3.symm rfl ⟨Nat.le_of_ble_eq_true rfl, Nat.le_of_ble_eq_true rfl⟩ (Nat.le_of_ble_eq_true rfl) ⟨Nat.le_of_ble_eq_true rfl, Nat.le_of_ble_eq_true rfl⟩ rfl hl.1 hP hD hS dL_same_363 (fun H locs hP hD hS => ?_)
              refine lv_icmp_ne (tgt := 380) hx hb dL_same_366 (by decide) (fun c366 => ?_) (fun c366 => ?_)
              · replace hf := zi_n hf c366
                cases hf
              · replace hf := zi_p hf c366
                refine lv_aload_n hx hb dL_same_369 rfl (lv_at hl 1 rfl) ?_
                refine lv_iload hx hb dL_same_370 (lv_at hl 0 rfl) ?_
                refine lv_iconst (v := 0) hx hb dL_same_372 (by decide) ?_
                replace hf := zb_s hf
                obtain ⟨r373, hr373, hf⟩ := hf
                refine z_GVi (rest := []) C0 kL_80 (c_X6_entry l D G ad5 (b5) u5 y330_0 0 r373 hr373) pz_6_5 pz_6_5.symm (ci := 7) (T := TX6) (N := 5) rfl rfl rfl ⟨Nat.le_of_ble_eq_true rfl, Nat.le_of_ble_eq_true rfl⟩ (Nat.le_of_ble_eq_true rfl) ⟨Nat.le_of_ble_eq_true rfl, Nat.le_of_ble_eq_true rfl⟩ rfl hl.1 hP hD hS dL_same_373 (fun H locs hP hD hS => ?_)
                replace hP : va_P D vwCl (wAR G ad b 20 u ++ wAR G ad1 b1 8 u1 ++ wAR G ad2 b2 6 u2 ++ wAR G ad3 b3 20 u3 ++ wAR G ad4 b4 30 u4 ++ wX6 G ad5 b5 (u5.1, u5.2.1, u5.2.2.1, u5.2.2.2.1, r373.2)) H := hP
                replace hD : va_D A (wAR G ad b 20 u ++ wAR G ad1 b1 8 u1 ++ wAR G ad2 b2 6 u2 ++ wAR G ad3 b3 20 u3 ++ wAR G ad4 b4 30 u4 ++ wX6 G ad5 b5 (u5.1, u5.2.1, u5.2.2.1, u5.2.2.2.1, r373.2)) := hD
                refine lv_iconst (v := (-1)) hx hb dL_same_376 (by decide) ?_
                refine lv_icmp_eq (tgt := 382) hx hb dL_same_377 (by decide) (fun c377 => ?_) (fun c377 => ?_)
                · replace hf := zi_p hf c377
                  refine lv_iconst (v := 0) hx hb dL_same_382 (by decide) ?_
                  refine lv_istore (lv' := [(8, .int 0), (7, .int y330_0), (0, .ref (ad5 b5)), (1, .int p1), (2, .ref (ad b)), (3, .ref (ad1 b1)), (4, .ref (ad2 b2)), (5, .ref (ad3 b3)), (6, .ref (ad4 b4))]) hx hb dL_same_383 hl (by decide) rfl (fun ls hl => ?_)
                  have J656 : ∀ (w656_0 : tJ4) (hf : q_L_same_J656 u u1 u2 u3 u5 p1 w656_0 = some res) (H : Heap) (locs : List Loc) (hP : va_P D vwCl (wAR G ad b 20 u ++ wAR G ad1 b1 8 u1 ++ wAR G ad2 b2 6 u2 ++ wAR G ad3 b3 20 u3 ++ wAR G ad4 b4 30 u4 ++ wX6 G ad5 b5 (u5.1, u5.2.1, u5.2.2.1, u5.2.2.2.1, w656_0)) H) (hD : va_D A (wAR G ad b 20 u ++ wAR G ad1 b1 8 u1 ++ wAR G ad2 b2 6 u2 ++ wAR G ad3 b3 20 u3 ++ wAR G ad4 b4 30 u4 ++ wX6 G ad5 b5 (u5.1, u5.2.1, u5.2.2.1, u5.2.2.2.1, w656_0))) (hS : va_S A s.heap H locs) (ls : Array Slot) (hl : lv_has ls 14 [(0, .ref (ad5 b5)), (1, .int p1), (2, .ref (ad b)), (3, .ref (ad1 b1)), (4, .ref (ad2 b2)), (5, .ref (ad3 b3))]), W p l e (zRc 7 171 20 336) s m args below meth c H locs 0 0 Q (F0 m 656 ls []) := by
                    intro w656_0 hf H locs hP hD hS ls hl
                    unfold q_L_same_J656 at hf
                    refine lv_iload_n hx hb dL_same_656 rfl (lv_at hl 1 rfl) ?_
                    refine lv_bipush (v := 120) hx hb dL_same_657 (by decide) ?_
                    replace hf := zb_s hf
                    obtain ⟨r659, hr659, hf⟩ := hf
                    refine z_GSi (rest := []) C0 kL_89 (c_L_low l D G p1 120 r659 hr659) (List.Perm.refl _) (List.Perm.refl _) rfl ⟨Nat.le_of_ble_eq_true rfl, Nat.le_of_ble_eq_true rfl⟩ (Nat.le_of_ble_eq_true rfl) ⟨Nat.le_of_ble_eq_true rfl, Nat.le_of_ble_eq_true rfl⟩ rfl hl.1 hP hD hS dL_same_659 (fun H locs hP hD hS => ?_)
                    replace hP : va_P D vwCl (wAR G ad b 20 u ++ wAR G ad1 b1 8 u1 ++ wAR G ad2 b2 6 u2 ++ wAR G ad3 b3 20 u3 ++ wAR G ad4 b4 30 u4 ++ wX6 G ad5 b5 (u5.1, u5.2.1, u5.2.2.1, u5.2.2.2.1, w656_0)) H := hP
                    replace hD : va_D A (wAR G ad b 20 u ++ wAR G ad1 b1 8 u1 ++ wAR G ad2 b2 6 u2 ++ wAR G ad3 b3 20 u3 ++ wAR G ad4 b4 30 u4 ++ wX6 G ad5 b5 (u5.1, u5.2.1, u5.2.2.1, u5.2.2.2.1, w656_0)) := hD
                    refine lv_istore (lv' := [(8, .int r659), (0, .ref (ad5 b5)), (1, .int p1), (2, .ref (ad b)), (3, .ref (ad1 b1)), (4, .ref (ad2 b2)), (5, .ref (ad3 b3))]) hx hb dL_same_662 hl (by decide) rfl (fun ls hl => ?_)
                    refine lv_iload_n hx hb dL_same_664 rfl (lv_at hl 2 rfl) ?_
                    refine lv_iconst (v := 4) hx hb dL_same_665 (by decide) ?_
                    refine lv_ishr hx hb dL_same_666 ?_
                    refine lv_bipush (v := 8) hx hb dL_same_667 (by decide) ?_
                    replace hf := zb_s hf
                    obtain ⟨r669, hr669, hf⟩ := hf
                    refine z_GSi (rest := []) C0 kL_89 (c_L_low l D G (p1 >>> (4 &&& 31)) 8 r669 hr669) (List.Perm.refl _) (List.Perm.refl _) rfl ⟨Nat.le_of_ble_eq_true rfl, Nat.le_of_ble_eq_true rfl⟩ (Nat.le_of_ble_eq_true rfl) ⟨Nat.le_of_ble_eq_true rfl, Nat.le_of_ble_eq_true rfl⟩ rfl hl.1 hP hD hS dL_same_669 (fun H locs hP hD hS => ?_)
                    replace hP : va_P D vwCl (wAR G ad b 20 u ++ wAR G ad1 b1 8 u1 ++ wAR G ad2 b2 6 u2 ++ wAR G ad3 b3 20 u3 ++ wAR G ad4 b4 30 u4 ++ wX6 G ad5 b5 (u5.1, u5.2.1, u5.2.2.1, u5.2.2.2.1, w656_0)) H := hP
                    replace hD : va_D A (wAR G ad b 20 u ++ wAR G ad1 b1 8 u1 ++ wAR G ad2 b2 6 u2 ++ wAR G ad3 b3 20 u3 ++ wAR G ad4 b4 30 u4 ++ wX6 G ad5 b5 (u5.1, u5.2.1, u5.2.2.1, u5.2.2.2.1, w656_0)) := hD
                    refine lv_istore (lv' := [(9, .int r669), (8, .int r659), (0, .ref (ad5 b5)), (1, .int p1), (2, .ref (ad b)), (3, .ref (ad1 b1)), (4, .ref (ad2 b2)), (5, .ref (ad3 b3))]) hx hb dL_same_672 hl (by decide) rfl (fun ls hl => ?_)
                    refine lv_iload_n hx hb dL_same_674 rfl (lv_at hl 3 rfl) ?_
                    refine lv_bipush (v := 8) hx hb dL_same_675 (by decide) ?_
                    refine lv_ishr hx hb dL_same_677 ?_
                    refine lv_iconst (v := 4) hx hb dL_same_678 (by decide) ?_
                    replace hf := zb_s hf
                    obtain ⟨r679, hr679, hf⟩ := hf
                    refine z_GSi (rest := []) C0 kL_89 (c_L_low l D G (p1 >>> (8 &&& 31)) 4 r679 hr679) (List.Perm.refl _) (List.Perm.refl _) rfl ⟨Nat.le_of_ble_eq_true rfl, Nat.le_of_ble_eq_true rfl⟩ (Nat.le_of_ble_eq_true rfl) ⟨Nat.le_of_ble_eq_true rfl, Nat.le_of_ble_eq_true rfl⟩ rfl hl.1 hP hD hS dL_same_679 (fun H locs hP hD hS => ?_)
                    replace hP : va_P D vwCl (wAR G ad b 20 u ++ wAR G ad1 b1 8 u1 ++ wAR G ad2 b2 6 u2 ++ wAR G ad3 b3 20 u3 ++ wAR G ad4 b4 30 u4 ++ wX6 G ad5 b5 (u5.1, u5.2.1, u5.2.2.1, u5.2.2.2.1, w656_0)) H := hP
                    replace hD : va_D A (wAR G ad b 20 u ++ wAR G ad1 b1 8 u1 ++ wAR G ad2 b2 6 u2 ++ wAR G ad3 b3 20 u3 ++ wAR G ad4 b4 30 u4 ++ wX6 G ad5 b5 (u5.1, u5.2.1, u5.2.2.1, u5.2.2.2.1, w656_0)) := hD
                    refine lv_if_le (tgt := 687) hx hb dL_same_682 (by decide) (fun c682 => ?_) (fun c682 => ?_)
                    · replace hf := zi_p hf c682
                      refine lv_iload hx hb dL_same_687 (lv_at hl 1 rfl) ?_
                      refine lv_iconst (v := 0) hx hb dL_same_689 (by decide) ?_
                      refine lv_iconst (v := (-1)) hx hb dL_same_690 (by decide) ?_
                      refine lv_aload_n hx hb dL_same_691 rfl (lv_at hl 4 rfl) ?_
                      refine lv_aload_n hx hb dL_same_692 rfl (lv_at hl 5 rfl) ?_
                      refine lv_aload hx hb dL_same_693 (lv_at hl 6 rfl) ?_
                      refine lv_aload hx hb dL_same_695 (lv_at hl 7 rfl) ?_
                      replace hf := zb_s hf
                      obtain ⟨r697, hr697, hf⟩ := hf
                      refine z_GK (rest := []) C0 kL_92 (c_L_then l D G ad (b) ad1 (b1) ad2 (b2) ad3 (b3) u u1 u2 u3 r659 0 (-1) r697 hr697) pz_6_0_1_2_3 pz_6_0_1_2_3.symm rfl ⟨Nat.le_of_ble_eq_true rfl, Nat.le_of_ble_eq_true rfl⟩ (Nat.le_of_ble_eq_true rfl) ⟨Nat.le_of_ble_eq_true rfl, Nat.le_of_ble_eq_true rfl⟩ rfl hl.1 hP hD hS dL_same_697 (fun H locs hP hD hS => ?_)
                      refine lv_istore (lv' := [(10, .int r697), (9, .int r669), (8, .int r659), (0, .ref (ad5 b5)), (1, .int p1), (2, .ref (ad b)), (3, .ref (ad1 b1)), (4, .ref (ad2 b2)), (5, .ref (ad3 b3))]) hx hb dL_same_700 hl (by decide) rfl (fun ls hl => ?_)
                      refine lv_iload hx hb dL_same_702 (lv_at hl 2 rfl) ?_
                      refine lv_iconst (v := 1) hx hb dL_same_704 (by decide) ?_
                      refine lv_iconst (v := (-1)) hx hb dL_same_705 (by decide) ?_
                      refine lv_aload_n hx hb dL_same_706 rfl (lv_at hl 5 rfl) ?_
                      refine lv_aload_n hx hb dL_same_707 rfl (lv_at hl 6 rfl) ?_
                      refine lv_aload hx hb dL_same_708 (lv_at hl 7 rfl) ?_
                      refine lv_aload hx hb dL_same_710 (lv_at hl 8 rfl) ?_
                      replace hf := zb_s hf
                      obtain ⟨r712, hr712, hf⟩ := hf
                      refine z_GK (rest := []) C0 kL_92 (c_L_then l D G ad (b) ad1 (b1) ad2 (b2) ad3 (b3) u u1 u2 u3 r659 1 (-1) r712 hr712) pz_6_0_1_2_3 pz_6_0_1_2_3.symm rfl ⟨Nat.le_of_ble_eq_true rfl, Nat.le_of_ble_eq_true rfl⟩ (Nat.le_of_ble_eq_true rfl) ⟨Nat.le_of_ble_eq_true rfl, Nat.le_of_ble_eq_true rfl⟩ rfl hl.1 hP hD hS dL_same_712 (fun H locs hP hD hS => ?_)
                      refine lv_istore (lv' := [(11, .int r712), (10, .int r697), (9, .int r669), (8, .int r659), (0, .ref (ad5 b5)), (1, .int p1), (2, .ref (ad b)), (3, .ref (ad1 b1)), (4, .ref (ad2 b2)), (5, .ref (ad3 b3))]) hx hb dL_same_715 hl (by decide) rfl (fun ls hl => ?_)
                      refine lv_iload hx hb dL_same_717 (lv_at hl 3 rfl) ?_
                      refine lv_iconst (v := 2) hx hb dL_same_719 (by decide) ?_
                      refine lv_iconst (v := (-1)) hx hb dL_same_720 (by decide) ?_
                      refine lv_aload_n hx hb dL_same_721 rfl (lv_at hl 6 rfl) ?_
                      refine lv_aload_n hx hb dL_same_722 rfl (lv_at hl 7 rfl) ?_
                      refine lv_aload hx hb dL_same_723 (lv_at hl 8 rfl) ?_
                      refine lv_aload hx hb dL_same_725 (lv_at hl 9 rfl) ?_
                      replace hf := zb_s hf
                      obtain ⟨r727, hr727, hf⟩ := hf
                      refine z_GK (rest := []) C0 kL_92 (c_L_then l D G ad (b) ad1 (b1) ad2 (b2) ad3 (b3) u u1 u2 u3 r659 2 (-1) r727 hr727) pz_6_0_1_2_3 pz_6_0_1_2_3.symm rfl ⟨Nat.le_of_ble_eq_true rfl, Nat.le_of_ble_eq_true rfl⟩ (Nat.le_of_ble_eq_true rfl) ⟨Nat.le_of_ble_eq_true rfl, Nat.le_of_ble_eq_true rfl⟩ rfl hl.1 hP hD hS dL_same_727 (fun H locs hP hD hS => ?_)
                      refine lv_istore (lv' := [(12, .int r727), (11, .int r712), (10, .int r697), (9, .int r669), (8, .int r659), (0, .ref (ad5 b5)), (1, .int p1), (2, .ref (ad b)), (3, .ref (ad1 b1)), (4, .ref (ad2 b2)), (5, .ref (ad3 b3))]) hx hb dL_same_730 hl (by decide) rfl (fun ls hl => ?_)
                      refine lv_iload hx hb dL_same_732 (lv_at hl 0 rfl) ?_
                      refine lv_iload hx hb dL_same_734 (lv_at hl 2 rfl) ?_
                      have J762 : ∀ (y762_0 : Int32) (hf : q_L_same_J762 u u1 u2 u3 u5 w656_0 r659 r669 r697 r712 r727 y762_0 = some res) (H : Heap) (locs : List Loc) (hP : va_P D vwCl (wAR G ad b 20 u ++ wAR G ad1 b1 8 u1 ++ wAR G ad2 b2 6 u2 ++ wAR G ad3 b3 20 u3 ++ wAR G ad4 b4 30 u4 ++ wX6 G ad5 b5 (u5.1, u5.2.1, u5.2.2.1, u5.2.2.2.1, w656_0)) H) (hD : va_D A (wAR G ad b 20 u ++ wAR G ad1 b1 8 u1 ++ wAR G ad2 b2 6 u2 ++ wAR G ad3 b3 20 u3 ++ wAR G ad4 b4 30 u4 ++ wX6 G ad5 b5 (u5.1, u5.2.1, u5.2.2.1, u5.2.2.2.1, w656_0))) (hS : va_S A s.heap H locs) (ls : Array Slot) (hl : lv_has ls 14 [(0, .ref (ad5 b5)), (2, .ref (ad b)), (3, .ref (ad1 b1)), (4, .ref (ad2 b2)), (5, .ref (ad3 b3)), (8, .int r659), (9, .int r669), (10, .int r697), (11, .int r712), (12, .int r727)]), W p l e (zRc 7 171 20 336) s m args below meth c H locs (0 + 5 + 5 + 5) (0 + 84 + 84 + 84) Q (F0 m 762 ls [.int y762_0]) := by
                        intro y762_0 hf H locs hP hD hS ls hl
                        unfold q_L_same_J762 at hf
                        refine lv_istore (lv' := [(13, .int y762_0), (0, .ref (ad5 b5)), (2, .ref (ad b)), (3, .ref (ad1 b1)), (4, .ref (ad2 b2)), (5, .ref (ad3 b3)), (8, .int r659), (9, .int r669), (10, .int r697), (11, .int r712), (12, .int r727)]) hx hb dL_same_762 hl (by decide) rfl (fun ls hl => ?_)
                        refine lv_aload_n hx hb dL_same_764 rfl (lv_at hl 1 rfl) ?_
                        refine lv_iload hx hb dL_same_765 (lv_at hl 6 rfl) ?_
                        replace hf := zb_s hf
                        obtain ⟨r767, hr767, hf⟩ := hf
                        refine z_GVi (rest := []) C0 kL_96 (c_X6_ifQuiet l D G ad5 (b5) (u5.1, u5.2.1, u5.2.2.1, u5.2.2.2.1, w656_0) r659 r767 hr767) pz_6_5 pz_6_5.symm (ci := 7) (T := TX6) (N := 5) rfl rfl rfl ⟨Nat.le_of_ble_eq_true rfl, Nat.le_of_ble_eq_true rfl⟩ (Nat.le_of_ble_eq_true rfl) ⟨Nat.le_of_ble_eq_true rfl, Nat.le_of_ble_eq_true rfl⟩ rfl hl.1 hP hD hS dL_same_767 (fun H locs hP hD hS => ?_)
                        replace hP : va_P D vwCl (wAR G ad b 20 u ++ wAR G ad1 b1 8 u1 ++ wAR G ad2 b2 6 u2 ++ wAR G ad3 b3 20 u3 ++ wAR G ad4 b4 30 u4 ++ wX6 G ad5 b5 (u5.1, r767.2, u5.2.2.1, u5.2.2.2.1, w656_0)) H := hP
                        replace hD : va_D A (wAR G ad b 20 u ++ wAR G ad1 b1 8 u1 ++ wAR G ad2 b2 6 u2 ++ wAR G ad3 b3 20 u3 ++ wAR G ad4 b4 30 u4 ++ wX6 G ad5 b5 (u5.1, r767.2, u5.2.2.1, u5.2.2.2.1, w656_0)) := hD
                        refine lv_aload_n hx hb dL_same_770 rfl (lv_at hl 2 rfl) ?_
                        refine lv_iconst (v := 4) hx hb dL_same_771 (by decide) ?_
                        refine z_iald (v := (u 4)) hx hb hK hP 0 0 rfl rfl (z_in rfl) rfl dL_same_772 ?_
                        have J795 : ∀ (y795_1 : Int32) (hf : q_L_same_J795 u u1 u2 u3 u5 w656_0 r659 r669 y762_0 r767 y795_1 = some res) (H : Heap) (locs : List Loc) (hP : va_P D vwCl (wAR G ad b 20 u ++ wAR G ad1 b1 8 u1 ++ wAR G ad2 b2 6 u2 ++ wAR G ad3 b3 20 u3 ++ wAR G ad4 b4 30 u4 ++ wX6 G ad5 b5 (u5.1, r767.2, u5.2.2.1, u5.2.2.2.1, w656_0)) H) (hD : va_D A (wAR G ad b 20 u ++ wAR G ad1 b1 8 u1 ++ wAR G ad2 b2 6 u2 ++ wAR G ad3 b3 20 u3 ++ wAR G ad4 b4 30 u4 ++ wX6 G ad5 b5 (u5.1, r767.2, u5.2.2.1, u5.2.2.2.1, w656_0))) (hS : va_S A s.heap H locs) (ls : Array Slot) (hl : lv_has ls 14 [(0, .ref (ad5 b5)), (2, .ref (ad b)), (3, .ref (ad1 b1)), (4, .ref (ad2 b2)), (5, .ref (ad3 b3)), (8, .int r659), (9, .int r669), (13, .int y762_0)]), W p l e (zRc 7 171 20 336) s m args below meth c H locs (0 + 5 + 5 + 5) (0 + 84 + 84 + 84) Q (F0 m 795 ls [.int y795_1, .int r767.1]) := by
                          intro y795_1 hf H locs hP hD hS ls hl
                          unfold q_L_same_J795 at hf
                          refine lv_icmp_ne (tgt := 839) hx hb dL_same_795 (by decide) (fun c795 => ?_) (fun c795 => ?_)
                          · replace hf := zi_n hf c795
                            cases hf
                          · replace hf := zi_p hf c795
                            refine lv_aload_n hx hb dL_same_798 rfl (lv_at hl 0 rfl) ?_
                            refine lv_iload hx hb dL_same_799 (lv_at hl 5 rfl) ?_
                            replace hf := zb_s hf
                            obtain ⟨r801, hr801, hf⟩ := hf
                            refine z_GVi (rest := []) C0 kL_99 (c_X6_bestWay l D G ad5 (b5) (u5.1, r767.2, u5.2.2.1, u5.2.2.2.1, w656_0) r659 r801 hr801) pz_6_5 pz_6_5.symm (ci := 7) (T := TX6) (N := 5) rfl rfl rfl ⟨Nat.le_of_ble_eq_true rfl, Nat.le_of_ble_eq_true rfl⟩ (Nat.le_of_ble_eq_true rfl) ⟨Nat.le_of_ble_eq_true rfl, Nat.le_of_ble_eq_true rfl⟩ rfl hl.1 hP hD hS dL_same_801 (fun H locs hP hD hS => ?_)
                            replace hP : va_P D vwCl (wAR G ad b 20 u ++ wAR G ad1 b1 8 u1 ++ wAR G ad2 b2 6 u2 ++ wAR G ad3 b3 20 u3 ++ wAR G ad4 b4 30 u4 ++ wX6 G ad5 b5 (u5.1, r801.2, u5.2.2.1, u5.2.2.2.1, w656_0)) H := hP
                            replace hD : va_D A (wAR G ad b 20 u ++ wAR G ad1 b1 8 u1 ++ wAR G ad2 b2 6 u2 ++ wAR G ad3 b3 20 u3 ++ wAR G ad4 b4 30 u4 ++ wX6 G ad5 b5 (u5.1, r801.2, u5.2.2.1, u5.2.2.2.1, w656_0)) := hD
                            refine lv_iload hx hb dL_same_804 (lv_at hl 7 rfl) ?_
                            refine lv_icmp_ne (tgt := 839) hx hb dL_same_806 (by decide) (fun c806 => ?_) (fun c806 => ?_)
                            · replace hf := zi_n hf c806
                              cases hf
                            · replace hf := zi_p hf c806
                              refine lv_aload_n hx hb dL_same_809 rfl (lv_at hl 0 rfl) ?_
                              refine lv_iload hx hb dL_same_810 (lv_at hl 6 rfl) ?_
                              replace hf := zb_s hf
                              obtain ⟨r812, hr812, hf⟩ := hf
                              refine z_GVi (rest := []) C0 kL_102 (c_X6_checkedIn l D G ad5 (b5) (u5.1, r801.2, u5.2.2.1, u5.2.2.2.1, w656_0) r669 r812 hr812) pz_6_5 pz_6_5.symm (ci := 7) (T := TX6) (N := 5) rfl rfl rfl ⟨Nat.le_of_ble_eq_true rfl, Nat.le_of_ble_eq_true rfl⟩ (Nat.le_of_ble_eq_true rfl) ⟨Nat.le_of_ble_eq_true rfl, Nat.le_of_ble_eq_true rfl⟩ rfl hl.1 hP hD hS dL_same_812 (fun H locs hP hD hS => ?_)
                              replace hP : va_P D vwCl (wAR G ad b 20 u ++ wAR G ad1 b1 8 u1 ++ wAR G ad2 b2 6 u2 ++ wAR G ad3 b3 20 u3 ++ wAR G ad4 b4 30 u4 ++ wX6 G ad5 b5 (u5.1, r812.2, u5.2.2.1, u5.2.2.2.1, w656_0)) H := hP
                              replace hD : va_D A (wAR G ad b 20 u ++ wAR G ad1 b1 8 u1 ++ wAR G ad2 b2 6 u2 ++ wAR G ad3 b3 20 u3 ++ wAR G ad4 b4 30 u4 ++ wX6 G ad5 b5 (u5.1, r812.2, u5.2.2.1, u5.2.2.2.1, w656_0)) := hD
                              refine lv_sipush (v := 3000) hx hb dL_same_815 (by decide) ?_
                              refine lv_aload_n hx hb dL_same_818 rfl (lv_at hl 1 rfl) ?_
                              refine lv_iconst (v := 4) hx hb dL_same_819 (by decide) ?_
                              refine z_iald (v := (u 4)) hx hb hK hP 0 0 rfl rfl (z_in rfl) rfl dL_same_820 ?_
                              refine lv_iload hx hb dL_same_821 (lv_at hl 6 rfl) ?_
                              refine lv_aload_n hx hb dL_same_823 rfl (lv_at hl 1 rfl) ?_
                              refine lv_aload_n hx hb dL_same_824 rfl (lv_at hl 2 rfl) ?_
                              refine lv_aload hx hb dL_same_825 (lv_at hl 3 rfl) ?_
                              refine lv_aload hx hb dL_same_827 (lv_at hl 4 rfl) ?_
                              replace hf := zb_s hf
                              obtain ⟨r829, hr829, hf⟩ := hf
                              refine z_GK (rest := [.int r812.1]) C0 kL_92 (c_L_then l D G ad (b) ad1 (b1) ad2 (b2) ad3 (b3) u u1 u2 u3 3000 (u 4) r669 r829 hr829) pz_6_0_1_2_3 pz_6_0_1_2_3.symm rfl ⟨Nat.le_of_ble_eq_true rfl, Nat.le_of_ble_eq_true rfl⟩ (Nat.le_of_ble_eq_true rfl) ⟨Nat.le_of_ble_eq_true rfl, Nat.le_of_ble_eq_true rfl⟩ rfl hl.1 hP hD hS dL_same_829 (fun H locs hP hD hS => ?_)
                              refine lv_icmp_ne (tgt := 839) hx hb dL_same_832 (by decide) (fun c832 => ?_) (fun c832 => ?_)
                              · replace hf := zi_n hf c832
                                cases hf
                              · replace hf := zi_p hf c832
                                refine lv_iconst (v := 1) hx hb dL_same_835 (by decide) ?_
                                refine lv_goto (tgt := 840) hx hb dL_same_836 (by decide) ?_
                                obtain rfl := zo hf
                                exact hret _ _ _ _ _ _ _ (Nat.le_of_ble_eq_true rfl) (Nat.le_of_ble_eq_true rfl) hP hD hS rfl rfl dL_same_840
                        refine lv_if_ne (tgt := 781) hx hb dL_same_773 (by decide) (fun c773 => ?_) (fun c773 => ?_)
                        · replace hf := zi_n hf c773
                          refine lv_aload_n hx hb dL_same_781 rfl (lv_at hl 2 rfl) ?_
                          refine lv_iconst (v := 4) hx hb dL_same_782 (by decide) ?_
                          refine z_iald (v := (u 4)) hx hb hK hP 0 0 rfl rfl (z_in rfl) rfl dL_same_783 ?_
                          refine lv_iconst (v := 1) hx hb dL_same_784 (by decide) ?_
                          refine lv_icmp_ne (tgt := 793) hx hb dL_same_785 (by decide) (fun c785 => ?_) (fun c785 => ?_)
                          · replace hf := zi_n hf c785
                            refine lv_iload hx hb dL_same_793 (lv_at hl 10 rfl) ?_
                            exact J795 r727 hf _ _ hP hD hS _ (lv_sub hl [1, 2, 3, 4, 5, 6, 7, 0] rfl)
                          · replace hf := zi_p hf c785
                            refine lv_iload hx hb dL_same_788 (lv_at hl 9 rfl) ?_
                            refine lv_goto (tgt := 795) hx hb dL_same_790 (by decide) ?_
                            exact J795 r712 hf _ _ hP hD hS _ (lv_sub hl [1, 2, 3, 4, 5, 6, 7, 0] rfl)
                        · replace hf := zi_p hf c773
                          refine lv_iload hx hb dL_same_776 (lv_at hl 8 rfl) ?_
                          refine lv_goto (tgt := 795) hx hb dL_same_778 (by decide) ?_
                          exact J795 r697 hf _ _ hP hD hS _ (lv_sub hl [1, 2, 3, 4, 5, 6, 7, 0] rfl)
                      have J750 : ∀ (hf : q_L_same_J750 u u1 u2 u3 u5 w656_0 r659 r669 r697 r712 r727 = some res) (H : Heap) (locs : List Loc) (hP : va_P D vwCl (wAR G ad b 20 u ++ wAR G ad1 b1 8 u1 ++ wAR G ad2 b2 6 u2 ++ wAR G ad3 b3 20 u3 ++ wAR G ad4 b4 30 u4 ++ wX6 G ad5 b5 (u5.1, u5.2.1, u5.2.2.1, u5.2.2.2.1, w656_0)) H) (hD : va_D A (wAR G ad b 20 u ++ wAR G ad1 b1 8 u1 ++ wAR G ad2 b2 6 u2 ++ wAR G ad3 b3 20 u3 ++ wAR G ad4 b4 30 u4 ++ wX6 G ad5 b5 (u5.1, u5.2.1, u5.2.2.1, u5.2.2.2.1, w656_0))) (hS : va_S A s.heap H locs) (ls : Array Slot) (hl : lv_has ls 14 [(0, .ref (ad5 b5)), (2, .ref (ad b)), (3, .ref (ad1 b1)), (4, .ref (ad2 b2)), (5, .ref (ad3 b3)), (8, .int r659), (9, .int r669), (10, .int r697), (11, .int r712), (12, .int r727)]), W p l e (zRc 7 171 20 336) s m args below meth c H locs (0 + 5 + 5 + 5) (0 + 84 + 84 + 84) Q (F0 m 750 ls []) := by
                        intro  hf H locs hP hD hS ls hl
                        unfold q_L_same_J750 at hf
                        refine lv_iload hx hb dL_same_750 (lv_at hl 8 rfl) ?_
                        refine lv_iload hx hb dL_same_752 (lv_at hl 7 rfl) ?_
                        refine lv_icmp_ge (tgt := 761) hx hb dL_same_754 (by decide) (fun c754 => ?_) (fun c754 => ?_)
                        · replace hf := zi_p hf c754
                          refine lv_iconst (v := 0) hx hb dL_same_761 (by decide) ?_
                          exact J762 0 hf _ _ hP hD hS _ (lv_sub hl [0, 1, 2, 3, 4, 5, 6, 7, 8, 9] rfl)
                        · replace hf := zi_n hf c754
                          refine lv_iconst (v := 1) hx hb dL_same_757 (by decide) ?_
                          refine lv_goto (tgt := 762) hx hb dL_same_758 (by decide) ?_
                          exact J762 1 hf _ _ hP hD hS _ (lv_sub hl [0, 1, 2, 3, 4, 5, 6, 7, 8, 9] rfl)
                      refine lv_icmp_ge (tgt := 750) hx hb dL_same_736 (by decide) (fun c736 => ?_) (fun c736 => ?_)
                      · replace hf := zi_p hf c736
                        exact J750 hf _ _ hP hD hS _ (lv_sub hl [5, 7, 8, 9, 10, 4, 3, 2, 1, 0] rfl)
                      · replace hf := zi_n hf c736
                        refine lv_iload hx hb dL_same_739 (lv_at hl 0 rfl) ?_
                        refine lv_iload hx hb dL_same_741 (lv_at hl 1 rfl) ?_
                        refine lv_icmp_ge (tgt := 750) hx hb dL_same_743 (by decide) (fun c743 => ?_) (fun c743 => ?_)
                        · replace hf := zi_p hf c743
                          exact J750 hf _ _ hP hD hS _ (lv_sub hl [5, 7, 8, 9, 10, 4, 3, 2, 1, 0] rfl)
                        · replace hf := zi_n hf c743
                          refine lv_iconst (v := 2) hx hb dL_same_746 (by decide) ?_
                          refine lv_goto (tgt := 762) hx hb dL_same_747 (by decide) ?_
                          exact J762 2 hf _ _ hP hD hS _ (lv_sub hl [5, 7, 8, 9, 10, 4, 3, 2, 1, 0] rfl)
                    · replace hf := zi_n hf c682
                      refine lv_iconst (v := 1) hx hb dL_same_685 (by decide) ?_
                      obtain rfl := zo hf
                      exact hret _ _ _ _ _ _ _ (Nat.le_of_ble_eq_true rfl) (Nat.le_of_ble_eq_true rfl) hP hD hS rfl rfl dL_same_686
                  replace hf := zb_s hf
                  obtain ⟨bb385, hz385, hk385⟩ := hf
                  have L385 : ∀ (n385 : Nat) (v385 : Int32 × tJ4) (hz385 : zl n385 (q_L_same_L385 u4 u5 y330_0) v385 = some bb385) (H : Heap) (locs : List Loc) (hP : va_P D vwCl (wAR G ad b 20 u ++ wAR G ad1 b1 8 u1 ++ wAR G ad2 b2 6 u2 ++ wAR G ad3 b3 20 u3 ++ wAR G ad4 b4 30 u4 ++ wX6 G ad5 b5 (u5.1, u5.2.1, u5.2.2.1, u5.2.2.2.1, v385.2)) H) (hD : va_D A (wAR G ad b 20 u ++ wAR G ad1 b1 8 u1 ++ wAR G ad2 b2 6 u2 ++ wAR G ad3 b3 20 u3 ++ wAR G ad4 b4 30 u4 ++ wX6 G ad5 b5 (u5.1, u5.2.1, u5.2.2.1, u5.2.2.2.1, v385.2))) (hS : va_S A s.heap H locs) (ls : Array Slot) (hl : lv_has ls 14 [(0, .ref (ad5 b5)), (1, .int p1), (2, .ref (ad b)), (3, .ref (ad1 b1)), (4, .ref (ad2 b2)), (5, .ref (ad3 b3)), (6, .ref (ad4 b4)), (7, .int y330_0), (8, .int v385.1)]), W p l e (zRc 7 171 20 336) s m args below meth c H locs 0 0 Q (F0 m 385 ls []) := by
                    intro n385
                    induction n385 with
                    | zero => intro v385 hz385; exact (zl_0 hz385).elim
                    | succ n385 ih385 =>
                      intro v385 hz385 H locs hP hD hS ls hl
                      obtain ⟨o385, hf, hz385⟩ := zl_s hz385
                      unfold q_L_same_L385 at hf
                      refine lv_iload hx hb dL_same_385 (lv_at hl 8 rfl) ?_
                      refine lv_iload hx hb dL_same_387 (lv_at hl 7 rfl) ?_
                      refine lv_icmp_ge (tgt := 656) hx hb dL_same_389 (by decide) (fun c389 => ?_) (fun c389 => ?_)
                      · replace hf := zi_p hf c389
                        have hb385 := (zk_r hf hz385).symm
                        subst hb385
                        replace hf := hk385
                        exact J656 v385.2 hf _ _ hP hD hS _ (lv_sub hl [0, 1, 2, 3, 4, 5] rfl)
                      · replace hf := zi_n hf c389
                        refine lv_iconst (v := 0) hx hb dL_same_392 (by decide) ?_
                        refine lv_istore (lv' := [(9, .int 0), (0, .ref (ad5 b5)), (1, .int p1), (2, .ref (ad b)), (3, .ref (ad1 b1)), (4, .ref (ad2 b2)), (5, .ref (ad3 b3)), (6, .ref (ad4 b4)), (7, .int y330_0), (8, .int v385.1)]) hx hb dL_same_393 hl (by decide) rfl (fun ls hl => ?_)
                        have J430 : ∀ (w430_0 : tJ4) (hf : q_L_same_J430 u4 u5 v385 w430_0 = some o385) (H : Heap) (locs : List Loc) (hP : va_P D vwCl (wAR G ad b 20 u ++ wAR G ad1 b1 8 u1 ++ wAR G ad2 b2 6 u2 ++ wAR G ad3 b3 20 u3 ++ wAR G ad4 b4 30 u4 ++ wX6 G ad5 b5 (u5.1, u5.2.1, u5.2.2.1, u5.2.2.2.1, w430_0)) H) (hD : va_D A (wAR G ad b 20 u ++ wAR G ad1 b1 8 u1 ++ wAR G ad2 b2 6 u2 ++ wAR G ad3 b3 20 u3 ++ wAR G ad4 b4 30 u4 ++ wX6 G ad5 b5 (u5.1, u5.2.1, u5.2.2.1, u5.2.2.2.1, w430_0))) (hS : va_S A s.heap H locs) (ls : Array Slot) (hl : lv_has ls 14 [(0, .ref (ad5 b5)), (1, .int p1), (2, .ref (ad b)), (3, .ref (ad1 b1)), (4, .ref (ad2 b2)), (5, .ref (ad3 b3)), (6, .ref (ad4 b4)), (7, .int y330_0), (8, .int v385.1)]), W p l e (zRc 7 171 20 336) s m args below meth c H locs 0 0 Q (F0 m 430 ls []) := by
                          intro w430_0 hf H locs hP hD hS ls hl
                          unfold q_L_same_J430 at hf
                          refine lv_iconst (v := 0) hx hb dL_same_430 (by decide) ?_
                          refine lv_istore (lv' := [(9, .int 0), (0, .ref (ad5 b5)), (1, .int p1), (2, .ref (ad b)), (3, .ref (ad1 b1)), (4, .ref (ad2 b2)), (5, .ref (ad3 b3)), (6, .ref (ad4 b4)), (7, .int y330_0), (8, .int v385.1)]) hx hb dL_same_431 hl (by decide) rfl (fun ls hl => ?_)
                          refine lv_iconst (v := 1) hx hb dL_same_433 (by decide) ?_
                          refine lv_istore (lv' := [(10, .int 1), (9, .int 0), (0, .ref (ad5 b5)), (1, .int p1), (2, .ref (ad b)), (3, .ref (ad1 b1)), (4, .ref (ad2 b2)), (5, .ref (ad3 b3)), (6, .ref (ad4 b4)), (7, .int y330_0), (8, .int v385.1)]) hx hb dL_same_434 hl (by decide) rfl (fun ls hl => ?_)
                          have J461 : ∀ (x461_10 : Int32) (hf : q_L_same_J461 u4 u5 v385 w430_0 x461_10 = some o385) (H : Heap) (locs : List Loc) (hP : va_P D vwCl (wAR G ad b 20 u ++ wAR G ad1 b1 8 u1 ++ wAR G ad2 b2 6 u2 ++ wAR G ad3 b3 20 u3 ++ wAR G ad4 b4 30 u4 ++ wX6 G ad5 b5 (u5.1, u5.2.1, u5.2.2.1, u5.2.2.2.1, w430_0)) H) (hD : va_D A (wAR G ad b 20 u ++ wAR G ad1 b1 8 u1 ++ wAR G ad2 b2 6 u2 ++ wAR G ad3 b3 20 u3 ++ wAR G ad4 b4 30 u4 ++ wX6 G ad5 b5 (u5.1, u5.2.1, u5.2.2.1, u5.2.2.2.1, w430_0))) (hS : va_S A s.heap H locs) (ls : Array Slot) (hl : lv_has ls 14 [(0, .ref (ad5 b5)), (1, .int p1), (2, .ref (ad b)), (3, .ref (ad1 b1)), (4, .ref (ad2 b2)), (5, .ref (ad3 b3)), (6, .ref (ad4 b4)), (7, .int y330_0), (8, .int v385.1), (9, .int 0), (10, .int x461_10)]), W p l e (zRc 7 171 20 336) s m args below meth c H locs 0 0 Q (F0 m 461 ls []) := by
                            intro x461_10 hf H locs hP hD hS ls hl
                            unfold q_L_same_J461 at hf
                            have J508 : ∀ (x508_9 : Int32) (w508_0 : tJ4) (hf : q_L_same_J508 u4 u5 v385 x508_9 w508_0 = some o385) (H : Heap) (locs : List Loc) (hP : va_P D vwCl (wAR G ad b 20 u ++ wAR G ad1 b1 8 u1 ++ wAR G ad2 b2 6 u2 ++ wAR G ad3 b3 20 u3 ++ wAR G ad4 b4 30 u4 ++ wX6 G ad5 b5 (u5.1, u5.2.1, u5.2.2.1, u5.2.2.2.1, w508_0)) H) (hD : va_D A (wAR G ad b 20 u ++ wAR G ad1 b1 8 u1 ++ wAR G ad2 b2 6 u2 ++ wAR G ad3 b3 20 u3 ++ wAR G ad4 b4 30 u4 ++ wX6 G ad5 b5 (u5.1, u5.2.1, u5.2.2.1, u5.2.2.2.1, w508_0))) (hS : va_S A s.heap H locs) (ls : Array Slot) (hl : lv_has ls 14 [(0, .ref (ad5 b5)), (1, .int p1), (2, .ref (ad b)), (3, .ref (ad1 b1)), (4, .ref (ad2 b2)), (5, .ref (ad3 b3)), (6, .ref (ad4 b4)), (7, .int y330_0), (8, .int v385.1), (9, .int x508_9)]), W p l e (zRc 7 171 20 336) s m args below meth c H locs 0 0 Q (F0 m 508 ls []) := by
                              intro x508_9 w508_0 hf H locs hP hD hS ls hl
                              unfold q_L_same_J508 at hf
                              refine lv_aload_n hx hb dL_same_508 rfl (lv_at hl 0 rfl) ?_
                              refine lv_iload hx hb dL_same_509 (lv_at hl 8 rfl) ?_
                              refine lv_iload hx hb dL_same_511 (lv_at hl 9 rfl) ?_
                              refine lv_iinc (v := (x508_9 + 1)) (lv' := [(9, .int (x508_9 + 1)), (0, .ref (ad5 b5)), (1, .int p1), (2, .ref (ad b)), (3, .ref (ad1 b1)), (4, .ref (ad2 b2)), (5, .ref (ad3 b3)), (6, .ref (ad4 b4)), (7, .int y330_0), (8, .int v385.1)]) hx hb dL_same_513 hl (k := 9) rfl rfl (by decide) rfl (fun ls hl => ?_)
                              replace hf := zb_s hf
                              obtain ⟨r516, hr516, hf⟩ := hf
                              refine z_GVi (rest := []) C0 kL_83 (c_X6_lineAt l D G ad5 (b5) (u5.1, u5.2.1, u5.2.2.1, u5.2.2.2.1, w508_0) v385.1 x508_9 r516 hr516) pz_6_5 pz_6_5.symm (ci := 7) (T := TX6) (N := 5) rfl rfl rfl ⟨Nat.le_of_ble_eq_true rfl, Nat.le_of_ble_eq_true rfl⟩ (Nat.le_of_ble_eq_true rfl) ⟨Nat.le_of_ble_eq_true rfl, Nat.le_of_ble_eq_true rfl⟩ rfl hl.1 hP hD hS dL_same_516 (fun H locs hP hD hS => ?_)
                              replace hP : va_P D vwCl (wAR G ad b 20 u ++ wAR G ad1 b1 8 u1 ++ wAR G ad2 b2 6 u2 ++ wAR G ad3 b3 20 u3 ++ wAR G ad4 b4 30 u4 ++ wX6 G ad5 b5 (u5.1, u5.2.1, u5.2.2.1, u5.2.2.2.1, r516.2)) H := hP
                              replace hD : va_D A (wAR G ad b 20 u ++ wAR G ad1 b1 8 u1 ++ wAR G ad2 b2 6 u2 ++ wAR G ad3 b3 20 u3 ++ wAR G ad4 b4 30 u4 ++ wX6 G ad5 b5 (u5.1, u5.2.1, u5.2.2.1, u5.2.2.2.1, r516.2)) := hD
                              refine lv_bipush (v := 32) hx hb dL_same_519 (by decide) ?_
                              refine lv_icmp_eq (tgt := 526) hx hb dL_same_521 (by decide) (fun c521 => ?_) (fun c521 => ?_)
                              · replace hf := zi_p hf c521
                                refine lv_iconst (v := 0) hx hb dL_same_526 (by decide) ?_
                                refine lv_istore (lv' := [(11, .int 0), (9, .int (x508_9 + 1)), (0, .ref (ad5 b5)), (1, .int p1), (2, .ref (ad b)), (3, .ref (ad1 b1)), (4, .ref (ad2 b2)), (5, .ref (ad3 b3)), (6, .ref (ad4 b4)), (7, .int y330_0), (8, .int v385.1)]) hx hb dL_same_527 hl (by decide) rfl (fun ls hl => ?_)
                                have J582 : ∀ (x582_9 : Int32) (w582_0 : tJ4) (hf : q_L_same_J582 u4 u5 v385 x582_9 w582_0 = some o385) (H : Heap) (locs : List Loc) (hP : va_P D vwCl (wAR G ad b 20 u ++ wAR G ad1 b1 8 u1 ++ wAR G ad2 b2 6 u2 ++ wAR G ad3 b3 20 u3 ++ wAR G ad4 b4 30 u4 ++ wX6 G ad5 b5 (u5.1, u5.2.1, u5.2.2.1, u5.2.2.2.1, w582_0)) H) (hD : va_D A (wAR G ad b 20 u ++ wAR G ad1 b1 8 u1 ++ wAR G ad2 b2 6 u2 ++ wAR G ad3 b3 20 u3 ++ wAR G ad4 b4 30 u4 ++ wX6 G ad5 b5 (u5.1, u5.2.1, u5.2.2.1, u5.2.2.2.1, w582_0))) (hS : va_S A s.heap H locs) (ls : Array Slot) (hl : lv_has ls 14 [(0, .ref (ad5 b5)), (1, .int p1), (2, .ref (ad b)), (3, .ref (ad1 b1)), (4, .ref (ad2 b2)), (5, .ref (ad3 b3)), (6, .ref (ad4 b4)), (7, .int y330_0), (8, .int v385.1), (9, .int x582_9)]), W p l e (zRc 7 171 20 336) s m args below meth c H locs 0 0 Q (F0 m 582 ls []) := by
                                  intro x582_9 w582_0 hf H locs hP hD hS ls hl
                                  unfold q_L_same_J582 at hf
                                  refine lv_aload_n hx hb dL_same_582 rfl (lv_at hl 0 rfl) ?_
                                  refine lv_iload hx hb dL_same_583 (lv_at hl 8 rfl) ?_
                                  refine lv_iload hx hb dL_same_585 (lv_at hl 9 rfl) ?_
                                  replace hf := zb_s hf
                                  obtain ⟨r587, hr587, hf⟩ := hf
                                  refine z_GVi (rest := []) C0 kL_83 (c_X6_lineAt l D G ad5 (b5) (u5.1, u5.2.1, u5.2.2.1, u5.2.2.2.1, w582_0) v385.1 x582_9 r587 hr587) pz_6_5 pz_6_5.symm (ci := 7) (T := TX6) (N := 5) rfl rfl rfl ⟨Nat.le_of_ble_eq_true rfl, Nat.le_of_ble_eq_true rfl⟩ (Nat.le_of_ble_eq_true rfl) ⟨Nat.le_of_ble_eq_true rfl, Nat.le_of_ble_eq_true rfl⟩ rfl hl.1 hP hD hS dL_same_587 (fun H locs hP hD hS => ?_)
                                  replace hP : va_P D vwCl (wAR G ad b 20 u ++ wAR G ad1 b1 8 u1 ++ wAR G ad2 b2 6 u2 ++ wAR G ad3 b3 20 u3 ++ wAR G ad4 b4 30 u4 ++ wX6 G ad5 b5 (u5.1, u5.2.1, u5.2.2.1, u5.2.2.2.1, r587.2)) H := hP
                                  replace hD : va_D A (wAR G ad b 20 u ++ wAR G ad1 b1 8 u1 ++ wAR G ad2 b2 6 u2 ++ wAR G ad3 b3 20 u3 ++ wAR G ad4 b4 30 u4 ++ wX6 G ad5 b5 (u5.1, u5.2.1, u5.2.2.1, u5.2.2.2.1, r587.2)) := hD
                                  refine lv_bipush (v := 32) hx hb dL_same_590 (by decide) ?_
                                  refine lv_icmp_ne (tgt := 648) hx hb dL_same_592 (by decide) (fun c592 => ?_) (fun c592 => ?_)
                                  · replace hf := zi_n hf c592
                                    cases hf
                                  · replace hf := zi_p hf c592
                                    refine lv_aload_n hx hb dL_same_595 rfl (lv_at hl 0 rfl) ?_
                                    refine lv_iload hx hb dL_same_596 (lv_at hl 8 rfl) ?_
                                    refine lv_iload hx hb dL_same_598 (lv_at hl 9 rfl) ?_
                                    refine lv_iconst (v := 1) hx hb dL_same_600 (by decide) ?_
                                    refine lv_iadd hx hb dL_same_601 ?_
                                    replace hf := zb_s hf
                                    obtain ⟨r602, hr602, hf⟩ := hf
                                    refine z_GVi (rest := []) C0 kL_83 (c_X6_lineAt l D G ad5 (b5) (u5.1, u5.2.1, u5.2.2.1, u5.2.2.2.1, r587.2) v385.1 (x582_9 + 1) r602 hr602) pz_6_5 pz_6_5.symm (ci := 7) (T := TX6) (N := 5) rfl rfl rfl ⟨Nat.le_of_ble_eq_true rfl, Nat.le_of_ble_eq_true rfl⟩ (Nat.le_of_ble_eq_true rfl) ⟨Nat.le_of_ble_eq_true rfl, Nat.le_of_ble_eq_true rfl⟩ rfl hl.1 hP hD hS dL_same_602 (fun H locs hP hD hS => ?_)
                                    replace hP : va_P D vwCl (wAR G ad b 20 u ++ wAR G ad1 b1 8 u1 ++ wAR G ad2 b2 6 u2 ++ wAR G ad3 b3 20 u3 ++ wAR G ad4 b4 30 u4 ++ wX6 G ad5 b5 (u5.1, u5.2.1, u5.2.2.1, u5.2.2.2.1, r602.2)) H := hP
                                    replace hD : va_D A (wAR G ad b 20 u ++ wAR G ad1 b1 8 u1 ++ wAR G ad2 b2 6 u2 ++ wAR G ad3 b3 20 u3 ++ wAR G ad4 b4 30 u4 ++ wX6 G ad5 b5 (u5.1, u5.2.1, u5.2.2.1, u5.2.2.2.1, r602.2)) := hD
                                    refine lv_bipush (v := 48) hx hb dL_same_605 (by decide) ?_
                                    refine lv_aload hx hb dL_same_607 (lv_at hl 6 rfl) ?_
                                    refine lv_iconst (v := 3) hx hb dL_same_609 (by decide) ?_
                                    refine lv_iload hx hb dL_same_610 (lv_at hl 8 rfl) ?_
                                    refine lv_imul hx hb dL_same_612 ?_
                                    refine lv_iconst (v := 2) hx hb dL_same_613 (by decide) ?_
                                    refine lv_iadd hx hb dL_same_614 ?_
                                    replace hf := zg_s hf
                                    obtain ⟨hi615, a615, ea615, hf⟩ := hf
                                    refine z_iald hx hb hK hP 4 0 rfl rfl hi615 ea615 dL_same_615 ?_
                                    refine lv_iadd hx hb dL_same_616 ?_
                                    refine lv_icmp_ne (tgt := 648) hx hb dL_same_617 (by decide) (fun c617 => ?_) (fun c617 => ?_)
                                    · replace hf := zi_n hf c617
                                      cases hf
                                    · replace hf := zi_p hf c617
                                      refine lv_aload_n hx hb dL_same_620 rfl (lv_at hl 0 rfl) ?_
                                      refine lv_iload hx hb dL_same_621 (lv_at hl 8 rfl) ?_
                                      refine lv_iload hx hb dL_same_623 (lv_at hl 9 rfl) ?_
                                      refine lv_iconst (v := 2) hx hb dL_same_625 (by decide) ?_
                                      refine lv_iadd hx hb dL_same_626 ?_
                                      replace hf := zb_s hf
                                      obtain ⟨r627, hr627, hf⟩ := hf
                                      refine z_GVi (rest := []) C0 kL_83 (c_X6_lineAt l D G ad5 (b5) (u5.1, u5.2.1, u5.2.2.1, u5.2.2.2.1, r602.2) v385.1 (x582_9 + 2) r627 hr627) pz_6_5 pz_6_5.symm (ci := 7) (T := TX6) (N := 5) rfl rfl rfl ⟨Nat.le_of_ble_eq_true rfl, Nat.le_of_ble_eq_true rfl⟩ (Nat.le_of_ble_eq_true rfl) ⟨Nat.le_of_ble_eq_true rfl, Nat.le_of_ble_eq_true rfl⟩ rfl hl.1 hP hD hS dL_same_627 (fun H locs hP hD hS => ?_)
                                      replace hP : va_P D vwCl (wAR G ad b 20 u ++ wAR G ad1 b1 8 u1 ++ wAR G ad2 b2 6 u2 ++ wAR G ad3 b3 20 u3 ++ wAR G ad4 b4 30 u4 ++ wX6 G ad5 b5 (u5.1, u5.2.1, u5.2.2.1, u5.2.2.2.1, r627.2)) H := hP
                                      replace hD : va_D A (wAR G ad b 20 u ++ wAR G ad1 b1 8 u1 ++ wAR G ad2 b2 6 u2 ++ wAR G ad3 b3 20 u3 ++ wAR G ad4 b4 30 u4 ++ wX6 G ad5 b5 (u5.1, u5.2.1, u5.2.2.1, u5.2.2.2.1, r627.2)) := hD
                                      refine lv_iconst (v := (-1)) hx hb dL_same_630 (by decide) ?_
                                      refine lv_icmp_ne (tgt := 648) hx hb dL_same_631 (by decide) (fun c631 => ?_) (fun c631 => ?_)
                                      · replace hf := zi_n hf c631
                                        cases hf
                                      · replace hf := zi_p hf c631
                                        refine lv_aload_n hx hb dL_same_634 rfl (lv_at hl 0 rfl) ?_
                                        refine lv_iload hx hb dL_same_635 (lv_at hl 8 rfl) ?_
                                        refine lv_iconst (v := 3) hx hb dL_same_637 (by decide) ?_
                                        replace hf := zb_s hf
                                        obtain ⟨r638, hr638, hf⟩ := hf
                                        refine z_GVi (rest := []) C0 kL_80 (c_X6_entry l D G ad5 (b5) (u5.1, u5.2.1, u5.2.2.1, u5.2.2.2.1, r627.2) v385.1 3 r638 hr638) pz_6_5 pz_6_5.symm (ci := 7) (T := TX6) (N := 5) rfl rfl rfl ⟨Nat.le_of_ble_eq_true rfl, Nat.le_of_ble_eq_true rfl⟩ (Nat.le_of_ble_eq_true rfl) ⟨Nat.le_of_ble_eq_true rfl, Nat.le_of_ble_eq_true rfl⟩ rfl hl.1 hP hD hS dL_same_638 (fun H locs hP hD hS => ?_)
                                        replace hP : va_P D vwCl (wAR G ad b 20 u ++ wAR G ad1 b1 8 u1 ++ wAR G ad2 b2 6 u2 ++ wAR G ad3 b3 20 u3 ++ wAR G ad4 b4 30 u4 ++ wX6 G ad5 b5 (u5.1, u5.2.1, u5.2.2.1, u5.2.2.2.1, r638.2)) H := hP
                                        replace hD : va_D A (wAR G ad b 20 u ++ wAR G ad1 b1 8 u1 ++ wAR G ad2 b2 6 u2 ++ wAR G ad3 b3 20 u3 ++ wAR G ad4 b4 30 u4 ++ wX6 G ad5 b5 (u5.1, u5.2.1, u5.2.2.1, u5.2.2.2.1, r638.2)) := hD
                                        refine lv_iload hx hb dL_same_641 (lv_at hl 9 rfl) ?_
                                        refine lv_iconst (v := 2) hx hb dL_same_643 (by decide) ?_
                                        refine lv_iadd hx hb dL_same_644 ?_
                                        refine lv_icmp_eq (tgt := 650) hx hb dL_same_645 (by decide) (fun c645 => ?_) (fun c645 => ?_)
                                        · replace hf := zi_p hf c645
                                          refine lv_iinc (v := (v385.1 + 1)) (lv' := [(8, .int (v385.1 + 1)), (0, .ref (ad5 b5)), (1, .int p1), (2, .ref (ad b)), (3, .ref (ad1 b1)), (4, .ref (ad2 b2)), (5, .ref (ad3 b3)), (6, .ref (ad4 b4)), (7, .int y330_0), (9, .int x582_9)]) hx hb dL_same_650 hl (k := 8) rfl rfl (by decide) rfl (fun ls hl => ?_)
                                          refine lv_goto (tgt := 385) hx hb dL_same_653 (by decide) ?_
                                          exact ih385 _ (zk_l hf hz385) _ _ hP hD hS _ (lv_sub hl [1, 2, 3, 4, 5, 6, 7, 8, 0] rfl)
                                        · replace hf := zi_n hf c645
                                          cases hf
                                replace hf := zb_s hf
                                obtain ⟨bb529, hz529, hk529⟩ := hf
                                have L529 : ∀ (n529 : Nat) (v529 : Int32 × Int32 × tJ4) (hz529 : zl n529 (q_L_same_L529 u4 u5 v385) v529 = some bb529) (H : Heap) (locs : List Loc) (hP : va_P D vwCl (wAR G ad b 20 u ++ wAR G ad1 b1 8 u1 ++ wAR G ad2 b2 6 u2 ++ wAR G ad3 b3 20 u3 ++ wAR G ad4 b4 30 u4 ++ wX6 G ad5 b5 (u5.1, u5.2.1, u5.2.2.1, u5.2.2.2.1, v529.2.2)) H) (hD : va_D A (wAR G ad b 20 u ++ wAR G ad1 b1 8 u1 ++ wAR G ad2 b2 6 u2 ++ wAR G ad3 b3 20 u3 ++ wAR G ad4 b4 30 u4 ++ wX6 G ad5 b5 (u5.1, u5.2.1, u5.2.2.1, u5.2.2.2.1, v529.2.2))) (hS : va_S A s.heap H locs) (ls : Array Slot) (hl : lv_has ls 14 [(0, .ref (ad5 b5)), (1, .int p1), (2, .ref (ad b)), (3, .ref (ad1 b1)), (4, .ref (ad2 b2)), (5, .ref (ad3 b3)), (6, .ref (ad4 b4)), (7, .int y330_0), (8, .int v385.1), (9, .int v529.1), (11, .int v529.2.1)]), W p l e (zRc 7 171 20 336) s m args below meth c H locs 0 0 Q (F0 m 529 ls []) := by
                                  intro n529
                                  induction n529 with
                                  | zero => intro v529 hz529; exact (zl_0 hz529).elim
                                  | succ n529 ih529 =>
                                    intro v529 hz529 H locs hP hD hS ls hl
                                    obtain ⟨o529, hf, hz529⟩ := zl_s hz529
                                    unfold q_L_same_L529 at hf
                                    refine lv_aload hx hb dL_same_529 (lv_at hl 6 rfl) ?_
                                    refine lv_iconst (v := 3) hx hb dL_same_531 (by decide) ?_
                                    refine lv_iload hx hb dL_same_532 (lv_at hl 8 rfl) ?_
                                    refine lv_imul hx hb dL_same_534 ?_
                                    refine lv_iconst (v := 1) hx hb dL_same_535 (by decide) ?_
                                    refine lv_iadd hx hb dL_same_536 ?_
                                    replace hf := zg_s hf
                                    obtain ⟨hi537, a537, ea537, hf⟩ := hf
                                    refine z_iald hx hb hK hP 4 0 rfl rfl hi537 ea537 dL_same_537 ?_
                                    refine lv_iload hx hb dL_same_538 (lv_at hl 10 rfl) ?_
                                    replace hf := zb_s hf
                                    obtain ⟨r540, hr540, hf⟩ := hf
                                    refine z_GSi (rest := []) C0 kL_86 (c_L_letter l D G a537 v529.2.1 r540 hr540) (List.Perm.refl _) (List.Perm.refl _) rfl ⟨Nat.le_of_ble_eq_true rfl, Nat.le_of_ble_eq_true rfl⟩ (Nat.le_of_ble_eq_true rfl) ⟨Nat.le_of_ble_eq_true rfl, Nat.le_of_ble_eq_true rfl⟩ rfl hl.1 hP hD hS dL_same_540 (fun H locs hP hD hS => ?_)
                                    replace hP : va_P D vwCl (wAR G ad b 20 u ++ wAR G ad1 b1 8 u1 ++ wAR G ad2 b2 6 u2 ++ wAR G ad3 b3 20 u3 ++ wAR G ad4 b4 30 u4 ++ wX6 G ad5 b5 (u5.1, u5.2.1, u5.2.2.1, u5.2.2.2.1, v529.2.2)) H := hP
                                    replace hD : va_D A (wAR G ad b 20 u ++ wAR G ad1 b1 8 u1 ++ wAR G ad2 b2 6 u2 ++ wAR G ad3 b3 20 u3 ++ wAR G ad4 b4 30 u4 ++ wX6 G ad5 b5 (u5.1, u5.2.1, u5.2.2.1, u5.2.2.2.1, v529.2.2)) := hD
                                    refine lv_if_le (tgt := 582) hx hb dL_same_543 (by decide) (fun c543 => ?_) (fun c543 => ?_)
                                    · replace hf := zi_p hf c543
                                      have hb529 := (zk_r hf hz529).symm
                                      subst hb529
                                      replace hf := hk529
                                      exact J582 v529.1 v529.2.2 hf _ _ hP hD hS _ (lv_sub hl [0, 1, 2, 3, 4, 5, 6, 7, 8, 9] rfl)
                                    · replace hf := zi_n hf c543
                                      refine lv_aload_n hx hb dL_same_546 rfl (lv_at hl 0 rfl) ?_
                                      refine lv_iload hx hb dL_same_547 (lv_at hl 8 rfl) ?_
                                      refine lv_iload hx hb dL_same_549 (lv_at hl 9 rfl) ?_
                                      refine lv_iinc (v := (v529.1 + 1)) (lv' := [(9, .int (v529.1 + 1)), (0, .ref (ad5 b5)), (1, .int p1), (2, .ref (ad b)), (3, .ref (ad1 b1)), (4, .ref (ad2 b2)), (5, .ref (ad3 b3)), (6, .ref (ad4 b4)), (7, .int y330_0), (8, .int v385.1), (11, .int v529.2.1)]) hx hb dL_same_551 hl (k := 9) rfl rfl (by decide) rfl (fun ls hl => ?_)
                                      replace hf := zb_s hf
                                      obtain ⟨r554, hr554, hf⟩ := hf
                                      refine z_GVi (rest := []) C0 kL_83 (c_X6_lineAt l D G ad5 (b5) (u5.1, u5.2.1, u5.2.2.1, u5.2.2.2.1, v529.2.2) v385.1 v529.1 r554 hr554) pz_6_5 pz_6_5.symm (ci := 7) (T := TX6) (N := 5) rfl rfl rfl ⟨Nat.le_of_ble_eq_true rfl, Nat.le_of_ble_eq_true rfl⟩ (Nat.le_of_ble_eq_true rfl) ⟨Nat.le_of_ble_eq_true rfl, Nat.le_of_ble_eq_true rfl⟩ rfl hl.1 hP hD hS dL_same_554 (fun H locs hP hD hS => ?_)
                                      replace hP : va_P D vwCl (wAR G ad b 20 u ++ wAR G ad1 b1 8 u1 ++ wAR G ad2 b2 6 u2 ++ wAR G ad3 b3 20 u3 ++ wAR G ad4 b4 30 u4 ++ wX6 G ad5 b5 (u5.1, u5.2.1, u5.2.2.1, u5.2.2.2.1, r554.2)) H := hP
                                      replace hD : va_D A (wAR G ad b 20 u ++ wAR G ad1 b1 8 u1 ++ wAR G ad2 b2 6 u2 ++ wAR G ad3 b3 20 u3 ++ wAR G ad4 b4 30 u4 ++ wX6 G ad5 b5 (u5.1, u5.2.1, u5.2.2.1, u5.2.2.2.1, r554.2)) := hD
                                      refine lv_aload hx hb dL_same_557 (lv_at hl 7 rfl) ?_
                                      refine lv_iconst (v := 3) hx hb dL_same_559 (by decide) ?_
                                      refine lv_iload hx hb dL_same_560 (lv_at hl 9 rfl) ?_
                                      refine lv_imul hx hb dL_same_562 ?_
                                      refine lv_iconst (v := 1) hx hb dL_same_563 (by decide) ?_
                                      refine lv_iadd hx hb dL_same_564 ?_
                                      replace hf := zg_s hf
                                      obtain ⟨hi565, a565, ea565, hf⟩ := hf
                                      refine z_iald hx hb hK hP 4 0 rfl rfl hi565 ea565 dL_same_565 ?_
                                      refine lv_iload hx hb dL_same_566 (lv_at hl 10 rfl) ?_
                                      replace hf := zb_s hf
                                      obtain ⟨r568, hr568, hf⟩ := hf
                                      refine z_GSi (rest := [.int r554.1]) C0 kL_86 (c_L_letter l D G a565 v529.2.1 r568 hr568) (List.Perm.refl _) (List.Perm.refl _) rfl ⟨Nat.le_of_ble_eq_true rfl, Nat.le_of_ble_eq_true rfl⟩ (Nat.le_of_ble_eq_true rfl) ⟨Nat.le_of_ble_eq_true rfl, Nat.le_of_ble_eq_true rfl⟩ rfl hl.1 hP hD hS dL_same_568 (fun H locs hP hD hS => ?_)
                                      replace hP : va_P D vwCl (wAR G ad b 20 u ++ wAR G ad1 b1 8 u1 ++ wAR G ad2 b2 6 u2 ++ wAR G ad3 b3 20 u3 ++ wAR G ad4 b4 30 u4 ++ wX6 G ad5 b5 (u5.1, u5.2.1, u5.2.2.1, u5.2.2.2.1, r554.2)) H := hP
                                      replace hD : va_D A (wAR G ad b 20 u ++ wAR G ad1 b1 8 u1 ++ wAR G ad2 b2 6 u2 ++ wAR G ad3 b3 20 u3 ++ wAR G ad4 b4 30 u4 ++ wX6 G ad5 b5 (u5.1, u5.2.1, u5.2.2.1, u5.2.2.2.1, r554.2)) := hD
                                      refine lv_icmp_eq (tgt := 576) hx hb dL_same_571 (by decide) (fun c571 => ?_) (fun c571 => ?_)
                                      · replace hf := zi_p hf c571
                                        refine lv_iinc (v := (v529.2.1 + 1)) (lv' := [(11, .int (v529.2.1 + 1)), (9, .int (v529.1 + 1)), (0, .ref (ad5 b5)), (1, .int p1), (2, .ref (ad b)), (3, .ref (ad1 b1)), (4, .ref (ad2 b2)), (5, .ref (ad3 b3)), (6, .ref (ad4 b4)), (7, .int y330_0), (8, .int v385.1)]) hx hb dL_same_576 hl (k := 10) rfl rfl (by decide) rfl (fun ls hl => ?_)
                                        refine lv_goto (tgt := 529) hx hb dL_same_579 (by decide) ?_
                                        exact ih529 _ (zk_l hf hz529) _ _ hP hD hS _ (lv_sub hl [2, 3, 4, 5, 6, 7, 8, 9, 10, 1, 0] rfl)
                                      · replace hf := zi_n hf c571
                                        cases hf
                                exact L529 _ _ hz529 _ _ hP hD hS _ (lv_sub hl [2, 3, 4, 5, 6, 7, 8, 9, 10, 1, 0] rfl)
                              · replace hf := zi_n hf c521
                                cases hf
                            replace hf := zb_s hf
                            obtain ⟨bb461, hz461, hk461⟩ := hf
                            have L461 : ∀ (n461 : Nat) (v461 : Int32 × Int32 × tJ4) (hz461 : zl n461 (q_L_same_L461 u4 u5 v385) v461 = some bb461) (H : Heap) (locs : List Loc) (hP : va_P D vwCl (wAR G ad b 20 u ++ wAR G ad1 b1 8 u1 ++ wAR G ad2 b2 6 u2 ++ wAR G ad3 b3 20 u3 ++ wAR G ad4 b4 30 u4 ++ wX6 G ad5 b5 (u5.1, u5.2.1, u5.2.2.1, u5.2.2.2.1, v461.2.2)) H) (hD : va_D A (wAR G ad b 20 u ++ wAR G ad1 b1 8 u1 ++ wAR G ad2 b2 6 u2 ++ wAR G ad3 b3 20 u3 ++ wAR G ad4 b4 30 u4 ++ wX6 G ad5 b5 (u5.1, u5.2.1, u5.2.2.1, u5.2.2.2.1, v461.2.2))) (hS : va_S A s.heap H locs) (ls : Array Slot) (hl : lv_has ls 14 [(0, .ref (ad5 b5)), (1, .int p1), (2, .ref (ad b)), (3, .ref (ad1 b1)), (4, .ref (ad2 b2)), (5, .ref (ad3 b3)), (6, .ref (ad4 b4)), (7, .int y330_0), (8, .int v385.1), (9, .int v461.1), (10, .int v461.2.1)]), W p l e (zRc 7 171 20 336) s m args below meth c H locs 0 0 Q (F0 m 461 ls []) := by
                              intro n461
                              induction n461 with
                              | zero => intro v461 hz461; exact (zl_0 hz461).elim
                              | succ n461 ih461 =>
                                intro v461 hz461 H locs hP hD hS ls hl
                                obtain ⟨o461, hf, hz461⟩ := zl_s hz461
                                unfold q_L_same_L461 at hf
                                refine lv_iload hx hb dL_same_461 (lv_at hl 10 rfl) ?_
                                refine lv_if_le (tgt := 508) hx hb dL_same_463 (by decide) (fun c463 => ?_) (fun c463 => ?_)
                                · replace hf := zi_p hf c463
                                  have hb461 := (zk_r hf hz461).symm
                                  subst hb461
                                  replace hf := hk461
                                  exact J508 v461.1 v461.2.2 hf _ _ hP hD hS _ (lv_sub hl [0, 1, 2, 3, 4, 5, 6, 7, 8, 9] rfl)
                                · replace hf := zi_n hf c463
                                  refine lv_aload_n hx hb dL_same_466 rfl (lv_at hl 0 rfl) ?_
                                  refine lv_iload hx hb dL_same_467 (lv_at hl 8 rfl) ?_
                                  refine lv_iload hx hb dL_same_469 (lv_at hl 9 rfl) ?_
                                  refine lv_iinc (v := (v461.1 + 1)) (lv' := [(9, .int (v461.1 + 1)), (0, .ref (ad5 b5)), (1, .int p1), (2, .ref (ad b)), (3, .ref (ad1 b1)), (4, .ref (ad2 b2)), (5, .ref (ad3 b3)), (6, .ref (ad4 b4)), (7, .int y330_0), (8, .int v385.1), (10, .int v461.2.1)]) hx hb dL_same_471 hl (k := 9) rfl rfl (by decide) rfl (fun ls hl => ?_)
                                  replace hf := zb_s hf
                                  obtain ⟨r474, hr474, hf⟩ := hf
                                  refine z_GVi (rest := []) C0 kL_83 (c_X6_lineAt l D G ad5 (b5) (u5.1, u5.2.1, u5.2.2.1, u5.2.2.2.1, v461.2.2) v385.1 v461.1 r474 hr474) pz_6_5 pz_6_5.symm (ci := 7) (T := TX6) (N := 5) rfl rfl rfl ⟨Nat.le_of_ble_eq_true rfl, Nat.le_of_ble_eq_true rfl⟩ (Nat.le_of_ble_eq_true rfl) ⟨Nat.le_of_ble_eq_true rfl, Nat.le_of_ble_eq_true rfl⟩ rfl hl.1 hP hD hS dL_same_474 (fun H locs hP hD hS => ?_)
                                  replace hP : va_P D vwCl (wAR G ad b 20 u ++ wAR G ad1 b1 8 u1 ++ wAR G ad2 b2 6 u2 ++ wAR G ad3 b3 20 u3 ++ wAR G ad4 b4 30 u4 ++ wX6 G ad5 b5 (u5.1, u5.2.1, u5.2.2.1, u5.2.2.2.1, r474.2)) H := hP
                                  replace hD : va_D A (wAR G ad b 20 u ++ wAR G ad1 b1 8 u1 ++ wAR G ad2 b2 6 u2 ++ wAR G ad3 b3 20 u3 ++ wAR G ad4 b4 30 u4 ++ wX6 G ad5 b5 (u5.1, u5.2.1, u5.2.2.1, u5.2.2.2.1, r474.2)) := hD
                                  refine lv_bipush (v := 48) hx hb dL_same_477 (by decide) ?_
                                  refine lv_aload hx hb dL_same_479 (lv_at hl 7 rfl) ?_
                                  refine lv_iconst (v := 3) hx hb dL_same_481 (by decide) ?_
                                  refine lv_iload hx hb dL_same_482 (lv_at hl 9 rfl) ?_
                                  refine lv_imul hx hb dL_same_484 ?_
                                  replace hf := zg_s hf
                                  obtain ⟨hi485, a485, ea485, hf⟩ := hf
                                  refine z_iald hx hb hK hP 4 0 rfl rfl hi485 ea485 dL_same_485 ?_
                                  refine lv_iload hx hb dL_same_486 (lv_at hl 10 rfl) ?_
                                  replace hf := zq_s hf
                                  obtain ⟨hq, hf⟩ := hf
                                  refine lv_idiv hx hb dL_same_488 hq ?_
                                  refine lv_bipush (v := 10) hx hb dL_same_489 (by decide) ?_
                                  refine lv_irem hx hb dL_same_491 (by decide) ?_
                                  refine lv_iadd hx hb dL_same_492 ?_
                                  refine lv_icmp_eq (tgt := 498) hx hb dL_same_493 (by decide) (fun c493 => ?_) (fun c493 => ?_)
                                  · replace hf := zi_p hf c493
                                    refine lv_iload hx hb dL_same_498 (lv_at hl 10 rfl) ?_
                                    refine lv_bipush (v := 10) hx hb dL_same_500 (by decide) ?_
                                    refine lv_idiv hx hb dL_same_502 (by decide) ?_
                                    refine lv_istore (lv' := [(10, .int (v461.2.1 / 10)), (9, .int (v461.1 + 1)), (0, .ref (ad5 b5)), (1, .int p1), (2, .ref (ad b)), (3, .ref (ad1 b1)), (4, .ref (ad2 b2)), (5, .ref (ad3 b3)), (6, .ref (ad4 b4)), (7, .int y330_0), (8, .int v385.1)]) hx hb dL_same_503 hl (by decide) rfl (fun ls hl => ?_)
                                    refine lv_goto (tgt := 461) hx hb dL_same_505 (by decide) ?_
                                    exact ih461 _ (zk_l hf hz461) _ _ hP hD hS _ (lv_sub hl [2, 3, 4, 5, 6, 7, 8, 9, 10, 1, 0] rfl)
                                  · replace hf := zi_n hf c493
                                    cases hf
                            exact L461 _ _ hz461 _ _ hP hD hS _ (lv_sub hl [0, 1, 2, 3, 4, 5, 6, 7, 8, 9, 10] rfl)
                          replace hf := zb_s hf
                          obtain ⟨bb436, hz436, hk436⟩ := hf
                          have L436 : ∀ (n436 : Nat) (v436 : Int32) (hz436 : zl n436 (q_L_same_L436 u4 v385) v436 = some bb436) (H : Heap) (locs : List Loc) (hP : va_P D vwCl (wAR G ad b 20 u ++ wAR G ad1 b1 8 u1 ++ wAR G ad2 b2 6 u2 ++ wAR G ad3 b3 20 u3 ++ wAR G ad4 b4 30 u4 ++ wX6 G ad5 b5 (u5.1, u5.2.1, u5.2.2.1, u5.2.2.2.1, w430_0)) H) (hD : va_D A (wAR G ad b 20 u ++ wAR G ad1 b1 8 u1 ++ wAR G ad2 b2 6 u2 ++ wAR G ad3 b3 20 u3 ++ wAR G ad4 b4 30 u4 ++ wX6 G ad5 b5 (u5.1, u5.2.1, u5.2.2.1, u5.2.2.2.1, w430_0))) (hS : va_S A s.heap H locs) (ls : Array Slot) (hl : lv_has ls 14 [(0, .ref (ad5 b5)), (1, .int p1), (2, .ref (ad b)), (3, .ref (ad1 b1)), (4, .ref (ad2 b2)), (5, .ref (ad3 b3)), (6, .ref (ad4 b4)), (7, .int y330_0), (8, .int v385.1), (9, .int 0), (10, .int v436)]), W p l e (zRc 7 171 20 336) s m args below meth c H locs 0 0 Q (F0 m 436 ls []) := by
                            intro n436
                            induction n436 with
                            | zero => intro v436 hz436; exact (zl_0 hz436).elim
                            | succ n436 ih436 =>
                              intro v436 hz436 H locs hP hD hS ls hl
                              obtain ⟨o436, hf, hz436⟩ := zl_s hz436
                              unfold q_L_same_L436 at hf
                              refine lv_aload hx hb dL_same_436 (lv_at hl 6 rfl) ?_
                              refine lv_iconst (v := 3) hx hb dL_same_438 (by decide) ?_
                              refine lv_iload hx hb dL_same_439 (lv_at hl 8 rfl) ?_
                              refine lv_imul hx hb dL_same_441 ?_
                              replace hf := zg_s hf
                              obtain ⟨hi442, a442, ea442, hf⟩ := hf
                              refine z_iald hx hb hK hP 4 0 rfl rfl hi442 ea442 dL_same_442 ?_
                              refine lv_iload hx hb dL_same_443 (lv_at hl 10 rfl) ?_
                              replace hf := zq_s hf
                              obtain ⟨hq, hf⟩ := hf
                              refine lv_idiv hx hb dL_same_445 hq ?_
                              refine lv_bipush (v := 9) hx hb dL_same_446 (by decide) ?_
                              refine lv_icmp_le (tgt := 461) hx hb dL_same_448 (by decide) (fun c448 => ?_) (fun c448 => ?_)
                              · replace hf := zi_p hf c448
                                have hb436 := (zk_r hf hz436).symm
                                subst hb436
                                replace hf := hk436
                                exact J461 v436 hf _ _ hP hD hS _ (lv_sub hl [0, 1, 2, 3, 4, 5, 6, 7, 8, 9, 10] rfl)
                              · replace hf := zi_n hf c448
                                refine lv_iload hx hb dL_same_451 (lv_at hl 10 rfl) ?_
                                refine lv_bipush (v := 10) hx hb dL_same_453 (by decide) ?_
                                refine lv_imul hx hb dL_same_455 ?_
                                refine lv_istore (lv' := [(10, .int (v436 * 10)), (0, .ref (ad5 b5)), (1, .int p1), (2, .ref (ad b)), (3, .ref (ad1 b1)), (4, .ref (ad2 b2)), (5, .ref (ad3 b3)), (6, .ref (ad4 b4)), (7, .int y330_0), (8, .int v385.1), (9, .int 0)]) hx hb dL_same_456 hl (by decide) rfl (fun ls hl => ?_)
                                refine lv_goto (tgt := 436) hx hb dL_same_458 (by decide) ?_
                                exact ih436 _ (zk_l hf hz436) _ _ hP hD hS _ (lv_sub hl [1, 2, 3, 4, 5, 6, 7, 8, 9, 10, 0] rfl)
                          exact L436 _ _ hz436 _ _ hP hD hS _ (lv_sub hl [2, 3, 4, 5, 6, 7, 8, 9, 10, 1, 0] rfl)
                        replace hf := zb_s hf
                        obtain ⟨bb395, hz395, hk395⟩ := hf
                        have L395 : ∀ (n395 : Nat) (v395 : Int32 × tJ4) (hz395 : zl n395 (q_L_same_L395 u4 u5 v385) v395 = some bb395) (H : Heap) (locs : List Loc) (hP : va_P D vwCl (wAR G ad b 20 u ++ wAR G ad1 b1 8 u1 ++ wAR G ad2 b2 6 u2 ++ wAR G ad3 b3 20 u3 ++ wAR G ad4 b4 30 u4 ++ wX6 G ad5 b5 (u5.1, u5.2.1, u5.2.2.1, u5.2.2.2.1, v395.2)) H) (hD : va_D A (wAR G ad b 20 u ++ wAR G ad1 b1 8 u1 ++ wAR G ad2 b2 6 u2 ++ wAR G ad3 b3 20 u3 ++ wAR G ad4 b4 30 u4 ++ wX6 G ad5 b5 (u5.1, u5.2.1, u5.2.2.1, u5.2.2.2.1, v395.2))) (hS : va_S A s.heap H locs) (ls : Array Slot) (hl : lv_has ls 14 [(0, .ref (ad5 b5)), (1, .int p1), (2, .ref (ad b)), (3, .ref (ad1 b1)), (4, .ref (ad2 b2)), (5, .ref (ad3 b3)), (6, .ref (ad4 b4)), (7, .int y330_0), (8, .int v385.1), (9, .int v395.1)]), W p l e (zRc 7 171 20 336) s m args below meth c H locs 0 0 Q (F0 m 395 ls []) := by
                          intro n395
                          induction n395 with
                          | zero => intro v395 hz395; exact (zl_0 hz395).elim
                          | succ n395 ih395 =>
                            intro v395 hz395 H locs hP hD hS ls hl
                            obtain ⟨o395, hf, hz395⟩ := zl_s hz395
                            unfold q_L_same_L395 at hf
                            refine lv_iload hx hb dL_same_395 (lv_at hl 9 rfl) ?_
                            refine lv_iconst (v := 3) hx hb dL_same_397 (by decide) ?_
                            refine lv_icmp_ge (tgt := 430) hx hb dL_same_398 (by decide) (fun c398 => ?_) (fun c398 => ?_)
                            · replace hf := zi_p hf c398
                              have hb395 := (zk_r hf hz395).symm
                              subst hb395
                              replace hf := hk395
                              exact J430 v395.2 hf _ _ hP hD hS _ (lv_sub hl [0, 1, 2, 3, 4, 5, 6, 7, 8] rfl)
                            · replace hf := zi_n hf c398
                              refine lv_aload_n hx hb dL_same_401 rfl (lv_at hl 0 rfl) ?_
                              refine lv_iload hx hb dL_same_402 (lv_at hl 8 rfl) ?_
                              refine lv_iload hx hb dL_same_404 (lv_at hl 9 rfl) ?_
                              replace hf := zb_s hf
                              obtain ⟨r406, hr406, hf⟩ := hf
                              refine z_GVi (rest := []) C0 kL_80 (c_X6_entry l D G ad5 (b5) (u5.1, u5.2.1, u5.2.2.1, u5.2.2.2.1, v395.2) v385.1 v395.1 r406 hr406) pz_6_5 pz_6_5.symm (ci := 7) (T := TX6) (N := 5) rfl rfl rfl ⟨Nat.le_of_ble_eq_true rfl, Nat.le_of_ble_eq_true rfl⟩ (Nat.le_of_ble_eq_true rfl) ⟨Nat.le_of_ble_eq_true rfl, Nat.le_of_ble_eq_true rfl⟩ rfl hl.1 hP hD hS dL_same_406 (fun H locs hP hD hS => ?_)
                              replace hP : va_P D vwCl (wAR G ad b 20 u ++ wAR G ad1 b1 8 u1 ++ wAR G ad2 b2 6 u2 ++ wAR G ad3 b3 20 u3 ++ wAR G ad4 b4 30 u4 ++ wX6 G ad5 b5 (u5.1, u5.2.1, u5.2.2.1, u5.2.2.2.1, r406.2)) H := hP
                              replace hD : va_D A (wAR G ad b 20 u ++ wAR G ad1 b1 8 u1 ++ wAR G ad2 b2 6 u2 ++ wAR G ad3 b3 20 u3 ++ wAR G ad4 b4 30 u4 ++ wX6 G ad5 b5 (u5.1, u5.2.1, u5.2.2.1, u5.2.2.2.1, r406.2)) := hD
                              refine lv_aload hx hb dL_same_409 (lv_at hl 6 rfl) ?_
                              refine lv_iconst (v := 3) hx hb dL_same_411 (by decide) ?_
                              refine lv_iload hx hb dL_same_412 (lv_at hl 8 rfl) ?_
                              refine lv_imul hx hb dL_same_414 ?_
                              refine lv_iload hx hb dL_same_415 (lv_at hl 9 rfl) ?_
                              refine lv_iadd hx hb dL_same_417 ?_
                              replace hf := zg_s hf
                              obtain ⟨hi418, a418, ea418, hf⟩ := hf
                              refine z_iald hx hb hK hP 4 0 rfl rfl hi418 ea418 dL_same_418 ?_
                              refine lv_icmp_eq (tgt := 424) hx hb dL_same_419 (by decide) (fun c419 => ?_) (fun c419 => ?_)
                              · replace hf := zi_p hf c419
                                refine lv_iinc (v := (v395.1 + 1)) (lv' := [(9, .int (v395.1 + 1)), (0, .ref (ad5 b5)), (1, .int p1), (2, .ref (ad b)), (3, .ref (ad1 b1)), (4, .ref (ad2 b2)), (5, .ref (ad3 b3)), (6, .ref (ad4 b4)), (7, .int y330_0), (8, .int v385.1)]) hx hb dL_same_424 hl (k := 9) rfl rfl (by decide) rfl (fun ls hl => ?_)
                                refine lv_goto (tgt := 395) hx hb dL_same_427 (by decide) ?_
                                exact ih395 _ (zk_l hf hz395) _ _ hP hD hS _ (lv_sub hl [1, 2, 3, 4, 5, 6, 7, 8, 9, 0] rfl)
                              · replace hf := zi_n hf c419
                                cases hf
                        exact L395 _ _ hz395 _ _ hP hD hS _ (lv_sub hl [1, 2, 3, 4, 5, 6, 7, 8, 9, 0] rfl)
                  exact L385 _ _ hz385 _ _ hP hD hS _ (lv_sub hl [2, 3, 4, 5, 6, 7, 8, 1, 0] rfl)
                · replace hf := zi_n hf c377
                  cases hf
        refine lv_icmp_ge (tgt := 328) hx hb dL_same_318 (by decide) (fun c318 => ?_) (fun c318 => ?_)
        · replace hf := zi_p hf c318
          refine lv_bipush (v := 10) hx hb dL_same_328 (by decide) ?_
          exact J330 10 hf _ _ hP hD hS _ (lv_sub hl [0, 1, 2, 3, 4, 5, 6] rfl)
        · replace hf := zi_n hf c318
          refine lv_aload_n hx hb dL_same_321 rfl (lv_at hl 2 rfl) ?_
          refine lv_bipush (v := 14) hx hb dL_same_322 (by decide) ?_
          refine z_iald (v := (u 14)) hx hb hK hP 0 0 rfl rfl (z_in rfl) rfl dL_same_324 ?_
          refine lv_goto (tgt := 330) hx hb dL_same_325 (by decide) ?_
          exact J330 (u 14) hf _ _ hP hD hS _ (lv_sub hl [0, 1, 2, 3, 4, 5, 6] rfl)
      replace hf := zb_s hf
      obtain ⟨bb67, hz67, hk67⟩ := hf
      have L67 : ∀ (n67 : Nat) (v67 : Int32) (hz67 : zl n67 (q_L_same_L67 u u1 u2 u3 u5) v67 = some bb67) (H : Heap) (locs : List Loc) (hP : va_P D vwCl (wAR G ad b 20 u ++ wAR G ad1 b1 8 u1 ++ wAR G ad2 b2 6 u2 ++ wAR G ad3 b3 20 u3 ++ wAR G ad4 b4 30 u4 ++ wX6 G ad5 b5 u5) H) (hD : va_D A (wAR G ad b 20 u ++ wAR G ad1 b1 8 u1 ++ wAR G ad2 b2 6 u2 ++ wAR G ad3 b3 20 u3 ++ wAR G ad4 b4 30 u4 ++ wX6 G ad5 b5 u5)) (hS : va_S A s.heap H locs) (ls : Array Slot) (hl : lv_has ls 14 [(0, .ref (ad5 b5)), (1, .int p1), (2, .ref (ad b)), (3, .ref (ad1 b1)), (4, .ref (ad2 b2)), (5, .ref (ad3 b3)), (6, .ref (ad4 b4)), (7, .int v67)]), W p l e (zRc 7 171 20 336) s m args below meth c H locs 0 0 Q (F0 m 67 ls []) := by
        intro n67
        induction n67 with
        | zero => intro v67 hz67; exact (zl_0 hz67).elim
        | succ n67 ih67 =>
          intro v67 hz67 H locs hP hD hS ls hl
          obtain ⟨o67, hf, hz67⟩ := zl_s hz67
          unfold q_L_same_L67 at hf
          refine lv_iload hx hb dL_same_67 (lv_at hl 7 rfl) ?_
          refine lv_bipush (v := 8) hx hb dL_same_69 (by decide) ?_
          refine lv_icmp_ge (tgt := 312) hx hb dL_same_71 (by decide) (fun c71 => ?_) (fun c71 => ?_)
          · replace hf := zi_p hf c71
            have hb67 := (zk_r hf hz67).symm
            subst hb67
            replace hf := hk67
            exact J312 hf _ _ hP hD hS _ (lv_sub hl [0, 1, 2, 3, 4, 5, 6] rfl)
          · replace hf := zi_n hf c71
            refine lv_aload_n hx hb dL_same_74 rfl (lv_at hl 2 rfl) ?_
            refine lv_iconst (v := 0) hx hb dL_same_75 (by decide) ?_
            refine z_iald (v := (u 0)) hx hb hK hP 0 0 rfl rfl (z_in rfl) rfl dL_same_76 ?_
            refine lv_aload_n hx hb dL_same_77 rfl (lv_at hl 3 rfl) ?_
            refine lv_iload hx hb dL_same_78 (lv_at hl 7 rfl) ?_
            replace hf := zg_s hf
            obtain ⟨hi80, a80, ea80, hf⟩ := hf
            refine z_iald hx hb hK hP 1 0 rfl rfl hi80 ea80 dL_same_80 ?_
            refine lv_isub hx hb dL_same_81 ?_
            refine lv_istore (lv' := [(8, .int ((u 0) - a80)), (0, .ref (ad5 b5)), (1, .int p1), (2, .ref (ad b)), (3, .ref (ad1 b1)), (4, .ref (ad2 b2)), (5, .ref (ad3 b3)), (6, .ref (ad4 b4)), (7, .int v67)]) hx hb dL_same_82 hl (by decide) rfl (fun ls hl => ?_)
            refine lv_iconst (v := 0) hx hb dL_same_84 (by decide) ?_
            refine lv_istore (lv' := [(9, .int 0), (8, .int ((u 0) - a80)), (0, .ref (ad5 b5)), (1, .int p1), (2, .ref (ad b)), (3, .ref (ad1 b1)), (4, .ref (ad2 b2)), (5, .ref (ad3 b3)), (6, .ref (ad4 b4)), (7, .int v67)]) hx hb dL_same_85 hl (by decide) rfl (fun ls hl => ?_)
            refine lv_iconst (v := 0) hx hb dL_same_87 (by decide) ?_
            refine lv_istore (lv' := [(10, .int 0), (9, .int 0), (8, .int ((u 0) - a80)), (0, .ref (ad5 b5)), (1, .int p1), (2, .ref (ad b)), (3, .ref (ad1 b1)), (4, .ref (ad2 b2)), (5, .ref (ad3 b3)), (6, .ref (ad4 b4)), (7, .int v67)]) hx hb dL_same_88 hl (by decide) rfl (fun ls hl => ?_)
            have J144 : ∀ (x144_9 : Int32) (hf : q_L_same_J144 u u1 u2 u3 u5 v67 a80 x144_9 = some o67) (H : Heap) (locs : List Loc) (hP : va_P D vwCl (wAR G ad b 20 u ++ wAR G ad1 b1 8 u1 ++ wAR G ad2 b2 6 u2 ++ wAR G ad3 b3 20 u3 ++ wAR G ad4 b4 30 u4 ++ wX6 G ad5 b5 u5) H) (hD : va_D A (wAR G ad b 20 u ++ wAR G ad1 b1 8 u1 ++ wAR G ad2 b2 6 u2 ++ wAR G ad3 b3 20 u3 ++ wAR G ad4 b4 30 u4 ++ wX6 G ad5 b5 u5)) (hS : va_S A s.heap H locs) (ls : Array Slot) (hl : lv_has ls 14 [(0, .ref (ad5 b5)), (1, .int p1), (2, .ref (ad b)), (3, .ref (ad1 b1)), (4, .ref (ad2 b2)), (5, .ref (ad3 b3)), (6, .ref (ad4 b4)), (7, .int v67), (8, .int ((u 0) - a80)), (9, .int x144_9)]), W p l e (zRc 7 171 20 336) s m args below meth c H locs 0 0 Q (F0 m 144 ls []) := by
              intro x144_9 hf H locs hP hD hS ls hl
              unfold q_L_same_J144 at hf
              refine lv_aload_n hx hb dL_same_144 rfl (lv_at hl 0 rfl) ?_
              refine lv_iload hx hb dL_same_145 (lv_at hl 7 rfl) ?_
              refine lv_iconst (v := 0) hx hb dL_same_147 (by decide) ?_
              replace hf := zb_s hf
              obtain ⟨r148, hr148, hf⟩ := hf
              refine z_GVi (rest := []) C0 kL_63 (c_X6_span l D G ad5 (b5) u5 v67 0 r148 hr148) pz_6_5 pz_6_5.symm (ci := 7) (T := TX6) (N := 5) rfl rfl rfl ⟨Nat.le_of_ble_eq_true rfl, Nat.le_of_ble_eq_true rfl⟩ (Nat.le_of_ble_eq_true rfl) ⟨Nat.le_of_ble_eq_true rfl, Nat.le_of_ble_eq_true rfl⟩ rfl hl.1 hP hD hS dL_same_148 (fun H locs hP hD hS => ?_)
              refine lv_aload_n hx hb dL_same_151 rfl (lv_at hl 3 rfl) ?_
              refine lv_iload hx hb dL_same_152 (lv_at hl 7 rfl) ?_
              replace hf := zg_s hf
              obtain ⟨hi154, a154, ea154, hf⟩ := hf
              refine z_iald hx hb hK hP 1 0 rfl rfl hi154 ea154 dL_same_154 ?_
              refine lv_icmp_ne (tgt := 304) hx hb dL_same_155 (by decide) (fun c155 => ?_) (fun c155 => ?_)
              · replace hf := zi_n hf c155
                cases hf
              · replace hf := zi_p hf c155
                refine lv_aload_n hx hb dL_same_158 rfl (lv_at hl 0 rfl) ?_
                refine lv_iload hx hb dL_same_159 (lv_at hl 7 rfl) ?_
                refine lv_iconst (v := 1) hx hb dL_same_161 (by decide) ?_
                replace hf := zb_s hf
                obtain ⟨r162, hr162, hf⟩ := hf
                refine z_GVi (rest := []) C0 kL_63 (c_X6_span l D G ad5 (b5) u5 v67 1 r162 hr162) pz_6_5 pz_6_5.symm (ci := 7) (T := TX6) (N := 5) rfl rfl rfl ⟨Nat.le_of_ble_eq_true rfl, Nat.le_of_ble_eq_true rfl⟩ (Nat.le_of_ble_eq_true rfl) ⟨Nat.le_of_ble_eq_true rfl, Nat.le_of_ble_eq_true rfl⟩ rfl hl.1 hP hD hS dL_same_162 (fun H locs hP hD hS => ?_)
                refine lv_iload hx hb dL_same_165 (lv_at hl 8 rfl) ?_
                refine lv_icmp_ne (tgt := 304) hx hb dL_same_167 (by decide) (fun c167 => ?_) (fun c167 => ?_)
                · replace hf := zi_n hf c167
                  cases hf
                · replace hf := zi_p hf c167
                  refine lv_aload_n hx hb dL_same_170 rfl (lv_at hl 0 rfl) ?_
                  refine lv_iload hx hb dL_same_171 (lv_at hl 7 rfl) ?_
                  refine lv_iconst (v := 2) hx hb dL_same_173 (by decide) ?_
                  replace hf := zb_s hf
                  obtain ⟨r174, hr174, hf⟩ := hf
                  refine z_GVi (rest := []) C0 kL_63 (c_X6_span l D G ad5 (b5) u5 v67 2 r174 hr174) pz_6_5 pz_6_5.symm (ci := 7) (T := TX6) (N := 5) rfl rfl rfl ⟨Nat.le_of_ble_eq_true rfl, Nat.le_of_ble_eq_true rfl⟩ (Nat.le_of_ble_eq_true rfl) ⟨Nat.le_of_ble_eq_true rfl, Nat.le_of_ble_eq_true rfl⟩ rfl hl.1 hP hD hS dL_same_174 (fun H locs hP hD hS => ?_)
                  refine lv_iload hx hb dL_same_177 (lv_at hl 9 rfl) ?_
                  refine lv_icmp_ne (tgt := 304) hx hb dL_same_179 (by decide) (fun c179 => ?_) (fun c179 => ?_)
                  · replace hf := zi_n hf c179
                    cases hf
                  · replace hf := zi_p hf c179
                    refine lv_aload_n hx hb dL_same_182 rfl (lv_at hl 0 rfl) ?_
                    refine lv_iload hx hb dL_same_183 (lv_at hl 7 rfl) ?_
                    refine lv_iconst (v := 3) hx hb dL_same_185 (by decide) ?_
                    replace hf := zb_s hf
                    obtain ⟨r186, hr186, hf⟩ := hf
                    refine z_GVi (rest := []) C0 kL_63 (c_X6_span l D G ad5 (b5) u5 v67 3 r186 hr186) pz_6_5 pz_6_5.symm (ci := 7) (T := TX6) (N := 5) rfl rfl rfl ⟨Nat.le_of_ble_eq_true rfl, Nat.le_of_ble_eq_true rfl⟩ (Nat.le_of_ble_eq_true rfl) ⟨Nat.le_of_ble_eq_true rfl, Nat.le_of_ble_eq_true rfl⟩ rfl hl.1 hP hD hS dL_same_186 (fun H locs hP hD hS => ?_)
                    refine lv_iload hx hb dL_same_189 (lv_at hl 7 rfl) ?_
                    refine lv_bipush (v := 9) hx hb dL_same_191 (by decide) ?_
                    refine lv_aload_n hx hb dL_same_193 rfl (lv_at hl 2 rfl) ?_
                    refine lv_aload hx hb dL_same_194 (lv_at hl 5 rfl) ?_
                    replace hf := zb_s hf
                    obtain ⟨r196, hr196, hf⟩ := hf
                    refine z_GSi (rest := [.int r186]) C0 kL_10 (c_L_sum l D G ad (b) ad3 (b3) u u3 v67 9 r196 hr196) pz_6_0_3 pz_6_0_3.symm rfl ⟨Nat.le_of_ble_eq_true rfl, Nat.le_of_ble_eq_true rfl⟩ (Nat.le_of_ble_eq_true rfl) ⟨Nat.le_of_ble_eq_true rfl, Nat.le_of_ble_eq_true rfl⟩ rfl hl.1 hP hD hS dL_same_196 (fun H locs hP hD hS => ?_)
                    refine lv_icmp_ne (tgt := 304) hx hb dL_same_199 (by decide) (fun c199 => ?_) (fun c199 => ?_)
                    · replace hf := zi_n hf c199
                      cases hf
                    · replace hf := zi_p hf c199
                      refine lv_aload_n hx hb dL_same_202 rfl (lv_at hl 0 rfl) ?_
                      refine lv_iload hx hb dL_same_203 (lv_at hl 7 rfl) ?_
                      refine lv_iconst (v := 4) hx hb dL_same_205 (by decide) ?_
                      replace hf := zb_s hf
                      obtain ⟨r206, hr206, hf⟩ := hf
                      refine z_GVi (rest := []) C0 kL_63 (c_X6_span l D G ad5 (b5) u5 v67 4 r206 hr206) pz_6_5 pz_6_5.symm (ci := 7) (T := TX6) (N := 5) rfl rfl rfl ⟨Nat.le_of_ble_eq_true rfl, Nat.le_of_ble_eq_true rfl⟩ (Nat.le_of_ble_eq_true rfl) ⟨Nat.le_of_ble_eq_true rfl, Nat.le_of_ble_eq_true rfl⟩ rfl hl.1 hP hD hS dL_same_206 (fun H locs hP hD hS => ?_)
                      refine lv_iload hx hb dL_same_209 (lv_at hl 8 rfl) ?_
                      refine lv_aload_n hx hb dL_same_211 rfl (lv_at hl 2 rfl) ?_
                      refine lv_bipush (v := 19) hx hb dL_same_212 (by decide) ?_
                      refine z_iald (v := (u 19)) hx hb hK hP 0 0 rfl rfl (z_in rfl) rfl dL_same_214 ?_
                      have J238 : ∀ (y238_1 : Int32) (hf : q_L_same_J238 u u2 u3 u5 v67 x144_9 r206 y238_1 = some o67) (H : Heap) (locs : List Loc) (hP : va_P D vwCl (wAR G ad b 20 u ++ wAR G ad1 b1 8 u1 ++ wAR G ad2 b2 6 u2 ++ wAR G ad3 b3 20 u3 ++ wAR G ad4 b4 30 u4 ++ wX6 G ad5 b5 u5) H) (hD : va_D A (wAR G ad b 20 u ++ wAR G ad1 b1 8 u1 ++ wAR G ad2 b2 6 u2 ++ wAR G ad3 b3 20 u3 ++ wAR G ad4 b4 30 u4 ++ wX6 G ad5 b5 u5)) (hS : va_S A s.heap H locs) (ls : Array Slot) (hl : lv_has ls 14 [(0, .ref (ad5 b5)), (1, .int p1), (2, .ref (ad b)), (3, .ref (ad1 b1)), (4, .ref (ad2 b2)), (5, .ref (ad3 b3)), (6, .ref (ad4 b4)), (7, .int v67), (9, .int x144_9)]), W p l e (zRc 7 171 20 336) s m args below meth c H locs 0 0 Q (F0 m 238 ls [.int y238_1, .int r206]) := by
                        intro y238_1 hf H locs hP hD hS ls hl
                        unfold q_L_same_J238 at hf
                        refine lv_icmp_ne (tgt := 304) hx hb dL_same_238 (by decide) (fun c238 => ?_) (fun c238 => ?_)
                        · replace hf := zi_n hf c238
                          cases hf
                        · replace hf := zi_p hf c238
                          refine lv_aload_n hx hb dL_same_241 rfl (lv_at hl 0 rfl) ?_
                          refine lv_iload hx hb dL_same_242 (lv_at hl 7 rfl) ?_
                          refine lv_iconst (v := 5) hx hb dL_same_244 (by decide) ?_
                          replace hf := zb_s hf
                          obtain ⟨r245, hr245, hf⟩ := hf
                          refine z_GVi (rest := []) C0 kL_63 (c_X6_span l D G ad5 (b5) u5 v67 5 r245 hr245) pz_6_5 pz_6_5.symm (ci := 7) (T := TX6) (N := 5) rfl rfl rfl ⟨Nat.le_of_ble_eq_true rfl, Nat.le_of_ble_eq_true rfl⟩ (Nat.le_of_ble_eq_true rfl) ⟨Nat.le_of_ble_eq_true rfl, Nat.le_of_ble_eq_true rfl⟩ rfl hl.1 hP hD hS dL_same_245 (fun H locs hP hD hS => ?_)
                          refine lv_aload_n hx hb dL_same_248 rfl (lv_at hl 2 rfl) ?_
                          refine lv_bipush (v := 16) hx hb dL_same_249 (by decide) ?_
                          refine z_iald (v := (u 16)) hx hb hK hP 0 0 rfl rfl (z_in rfl) rfl dL_same_251 ?_
                          refine lv_aload_n hx hb dL_same_252 rfl (lv_at hl 2 rfl) ?_
                          refine lv_bipush (v := 17) hx hb dL_same_253 (by decide) ?_
                          refine z_iald (v := (u 17)) hx hb hK hP 0 0 rfl rfl (z_in rfl) rfl dL_same_255 ?_
                          refine lv_iload hx hb dL_same_256 (lv_at hl 7 rfl) ?_
                          refine lv_aload_n hx hb dL_same_258 rfl (lv_at hl 2 rfl) ?_
                          refine lv_bipush (v := 18) hx hb dL_same_259 (by decide) ?_
                          refine z_iald (v := (u 18)) hx hb hK hP 0 0 rfl rfl (z_in rfl) rfl dL_same_261 ?_
                          refine lv_aload_n hx hb dL_same_262 rfl (lv_at hl 2 rfl) ?_
                          refine lv_aload hx hb dL_same_263 (lv_at hl 5 rfl) ?_
                          replace hf := zb_s hf
                          obtain ⟨r265, hr265, hf⟩ := hf
                          refine z_GSi (rest := [.int (u 17), .int (u 16), .int r245]) C0 kL_10 (c_L_sum l D G ad (b) ad3 (b3) u u3 v67 (u 18) r265 hr265) pz_6_0_3 pz_6_0_3.symm rfl ⟨Nat.le_of_ble_eq_true rfl, Nat.le_of_ble_eq_true rfl⟩ (Nat.le_of_ble_eq_true rfl) ⟨Nat.le_of_ble_eq_true rfl, Nat.le_of_ble_eq_true rfl⟩ rfl hl.1 hP hD hS dL_same_265 (fun H locs hP hD hS => ?_)
                          refine lv_imul hx hb dL_same_268 ?_
                          refine lv_iadd hx hb dL_same_269 ?_
                          refine lv_icmp_ne (tgt := 304) hx hb dL_same_270 (by decide) (fun c270 => ?_) (fun c270 => ?_)
                          · replace hf := zi_n hf c270
                            cases hf
                          · replace hf := zi_p hf c270
                            refine lv_aload_n hx hb dL_same_273 rfl (lv_at hl 0 rfl) ?_
                            refine lv_iload hx hb dL_same_274 (lv_at hl 7 rfl) ?_
                            refine lv_bipush (v := 6) hx hb dL_same_276 (by decide) ?_
                            replace hf := zb_s hf
                            obtain ⟨r278, hr278, hf⟩ := hf
                            refine z_GVi (rest := []) C0 kL_63 (c_X6_span l D G ad5 (b5) u5 v67 6 r278 hr278) pz_6_5 pz_6_5.symm (ci := 7) (T := TX6) (N := 5) rfl rfl rfl ⟨Nat.le_of_ble_eq_true rfl, Nat.le_of_ble_eq_true rfl⟩ (Nat.le_of_ble_eq_true rfl) ⟨Nat.le_of_ble_eq_true rfl, Nat.le_of_ble_eq_true rfl⟩ rfl hl.1 hP hD hS dL_same_278 (fun H locs hP hD hS => ?_)
                            refine lv_iload hx hb dL_same_281 (lv_at hl 7 rfl) ?_
                            refine lv_aload_n hx hb dL_same_283 rfl (lv_at hl 2 rfl) ?_
                            refine lv_aload hx hb dL_same_284 (lv_at hl 4 rfl) ?_
                            replace hf := zb_s hf
                            obtain ⟨r286, hr286, hf⟩ := hf
                            refine z_GSi (rest := [.int r278]) C0 kL_66 (c_L_place l D G ad (b) ad2 (b2) u u2 v67 r286 hr286) pz_6_0_2 pz_6_0_2.symm rfl ⟨Nat.le_of_ble_eq_true rfl, Nat.le_of_ble_eq_true rfl⟩ (Nat.le_of_ble_eq_true rfl) ⟨Nat.le_of_ble_eq_true rfl, Nat.le_of_ble_eq_true rfl⟩ rfl hl.1 hP hD hS dL_same_286 (fun H locs hP hD hS => ?_)
                            refine lv_icmp_ne (tgt := 304) hx hb dL_same_289 (by decide) (fun c289 => ?_) (fun c289 => ?_)
                            · replace hf := zi_n hf c289
                              cases hf
                            · replace hf := zi_p hf c289
                              refine lv_aload_n hx hb dL_same_292 rfl (lv_at hl 0 rfl) ?_
                              refine lv_iload hx hb dL_same_293 (lv_at hl 7 rfl) ?_
                              refine lv_iload hx hb dL_same_295 (lv_at hl 8 rfl) ?_
                              replace hf := zb_s hf
                              obtain ⟨r297, hr297, hf⟩ := hf
                              refine z_GVi (rest := []) C0 kL_59 (c_X6_tries l D G ad5 (b5) u5 v67 x144_9 r297 hr297) pz_6_5 pz_6_5.symm (ci := 7) (T := TX6) (N := 5) rfl rfl rfl ⟨Nat.le_of_ble_eq_true rfl, Nat.le_of_ble_eq_true rfl⟩ (Nat.le_of_ble_eq_true rfl) ⟨Nat.le_of_ble_eq_true rfl, Nat.le_of_ble_eq_true rfl⟩ rfl hl.1 hP hD hS dL_same_297 (fun H locs hP hD hS => ?_)
                              refine lv_iconst (v := (-1)) hx hb dL_same_300 (by decide) ?_
                              refine lv_icmp_eq (tgt := 306) hx hb dL_same_301 (by decide) (fun c301 => ?_) (fun c301 => ?_)
                              · replace hf := zi_p hf c301
                                refine lv_iinc (v := (v67 + 1)) (lv' := [(7, .int (v67 + 1)), (0, .ref (ad5 b5)), (1, .int p1), (2, .ref (ad b)), (3, .ref (ad1 b1)), (4, .ref (ad2 b2)), (5, .ref (ad3 b3)), (6, .ref (ad4 b4)), (9, .int x144_9)]) hx hb dL_same_306 hl (k := 7) rfl rfl (by decide) rfl (fun ls hl => ?_)
                                refine lv_goto (tgt := 67) hx hb dL_same_309 (by decide) ?_
                                exact ih67 _ (zk_l hf hz67) _ _ hP hD hS _ (lv_sub hl [1, 2, 3, 4, 5, 6, 7, 0] rfl)
                              · replace hf := zi_n hf c301
                                cases hf
                      refine lv_icmp_le (tgt := 222) hx hb dL_same_215 (by decide) (fun c215 => ?_) (fun c215 => ?_)
                      · replace hf := zi_p hf c215
                        refine lv_iload hx hb dL_same_222 (lv_at hl 8 rfl) ?_
                        refine lv_aload_n hx hb dL_same_224 rfl (lv_at hl 2 rfl) ?_
                        refine lv_bipush (v := 19) hx hb dL_same_225 (by decide) ?_
                        refine z_iald (v := (u 19)) hx hb hK hP 0 0 rfl rfl (z_in rfl) rfl dL_same_227 ?_
                        refine lv_iconst (v := 2) hx hb dL_same_228 (by decide) ?_
                        refine lv_idiv hx hb dL_same_229 (by decide) ?_
                        refine lv_icmp_lt (tgt := 237) hx hb dL_same_230 (by decide) (fun c230 => ?_) (fun c230 => ?_)
                        · replace hf := zi_p hf c230
                          refine lv_iconst (v := 0) hx hb dL_same_237 (by decide) ?_
                          exact J238 0 hf _ _ hP hD hS _ (lv_sub hl [0, 1, 2, 3, 4, 5, 6, 7, 9] rfl)
                        · replace hf := zi_n hf c230
                          refine lv_iconst (v := 1) hx hb dL_same_233 (by decide) ?_
                          refine lv_goto (tgt := 238) hx hb dL_same_234 (by decide) ?_
                          exact J238 1 hf _ _ hP hD hS _ (lv_sub hl [0, 1, 2, 3, 4, 5, 6, 7, 9] rfl)
                      · replace hf := zi_n hf c215
                        refine lv_iconst (v := 2) hx hb dL_same_218 (by decide) ?_
                        refine lv_goto (tgt := 238) hx hb dL_same_219 (by decide) ?_
                        exact J238 2 hf _ _ hP hD hS _ (lv_sub hl [0, 1, 2, 3, 4, 5, 6, 7, 9] rfl)
            replace hf := zb_s hf
            obtain ⟨bb90, hz90, hk90⟩ := hf
            have L90 : ∀ (n90 : Nat) (v90 : Int32 × Int32) (hz90 : zl n90 (q_L_same_L90 u u3 u5 v67) v90 = some bb90) (H : Heap) (locs : List Loc) (hP : va_P D vwCl (wAR G ad b 20 u ++ wAR G ad1 b1 8 u1 ++ wAR G ad2 b2 6 u2 ++ wAR G ad3 b3 20 u3 ++ wAR G ad4 b4 30 u4 ++ wX6 G ad5 b5 u5) H) (hD : va_D A (wAR G ad b 20 u ++ wAR G ad1 b1 8 u1 ++ wAR G ad2 b2 6 u2 ++ wAR G ad3 b3 20 u3 ++ wAR G ad4 b4 30 u4 ++ wX6 G ad5 b5 u5)) (hS : va_S A s.heap H locs) (ls : Array Slot) (hl : lv_has ls 14 [(0, .ref (ad5 b5)), (1, .int p1), (2, .ref (ad b)), (3, .ref (ad1 b1)), (4, .ref (ad2 b2)), (5, .ref (ad3 b3)), (6, .ref (ad4 b4)), (7, .int v67), (8, .int ((u 0) - a80)), (9, .int v90.1), (10, .int v90.2)]), W p l e (zRc 7 171 20 336) s m args below meth c H locs 0 0 Q (F0 m 90 ls []) := by
              intro n90
              induction n90 with
              | zero => intro v90 hz90; exact (zl_0 hz90).elim
              | succ n90 ih90 =>
                intro v90 hz90 H locs hP hD hS ls hl
                obtain ⟨o90, hf, hz90⟩ := zl_s hz90
                unfold q_L_same_L90 at hf
                refine lv_iload hx hb dL_same_90 (lv_at hl 10 rfl) ?_
                refine lv_aload_n hx hb dL_same_92 rfl (lv_at hl 2 rfl) ?_
                refine lv_iconst (v := 2) hx hb dL_same_93 (by decide) ?_
                refine z_iald (v := (u 2)) hx hb hK hP 0 0 rfl rfl (z_in rfl) rfl dL_same_94 ?_
                refine lv_icmp_ge (tgt := 144) hx hb dL_same_95 (by decide) (fun c95 => ?_) (fun c95 => ?_)
                · replace hf := zi_p hf c95
                  have hb90 := (zk_r hf hz90).symm
                  subst hb90
                  replace hf := hk90
                  exact J144 v90.1 hf _ _ hP hD hS _ (lv_sub hl [0, 1, 2, 3, 4, 5, 6, 7, 8, 9] rfl)
                · replace hf := zi_n hf c95
                  refine lv_aload hx hb dL_same_98 (lv_at hl 5 rfl) ?_
                  refine lv_iload hx hb dL_same_100 (lv_at hl 10 rfl) ?_
                  replace hf := zg_s hf
                  obtain ⟨hi102, a102, ea102, hf⟩ := hf
                  refine z_iald hx hb hK hP 3 0 rfl rfl hi102 ea102 dL_same_102 ?_
                  refine lv_bipush (v := 10) hx hb dL_same_103 (by decide) ?_
                  refine lv_idiv hx hb dL_same_105 (by decide) ?_
                  refine lv_iload hx hb dL_same_106 (lv_at hl 7 rfl) ?_
                  refine lv_icmp_eq (tgt := 114) hx hb dL_same_108 (by decide) (fun c108 => ?_) (fun c108 => ?_)
                  · replace hf := zi_p hf c108
                    refine lv_aload_n hx hb dL_same_114 rfl (lv_at hl 0 rfl) ?_
                    refine lv_iload hx hb dL_same_115 (lv_at hl 7 rfl) ?_
                    refine lv_iload hx hb dL_same_117 (lv_at hl 9 rfl) ?_
                    replace hf := zb_s hf
                    obtain ⟨r119, hr119, hf⟩ := hf
                    refine z_GVi (rest := []) C0 kL_59 (c_X6_tries l D G ad5 (b5) u5 v67 v90.1 r119 hr119) pz_6_5 pz_6_5.symm (ci := 7) (T := TX6) (N := 5) rfl rfl rfl ⟨Nat.le_of_ble_eq_true rfl, Nat.le_of_ble_eq_true rfl⟩ (Nat.le_of_ble_eq_true rfl) ⟨Nat.le_of_ble_eq_true rfl, Nat.le_of_ble_eq_true rfl⟩ rfl hl.1 hP hD hS dL_same_119 (fun H locs hP hD hS => ?_)
                    refine lv_aload hx hb dL_same_122 (lv_at hl 5 rfl) ?_
                    refine lv_iload hx hb dL_same_124 (lv_at hl 10 rfl) ?_
                    replace hf := zg_s hf
                    obtain ⟨hi126, a126, ea126, hf⟩ := hf
                    refine z_iald hx hb hK hP 3 0 rfl rfl hi126 ea126 dL_same_126 ?_
                    refine lv_bipush (v := 10) hx hb dL_same_127 (by decide) ?_
                    refine lv_irem hx hb dL_same_129 (by decide) ?_
                    refine lv_icmp_eq (tgt := 135) hx hb dL_same_130 (by decide) (fun c130 => ?_) (fun c130 => ?_)
                    · replace hf := zi_p hf c130
                      refine lv_iinc (v := (v90.1 + 1)) (lv' := [(9, .int (v90.1 + 1)), (0, .ref (ad5 b5)), (1, .int p1), (2, .ref (ad b)), (3, .ref (ad1 b1)), (4, .ref (ad2 b2)), (5, .ref (ad3 b3)), (6, .ref (ad4 b4)), (7, .int v67), (8, .int ((u 0) - a80)), (10, .int v90.2)]) hx hb dL_same_135 hl (k := 9) rfl rfl (by decide) rfl (fun ls hl => ?_)
                      refine lv_iinc (v := (v90.2 + 1)) (lv' := [(10, .int (v90.2 + 1)), (9, .int (v90.1 + 1)), (0, .ref (ad5 b5)), (1, .int p1), (2, .ref (ad b)), (3, .ref (ad1 b1)), (4, .ref (ad2 b2)), (5, .ref (ad3 b3)), (6, .ref (ad4 b4)), (7, .int v67), (8, .int ((u 0) - a80))]) hx hb dL_same_138 hl (k := 10) rfl rfl (by decide) rfl (fun ls hl => ?_)
                      refine lv_goto (tgt := 90) hx hb dL_same_141 (by decide) ?_
                      exact ih90 _ (zk_l hf hz90) _ _ hP hD hS _ (lv_sub hl [2, 3, 4, 5, 6, 7, 8, 9, 10, 1, 0] rfl)
                    · replace hf := zi_n hf c130
                      cases hf
                  · replace hf := zi_n hf c108
                    refine lv_goto (tgt := 138) hx hb dL_same_111 (by decide) ?_
                    refine lv_iinc (v := (v90.2 + 1)) (lv' := [(10, .int (v90.2 + 1)), (0, .ref (ad5 b5)), (1, .int p1), (2, .ref (ad b)), (3, .ref (ad1 b1)), (4, .ref (ad2 b2)), (5, .ref (ad3 b3)), (6, .ref (ad4 b4)), (7, .int v67), (8, .int ((u 0) - a80)), (9, .int v90.1)]) hx hb dL_same_138 hl (k := 10) rfl rfl (by decide) rfl (fun ls hl => ?_)
                    refine lv_goto (tgt := 90) hx hb dL_same_141 (by decide) ?_
                    exact ih90 _ (zk_l hf hz90) _ _ hP hD hS _ (lv_sub hl [1, 2, 3, 4, 5, 6, 7, 8, 9, 10, 0] rfl)
            exact L90 _ _ hz90 _ _ hP hD hS _ (lv_sub hl [3, 4, 5, 6, 7, 8, 9, 10, 2, 1, 0] rfl)
      exact L67 _ _ hz67 _ _ hP hD hS _ (lv_sub hl [1, 2, 3, 4, 5, 6, 7, 0] rfl)
    replace hf := zb_s hf
    obtain ⟨bb34, hz34, hk34⟩ := hf
    have L34 : ∀ (n34 : Nat) (v34 : Int32) (hz34 : zl n34 (q_L_same_L34 u u5) v34 = some bb34) (H : Heap) (locs : List Loc) (hP : va_P D vwCl (wAR G ad b 20 u ++ wAR G ad1 b1 8 u1 ++ wAR G ad2 b2 6 u2 ++ wAR G ad3 b3 20 u3 ++ wAR G ad4 b4 30 u4 ++ wX6 G ad5 b5 u5) H) (hD : va_D A (wAR G ad b 20 u ++ wAR G ad1 b1 8 u1 ++ wAR G ad2 b2 6 u2 ++ wAR G ad3 b3 20 u3 ++ wAR G ad4 b4 30 u4 ++ wX6 G ad5 b5 u5)) (hS : va_S A s.heap H locs) (ls : Array Slot) (hl : lv_has ls 14 [(0, .ref (ad5 b5)), (1, .int p1), (2, .ref (ad b)), (3, .ref (ad1 b1)), (4, .ref (ad2 b2)), (5, .ref (ad3 b3)), (6, .ref (ad4 b4)), (7, .int v34)]), W p l e (zRc 7 171 20 336) s m args below meth c H locs 0 0 Q (F0 m 34 ls []) := by
      intro n34
      induction n34 with
      | zero => intro v34 hz34; exact (zl_0 hz34).elim
      | succ n34 ih34 =>
        intro v34 hz34 H locs hP hD hS ls hl
        obtain ⟨o34, hf, hz34⟩ := zl_s hz34
        unfold q_L_same_L34 at hf
        refine lv_iload hx hb dL_same_34 (lv_at hl 7 rfl) ?_
        refine lv_iconst (v := 5) hx hb dL_same_36 (by decide) ?_
        refine lv_icmp_ge (tgt := 64) hx hb dL_same_37 (by decide) (fun c37 => ?_) (fun c37 => ?_)
        · replace hf := zi_p hf c37
          have hb34 := (zk_r hf hz34).symm
          subst hb34
          replace hf := hk34
          exact J64 hf _ _ hP hD hS _ (lv_sub hl [0, 1, 2, 3, 4, 5, 6] rfl)
        · replace hf := zi_n hf c37
          refine lv_aload_n hx hb dL_same_40 rfl (lv_at hl 0 rfl) ?_
          refine lv_iload hx hb dL_same_41 (lv_at hl 7 rfl) ?_
          replace hf := zb_s hf
          obtain ⟨r43, hr43, hf⟩ := hf
          refine z_GVi (rest := []) C0 kL_56 (c_X6_setting l D G ad5 (b5) u5 v34 r43 hr43) pz_6_5 pz_6_5.symm (ci := 7) (T := TX6) (N := 5) rfl rfl rfl ⟨Nat.le_of_ble_eq_true rfl, Nat.le_of_ble_eq_true rfl⟩ (Nat.le_of_ble_eq_true rfl) ⟨Nat.le_of_ble_eq_true rfl, Nat.le_of_ble_eq_true rfl⟩ rfl hl.1 hP hD hS dL_same_43 (fun H locs hP hD hS => ?_)
          refine lv_aload_n hx hb dL_same_46 rfl (lv_at hl 2 rfl) ?_
          refine lv_bipush (v := 15) hx hb dL_same_47 (by decide) ?_
          refine lv_iload hx hb dL_same_49 (lv_at hl 7 rfl) ?_
          refine lv_iadd hx hb dL_same_51 ?_
          replace hf := zg_s hf
          obtain ⟨hi52, a52, ea52, hf⟩ := hf
          refine z_iald hx hb hK hP 0 0 rfl rfl hi52 ea52 dL_same_52 ?_
          refine lv_icmp_eq (tgt := 58) hx hb dL_same_53 (by decide) (fun c53 => ?_) (fun c53 => ?_)
          · replace hf := zi_p hf c53
            refine lv_iinc (v := (v34 + 1)) (lv' := [(7, .int (v34 + 1)), (0, .ref (ad5 b5)), (1, .int p1), (2, .ref (ad b)), (3, .ref (ad1 b1)), (4, .ref (ad2 b2)), (5, .ref (ad3 b3)), (6, .ref (ad4 b4))]) hx hb dL_same_58 hl (k := 7) rfl rfl (by decide) rfl (fun ls hl => ?_)
            refine lv_goto (tgt := 34) hx hb dL_same_61 (by decide) ?_
            exact ih34 _ (zk_l hf hz34) _ _ hP hD hS _ (lv_sub hl [1, 2, 3, 4, 5, 6, 7, 0] rfl)
          · replace hf := zi_n hf c53
            cases hf
    exact L34 _ _ hz34 _ _ hP hD hS _ (lv_sub hl [1, 2, 3, 4, 5, 6, 7, 0] rfl)
  replace hf := zb_s hf
  obtain ⟨bb3, hz3, hk3⟩ := hf
  have L3 : ∀ (n3 : Nat) (v3 : Int32) (hz3 : zl n3 (q_L_same_L3 u u5) v3 = some bb3) (H : Heap) (locs : List Loc) (hP : va_P D vwCl (wAR G ad b 20 u ++ wAR G ad1 b1 8 u1 ++ wAR G ad2 b2 6 u2 ++ wAR G ad3 b3 20 u3 ++ wAR G ad4 b4 30 u4 ++ wX6 G ad5 b5 u5) H) (hD : va_D A (wAR G ad b 20 u ++ wAR G ad1 b1 8 u1 ++ wAR G ad2 b2 6 u2 ++ wAR G ad3 b3 20 u3 ++ wAR G ad4 b4 30 u4 ++ wX6 G ad5 b5 u5)) (hS : va_S A s.heap H locs) (ls : Array Slot) (hl : lv_has ls 14 [(0, .ref (ad5 b5)), (1, .int p1), (2, .ref (ad b)), (3, .ref (ad1 b1)), (4, .ref (ad2 b2)), (5, .ref (ad3 b3)), (6, .ref (ad4 b4)), (7, .int v3)]), W p l e (zRc 7 171 20 336) s m args below meth c H locs 0 0 Q (F0 m 3 ls []) := by
    intro n3
    induction n3 with
    | zero => intro v3 hz3; exact (zl_0 hz3).elim
    | succ n3 ih3 =>
      intro v3 hz3 H locs hP hD hS ls hl
      obtain ⟨o3, hf, hz3⟩ := zl_s hz3
      unfold q_L_same_L3 at hf
      refine lv_iload hx hb dL_same_3 (lv_at hl 7 rfl) ?_
      refine lv_bipush (v := 13) hx hb dL_same_5 (by decide) ?_
      refine lv_icmp_ge (tgt := 31) hx hb dL_same_7 (by decide) (fun c7 => ?_) (fun c7 => ?_)
      · replace hf := zi_p hf c7
        have hb3 := (zk_r hf hz3).symm
        subst hb3
        replace hf := hk3
        exact J31 hf _ _ hP hD hS _ (lv_sub hl [0, 1, 2, 3, 4, 5, 6] rfl)
      · replace hf := zi_n hf c7
        refine lv_aload_n hx hb dL_same_10 rfl (lv_at hl 0 rfl) ?_
        refine lv_iload hx hb dL_same_11 (lv_at hl 7 rfl) ?_
        replace hf := zb_s hf
        obtain ⟨r13, hr13, hf⟩ := hf
        refine z_GVi (rest := []) C0 kL_50 (c_X6_count l D G ad5 (b5) u5 v3 r13 hr13) pz_6_5 pz_6_5.symm (ci := 7) (T := TX6) (N := 5) rfl rfl rfl ⟨Nat.le_of_ble_eq_true rfl, Nat.le_of_ble_eq_true rfl⟩ (Nat.le_of_ble_eq_true rfl) ⟨Nat.le_of_ble_eq_true rfl, Nat.le_of_ble_eq_true rfl⟩ rfl hl.1 hP hD hS dL_same_13 (fun H locs hP hD hS => ?_)
        refine lv_aload_n hx hb dL_same_16 rfl (lv_at hl 2 rfl) ?_
        refine lv_iload hx hb dL_same_17 (lv_at hl 7 rfl) ?_
        replace hf := zg_s hf
        obtain ⟨hi19, a19, ea19, hf⟩ := hf
        refine z_iald hx hb hK hP 0 0 rfl rfl hi19 ea19 dL_same_19 ?_
        refine lv_icmp_eq (tgt := 25) hx hb dL_same_20 (by decide) (fun c20 => ?_) (fun c20 => ?_)
        · replace hf := zi_p hf c20
          refine lv_iinc (v := (v3 + 1)) (lv' := [(7, .int (v3 + 1)), (0, .ref (ad5 b5)), (1, .int p1), (2, .ref (ad b)), (3, .ref (ad1 b1)), (4, .ref (ad2 b2)), (5, .ref (ad3 b3)), (6, .ref (ad4 b4))]) hx hb dL_same_25 hl (k := 7) rfl rfl (by decide) rfl (fun ls hl => ?_)
          refine lv_goto (tgt := 3) hx hb dL_same_28 (by decide) ?_
          exact ih3 _ (zk_l hf hz3) _ _ hP hD hS _ (lv_sub hl [1, 2, 3, 4, 5, 6, 7, 0] rfl)
        · replace hf := zi_n hf c20
          cases hf
  exact L3 _ _ hz3 _ _ hP hD hS _ (lv_sub hl [1, 2, 3, 4, 5, 6, 7, 0] rfl)
