theorem kL_32 : zLkS RL 32 yL_late cL_late 4 (some .int) 2 := ⟨⟨wd_394, wd_395, wd_122, wd_396⟩, by decide +kernel⟩
theorem kL_28 : zLkS RL 28 yL_tick cL_tick 8 (some .int) 5 := ⟨⟨wd_247, wd_248, wd_122, wd_249⟩, by decide +kernel⟩
noncomputable def q_L_then_J143 (p2 : Int32) (w143_0 : Nat → Int32) (w143_1 : Nat → Int32) (w143_2 : Nat → Int32) (w143_3 : Nat → Int32) (w143_4 : Nat → Int32) : Option (Int32) :=
  (if p2 < 0 then zb (q_L_late w143_0 w143_1) fun r156 => some (r156) else some ((-6)))
noncomputable def q_L_then_L107 (p0 : Int32) (p2 : Int32) (v107 : Int32 × (Nat → Int32) × (Nat → Int32) × (Nat → Int32) × (Nat → Int32) × (Nat → Int32)) : Option ((Int32 × (Nat → Int32) × (Nat → Int32) × (Nat → Int32) × (Nat → Int32) × (Nat → Int32)) ⊕ ((((Nat → Int32) × (Nat → Int32) × (Nat → Int32) × (Nat → Int32) × (Nat → Int32)) ⊕ (Int32 × (Nat → Int32) × (Nat → Int32) × (Nat → Int32) × (Nat → Int32) × (Nat → Int32))))) :=
  (if p0 < v107.1 then some (Sum.inr (Sum.inl (v107.2.1, v107.2.2.1, v107.2.2.2.1, v107.2.2.2.2.1, v107.2.2.2.2.2))) else zb (q_L_tick v107.2.1 v107.2.2.1 v107.2.2.2.1 v107.2.2.2.2.1 v107.2.2.2.2.2) fun r123 => (if r123.1 = p2 then (if p2 < 0 then some (Sum.inl ((v107.1 + 1), r123.2.1, r123.2.2.1, r123.2.2.2.1, r123.2.2.2.2.1, r123.2.2.2.2.2)) else some (Sum.inr (Sum.inr (v107.1, r123.2.1, r123.2.2.1, r123.2.2.2.1, r123.2.2.2.2.1, r123.2.2.2.2.2)))) else some (Sum.inl ((v107.1 + 1), r123.2.1, r123.2.2.1, r123.2.2.2.1, r123.2.2.2.2.1, r123.2.2.2.2.2))))
noncomputable def q_L_then_J99 (p0 : Int32) (p1 : Int32) (p2 : Int32) (w99_0 : Nat → Int32) (w99_1 : Nat → Int32) (w99_2 : Nat → Int32) (w99_3 : Nat → Int32) : Option (Int32) :=
  zn (upd w99_0 4 p1) fun s103 => zb (zl 1000000 (q_L_then_L107 p0 p2) (1, s103, w99_1, w99_2, w99_3, (fun _ => 0))) (zm (fun e107_0 => q_L_then_J143 p2 e107_0.1 e107_0.2.1 e107_0.2.2.1 e107_0.2.2.2.1 e107_0.2.2.2.2) (fun e107_1 => some (e107_1.1)))
noncomputable def q_L_then_J76 (u2 : Nat → Int32) (v33 : Int32 × (Nat → Int32) × (Nat → Int32) × (Nat → Int32) × (Nat → Int32)) (s48 : Nat → Int32) (s58 : Nat → Int32) (w76_0 : Nat → Int32) : Option ((Int32 × (Nat → Int32) × (Nat → Int32) × (Nat → Int32) × (Nat → Int32)) ⊕ ((Nat → Int32) × (Nat → Int32) × (Nat → Int32) × (Nat → Int32))) :=
  (if 6 ≤ v33.1 then some (Sum.inl ((v33.1 + 1), s48, w76_0, v33.2.2.2.1, s58)) else zg 6 u2 v33.1 fun a91 => zs 6 v33.2.2.2.1 v33.1 a91 fun s92 => some (Sum.inl ((v33.1 + 1), s48, w76_0, s92, s58)))
noncomputable def q_L_then_L33 (u : Nat → Int32) (u1 : Nat → Int32) (u2 : Nat → Int32) (u3 : Nat → Int32) (v33 : Int32 × (Nat → Int32) × (Nat → Int32) × (Nat → Int32) × (Nat → Int32)) : Option ((Int32 × (Nat → Int32) × (Nat → Int32) × (Nat → Int32) × (Nat → Int32)) ⊕ ((Nat → Int32) × (Nat → Int32) × (Nat → Int32) × (Nat → Int32))) :=
  (if 20 ≤ v33.1 then some (Sum.inr (v33.2.1, v33.2.2.1, v33.2.2.2.1, v33.2.2.2.2)) else zg 20 u v33.1 fun a47 => zs 20 v33.2.1 v33.1 a47 fun s48 => zg 20 u3 v33.1 fun a57 => zs 20 v33.2.2.2.2 v33.1 a57 fun s58 => (if 8 ≤ v33.1 then q_L_then_J76 u2 v33 s48 s58 v33.2.2.1 else zg 8 u1 v33.1 fun a74 => zs 8 v33.2.2.1 v33.1 a74 fun s75 => q_L_then_J76 u2 v33 s48 s58 s75))
noncomputable def q_L_then (u : Nat → Int32) (u1 : Nat → Int32) (u2 : Nat → Int32) (u3 : Nat → Int32) (p0 : Int32) (p1 : Int32) (p2 : Int32) : Option (Int32) :=
  zb (zl 1000000 (q_L_then_L33 u u1 u2 u3) (0, (fun _ => 0), (fun _ => 0), (fun _ => 0), (fun _ => 0))) (fun bb33 => q_L_then_J99 p0 p1 p2 bb33.1 bb33.2.1 bb33.2.2.1 bb33.2.2.2)
set_option maxRecDepth 100000 in
set_option maxHeartbeats 8000000 in
theorem c_L_then (l : Launch) (D : va_G) (G : zG) (ad : Nat → Nat) (b : Nat) (ad1 : Nat → Nat) (b1 : Nat) (ad2 : Nat → Nat) (b2 : Nat) (ad3 : Nat → Nat) (b3 : Nat) (u : Nat → Int32) (u1 : Nat → Int32) (u2 : Nat → Int32) (u3 : Nat → Int32) (p0 : Int32) (p1 : Int32) (p2 : Int32) (res : Int32) (hf : q_L_then u u1 u2 u3 p0 p1 p2 = some res) : zMk l yL_then cL_then 13 (some .int) 3 80 5 84 D G (wAR G ad b 20 u ++ wAR G ad1 b1 8 u1 ++ wAR G ad2 b2 6 u2 ++ wAR G ad3 b3 20 u3) (wAR G ad b 20 u ++ wAR G ad1 b1 8 u1 ++ wAR G ad2 b2 6 u2 ++ wAR G ad3 b3 20 u3) [.int p0, .int p1, .int p2, .ref (ad b), .ref (ad1 b1), .ref (ad2 b2), .ref (ad3 b3)] res := by
  refine zs_k (by decide +kernel) (Nat.le_of_ble_eq_true rfl) ?_
  intro p e s m args below meth c A Q H ls C0 hret hP hD hS hl
  obtain ⟨hx, hb, hml, hown, hW, hK, hlocks, hF, hr, hA⟩ := id C0
  replace hl : lv_has ls 13 [(0, .int p0), (1, .int p1), (2, .int p2), (3, .ref (ad b)), (4, .ref (ad1 b1)), (5, .ref (ad2 b2)), (6, .ref (ad3 b3))] := hl
  unfold q_L_then at hf
  refine lv_bipush (v := 20) hx hb dL_then_0 (by decide) ?_
  refine z_newa (atype := .int) (ty := .int) (a0 := (20, .inl (fun _ => 0))) (N' := 20) 0 hx hb hW wd_3 rfl rfl (fun _ h => h) hK hP hD hS hA (fun _ => rfl) (by decide) (by decide) (Nat.le_of_ble_eq_true rfl) (Nat.le_of_ble_eq_true rfl) (Nat.le_of_ble_eq_true rfl) dL_then_2 (fun q2 H hP hD hS => ?_)
  obtain ⟨ad4, e2, hP, hD⟩ : ∃ ad4 : Nat → Nat, ad4 0 = q2 ∧ va_P D vwCl (wAR G ad b 20 u ++ wAR G ad1 b1 8 u1 ++ wAR G ad2 b2 6 u2 ++ wAR G ad3 b3 20 u3 ++ wAR G ad4 0 20 (fun _ => 0)) H ∧ va_D A (wAR G ad b 20 u ++ wAR G ad1 b1 8 u1 ++ wAR G ad2 b2 6 u2 ++ wAR G ad3 b3 20 u3 ++ wAR G ad4 0 20 (fun _ => 0)) := ⟨fun _ => q2, rfl, hP, hD⟩
  subst e2
  refine lv_astore (lv' := [(7, .ref (ad4 0)), (0, .int p0), (1, .int p1), (2, .int p2), (3, .ref (ad b)), (4, .ref (ad1 b1)), (5, .ref (ad2 b2)), (6, .ref (ad3 b3))]) hx hb dL_then_4 hl (by decide) rfl (fun ls hl => ?_)
  refine lv_bipush (v := 8) hx hb dL_then_6 (by decide) ?_
  refine z_newa (atype := .int) (ty := .int) (a0 := (8, .inl (fun _ => 0))) (N' := 8) 0 hx hb hW wd_3 rfl rfl (fun _ h => h) hK hP hD hS hA (fun _ => rfl) (by decide) (by decide) (Nat.le_of_ble_eq_true rfl) (Nat.le_of_ble_eq_true rfl) (Nat.le_of_ble_eq_true rfl) dL_then_8 (fun q8 H hP hD hS => ?_)
  obtain ⟨ad5, e8, hP, hD⟩ : ∃ ad5 : Nat → Nat, ad5 0 = q8 ∧ va_P D vwCl (wAR G ad b 20 u ++ wAR G ad1 b1 8 u1 ++ wAR G ad2 b2 6 u2 ++ wAR G ad3 b3 20 u3 ++ wAR G ad4 0 20 (fun _ => 0) ++ wAR G ad5 0 8 (fun _ => 0)) H ∧ va_D A (wAR G ad b 20 u ++ wAR G ad1 b1 8 u1 ++ wAR G ad2 b2 6 u2 ++ wAR G ad3 b3 20 u3 ++ wAR G ad4 0 20 (fun _ => 0) ++ wAR G ad5 0 8 (fun _ => 0)) := ⟨fun _ => q8, rfl, hP, hD⟩
  subst e8
  refine lv_astore (lv' := [(8, .ref (ad5 0)), (7, .ref (ad4 0)), (0, .int p0), (1, .int p1), (2, .int p2), (3, .ref (ad b)), (4, .ref (ad1 b1)), (5, .ref (ad2 b2)), (6, .ref (ad3 b3))]) hx hb dL_then_10 hl (by decide) rfl (fun ls hl => ?_)
  refine lv_bipush (v := 6) hx hb dL_then_12 (by decide) ?_
  refine z_newa (atype := .int) (ty := .int) (a0 := (6, .inl (fun _ => 0))) (N' := 6) 0 hx hb hW wd_3 rfl rfl (fun _ h => h) hK hP hD hS hA (fun _ => rfl) (by decide) (by decide) (Nat.le_of_ble_eq_true rfl) (Nat.le_of_ble_eq_true rfl) (Nat.le_of_ble_eq_true rfl) dL_then_14 (fun q14 H hP hD hS => ?_)
  obtain ⟨ad6, e14, hP, hD⟩ : ∃ ad6 : Nat → Nat, ad6 0 = q14 ∧ va_P D vwCl (wAR G ad b 20 u ++ wAR G ad1 b1 8 u1 ++ wAR G ad2 b2 6 u2 ++ wAR G ad3 b3 20 u3 ++ wAR G ad4 0 20 (fun _ => 0) ++ wAR G ad5 0 8 (fun _ => 0) ++ wAR G ad6 0 6 (fun _ => 0)) H ∧ va_D A (wAR G ad b 20 u ++ wAR G ad1 b1 8 u1 ++ wAR G ad2 b2 6 u2 ++ wAR G ad3 b3 20 u3 ++ wAR G ad4 0 20 (fun _ => 0) ++ wAR G ad5 0 8 (fun _ => 0) ++ wAR G ad6 0 6 (fun _ => 0)) := ⟨fun _ => q14, rfl, hP, hD⟩
  subst e14
  refine lv_astore (lv' := [(9, .ref (ad6 0)), (8, .ref (ad5 0)), (7, .ref (ad4 0)), (0, .int p0), (1, .int p1), (2, .int p2), (3, .ref (ad b)), (4, .ref (ad1 b1)), (5, .ref (ad2 b2)), (6, .ref (ad3 b3))]) hx hb dL_then_16 hl (by decide) rfl (fun ls hl => ?_)
  refine lv_bipush (v := 20) hx hb dL_then_18 (by decide) ?_
  refine z_newa (atype := .int) (ty := .int) (a0 := (20, .inl (fun _ => 0))) (N' := 20) 0 hx hb hW wd_3 rfl rfl (fun _ h => h) hK hP hD hS hA (fun _ => rfl) (by decide) (by decide) (Nat.le_of_ble_eq_true rfl) (Nat.le_of_ble_eq_true rfl) (Nat.le_of_ble_eq_true rfl) dL_then_20 (fun q20 H hP hD hS => ?_)
  obtain ⟨ad7, e20, hP, hD⟩ : ∃ ad7 : Nat → Nat, ad7 0 = q20 ∧ va_P D vwCl (wAR G ad b 20 u ++ wAR G ad1 b1 8 u1 ++ wAR G ad2 b2 6 u2 ++ wAR G ad3 b3 20 u3 ++ wAR G ad4 0 20 (fun _ => 0) ++ wAR G ad5 0 8 (fun _ => 0) ++ wAR G ad6 0 6 (fun _ => 0) ++ wAR G ad7 0 20 (fun _ => 0)) H ∧ va_D A (wAR G ad b 20 u ++ wAR G ad1 b1 8 u1 ++ wAR G ad2 b2 6 u2 ++ wAR G ad3 b3 20 u3 ++ wAR G ad4 0 20 (fun _ => 0) ++ wAR G ad5 0 8 (fun _ => 0) ++ wAR G ad6 0 6 (fun _ => 0) ++ wAR G ad7 0 20 (fun _ => 0)) := ⟨fun _ => q20, rfl, hP, hD⟩
  subst e20
  refine lv_astore (lv' := [(10, .ref (ad7 0)), (9, .ref (ad6 0)), (8, .ref (ad5 0)), (7, .ref (ad4 0)), (0, .int p0), (1, .int p1), (2, .int p2), (3, .ref (ad b)), (4, .ref (ad1 b1)), (5, .ref (ad2 b2)), (6, .ref (ad3 b3))]) hx hb dL_then_22 hl (by decide) rfl (fun ls hl => ?_)
  refine lv_bipush (v := 30) hx hb dL_then_24 (by decide) ?_
  refine z_newa (atype := .int) (ty := .int) (a0 := (30, .inl (fun _ => 0))) (N' := 30) 0 hx hb hW wd_3 rfl rfl (fun _ h => h) hK hP hD hS hA (fun _ => rfl) (by decide) (by decide) (Nat.le_of_ble_eq_true rfl) (Nat.le_of_ble_eq_true rfl) (Nat.le_of_ble_eq_true rfl) dL_then_26 (fun q26 H hP hD hS => ?_)
  obtain ⟨ad8, e26, hP, hD⟩ : ∃ ad8 : Nat → Nat, ad8 0 = q26 ∧ va_P D vwCl (wAR G ad b 20 u ++ wAR G ad1 b1 8 u1 ++ wAR G ad2 b2 6 u2 ++ wAR G ad3 b3 20 u3 ++ wAR G ad4 0 20 (fun _ => 0) ++ wAR G ad5 0 8 (fun _ => 0) ++ wAR G ad6 0 6 (fun _ => 0) ++ wAR G ad7 0 20 (fun _ => 0) ++ wAR G ad8 0 30 (fun _ => 0)) H ∧ va_D A (wAR G ad b 20 u ++ wAR G ad1 b1 8 u1 ++ wAR G ad2 b2 6 u2 ++ wAR G ad3 b3 20 u3 ++ wAR G ad4 0 20 (fun _ => 0) ++ wAR G ad5 0 8 (fun _ => 0) ++ wAR G ad6 0 6 (fun _ => 0) ++ wAR G ad7 0 20 (fun _ => 0) ++ wAR G ad8 0 30 (fun _ => 0)) := ⟨fun _ => q26, rfl, hP, hD⟩
  subst e26
  refine lv_astore (lv' := [(11, .ref (ad8 0)), (10, .ref (ad7 0)), (9, .ref (ad6 0)), (8, .ref (ad5 0)), (7, .ref (ad4 0)), (0, .int p0), (1, .int p1), (2, .int p2), (3, .ref (ad b)), (4, .ref (ad1 b1)), (5, .ref (ad2 b2)), (6, .ref (ad3 b3))]) hx hb dL_then_28 hl (by decide) rfl (fun ls hl => ?_)
  refine lv_iconst (v := 0) hx hb dL_then_30 (by decide) ?_
  refine lv_istore (lv' := [(12, .int 0), (11, .ref (ad8 0)), (10, .ref (ad7 0)), (9, .ref (ad6 0)), (8, .ref (ad5 0)), (7, .ref (ad4 0)), (0, .int p0), (1, .int p1), (2, .int p2), (3, .ref (ad b)), (4, .ref (ad1 b1)), (5, .ref (ad2 b2)), (6, .ref (ad3 b3))]) hx hb dL_then_31 hl (by decide) rfl (fun ls hl => ?_)
  have J99 : ∀ (w99_0 : Nat → Int32) (w99_1 : Nat → Int32) (w99_2 : Nat → Int32) (w99_3 : Nat → Int32) (hf : q_L_then_J99 p0 p1 p2 w99_0 w99_1 w99_2 w99_3 = some res) (H : Heap) (locs : List Loc) (hP : va_P D vwCl (wAR G ad b 20 u ++ wAR G ad1 b1 8 u1 ++ wAR G ad2 b2 6 u2 ++ wAR G ad3 b3 20 u3 ++ wAR G ad4 0 20 w99_0 ++ wAR G ad5 0 8 w99_1 ++ wAR G ad6 0 6 w99_2 ++ wAR G ad7 0 20 w99_3 ++ wAR G ad8 0 30 (fun _ => 0)) H) (hD : va_D A (wAR G ad b 20 u ++ wAR G ad1 b1 8 u1 ++ wAR G ad2 b2 6 u2 ++ wAR G ad3 b3 20 u3 ++ wAR G ad4 0 20 w99_0 ++ wAR G ad5 0 8 w99_1 ++ wAR G ad6 0 6 w99_2 ++ wAR G ad7 0 20 w99_3 ++ wAR G ad8 0 30 (fun _ => 0))) (hS : va_S A s.heap H locs) (ls : Array Slot) (hl : lv_has ls 13 [(0, .int p0), (1, .int p1), (2, .int p2), (7, .ref (ad4 0)), (8, .ref (ad5 0)), (9, .ref (ad6 0)), (10, .ref (ad7 0)), (11, .ref (ad8 0))]), W p l e (zRc 3 80 5 84) s m args below meth c H locs (0 + 1 + 1 + 1 + 1 + 1) (0 + 20 + 8 + 6 + 20 + 30) Q (F0 m 99 ls []) := by
    intro w99_0 w99_1 w99_2 w99_3 hf H locs hP hD hS ls hl
    unfold q_L_then_J99 at hf
    refine lv_aload hx hb dL_then_99 (lv_at hl 3 rfl) ?_
    refine lv_iconst (v := 4) hx hb dL_then_101 (by decide) ?_
    refine lv_iload_n hx hb dL_then_102 rfl (lv_at hl 1 rfl) ?_
    replace hf := zn_s hf
    obtain ⟨s103, es103, hf⟩ := hf
    refine z_iast (ws' := wAR G ad b 20 u ++ wAR G ad1 b1 8 u1 ++ wAR G ad2 b2 6 u2 ++ wAR G ad3 b3 20 u3 ++ wAR G ad4 0 20 s103 ++ wAR G ad5 0 8 w99_1 ++ wAR G ad6 0 6 w99_2 ++ wAR G ad7 0 20 w99_3 ++ wAR G ad8 0 30 (fun _ => 0)) hx hb hK hP hD hS 4 0 rfl rfl (z_in rfl) es103 rfl dL_then_103 (fun H locs hP hD hS => ?_)
    refine lv_iconst (v := 1) hx hb dL_then_104 (by decide) ?_
    refine lv_istore (lv' := [(12, .int 1), (0, .int p0), (1, .int p1), (2, .int p2), (7, .ref (ad4 0)), (8, .ref (ad5 0)), (9, .ref (ad6 0)), (10, .ref (ad7 0)), (11, .ref (ad8 0))]) hx hb dL_then_105 hl (by decide) rfl (fun ls hl => ?_)
    have J143 : ∀ (w143_0 : Nat → Int32) (w143_1 : Nat → Int32) (w143_2 : Nat → Int32) (w143_3 : Nat → Int32) (w143_4 : Nat → Int32) (hf : q_L_then_J143 p2 w143_0 w143_1 w143_2 w143_3 w143_4 = some res) (H : Heap) (locs : List Loc) (hP : va_P D vwCl (wAR G ad b 20 u ++ wAR G ad1 b1 8 u1 ++ wAR G ad2 b2 6 u2 ++ wAR G ad3 b3 20 u3 ++ wAR G ad4 0 20 w143_0 ++ wAR G ad5 0 8 w143_1 ++ wAR G ad6 0 6 w143_2 ++ wAR G ad7 0 20 w143_3 ++ wAR G ad8 0 30 w143_4) H) (hD : va_D A (wAR G ad b 20 u ++ wAR G ad1 b1 8 u1 ++ wAR G ad2 b2 6 u2 ++ wAR G ad3 b3 20 u3 ++ wAR G ad4 0 20 w143_0 ++ wAR G ad5 0 8 w143_1 ++ wAR G ad6 0 6 w143_2 ++ wAR G ad7 0 20 w143_3 ++ wAR G ad8 0 30 w143_4)) (hS : va_S A s.heap H locs) (ls : Array Slot) (hl : lv_has ls 13 [(2, .int p2), (7, .ref (ad4 0)), (8, .ref (ad5 0))]), W p l e (zRc 3 80 5 84) s m args below meth c H locs (0 + 1 + 1 + 1 + 1 + 1) (0 + 20 + 8 + 6 + 20 + 30) Q (F0 m 143 ls []) := by
      intro w143_0 w143_1 w143_2 w143_3 w143_4 hf H locs hP hD hS ls hl
      unfold q_L_then_J143 at hf
      refine lv_iload_n hx hb dL_then_143 rfl (lv_at hl 0 rfl) ?_
      refine lv_if_lt (tgt := 152) hx hb dL_then_144 (by decide) (fun c144 => ?_) (fun c144 => ?_)
      · replace hf := zi_p hf c144
        refine lv_aload hx hb dL_then_152 (lv_at hl 1 rfl) ?_
        refine lv_aload hx hb dL_then_154 (lv_at hl 2 rfl) ?_
        replace hf := zb_s hf
        obtain ⟨r156, hr156, hf⟩ := hf
        refine z_GSi (rest := []) C0 kL_32 (c_L_late l D G ad4 (0) ad5 (0) w143_0 w143_1 r156 hr156) pz_9_4_5 pz_9_4_5.symm rfl ⟨Nat.le_of_ble_eq_true rfl, Nat.le_of_ble_eq_true rfl⟩ (Nat.le_of_ble_eq_true rfl) ⟨Nat.le_of_ble_eq_true rfl, Nat.le_of_ble_eq_true rfl⟩ rfl hl.1 hP hD hS dL_then_156 (fun H locs hP hD hS => ?_)
        obtain rfl := zo hf
        exact hret _ _ _ _ _ _ _ (Nat.le_of_ble_eq_true rfl) (Nat.le_of_ble_eq_true rfl) (zP_left (zP_left (zP_left (zP_left (zP_left hP))))) (zD_left (zD_left (zD_left (zD_left (zD_left hD))))) hS rfl rfl dL_then_159
      · replace hf := zi_n hf c144
        refine lv_bipush (v := (-6)) hx hb dL_then_147 (by decide) ?_
        refine lv_goto (tgt := 159) hx hb dL_then_149 (by decide) ?_
        obtain rfl := zo hf
        exact hret _ _ _ _ _ _ _ (Nat.le_of_ble_eq_true rfl) (Nat.le_of_ble_eq_true rfl) (zP_left (zP_left (zP_left (zP_left (zP_left hP))))) (zD_left (zD_left (zD_left (zD_left (zD_left hD))))) hS rfl rfl dL_then_159
    replace hf := zb_s hf
    obtain ⟨bb107, hz107, hk107⟩ := hf
    have L107 : ∀ (n107 : Nat) (v107 : Int32 × (Nat → Int32) × (Nat → Int32) × (Nat → Int32) × (Nat → Int32) × (Nat → Int32)) (hz107 : zl n107 (q_L_then_L107 p0 p2) v107 = some bb107) (H : Heap) (locs : List Loc) (hP : va_P D vwCl (wAR G ad b 20 u ++ wAR G ad1 b1 8 u1 ++ wAR G ad2 b2 6 u2 ++ wAR G ad3 b3 20 u3 ++ wAR G ad4 0 20 v107.2.1 ++ wAR G ad5 0 8 v107.2.2.1 ++ wAR G ad6 0 6 v107.2.2.2.1 ++ wAR G ad7 0 20 v107.2.2.2.2.1 ++ wAR G ad8 0 30 v107.2.2.2.2.2) H) (hD : va_D A (wAR G ad b 20 u ++ wAR G ad1 b1 8 u1 ++ wAR G ad2 b2 6 u2 ++ wAR G ad3 b3 20 u3 ++ wAR G ad4 0 20 v107.2.1 ++ wAR G ad5 0 8 v107.2.2.1 ++ wAR G ad6 0 6 v107.2.2.2.1 ++ wAR G ad7 0 20 v107.2.2.2.2.1 ++ wAR G ad8 0 30 v107.2.2.2.2.2)) (hS : va_S A s.heap H locs) (ls : Array Slot) (hl : lv_has ls 13 [(0, .int p0), (2, .int p2), (7, .ref (ad4 0)), (8, .ref (ad5 0)), (9, .ref (ad6 0)), (10, .ref (ad7 0)), (11, .ref (ad8 0)), (12, .int v107.1)]), W p l e (zRc 3 80 5 84) s m args below meth c H locs (0 + 1 + 1 + 1 + 1 + 1) (0 + 20 + 8 + 6 + 20 + 30) Q (F0 m 107 ls []) := by
      intro n107
      induction n107 with
      | zero => intro v107 hz107; exact (zl_0 hz107).elim
      | succ n107 ih107 =>
        intro v107 hz107 H locs hP hD hS ls hl
        obtain ⟨o107, hf, hz107⟩ := zl_s hz107
        unfold q_L_then_L107 at hf
        refine lv_iload hx hb dL_then_107 (lv_at hl 7 rfl) ?_
        refine lv_iload_n hx hb dL_then_109 rfl (lv_at hl 0 rfl) ?_
        refine lv_icmp_gt (tgt := 143) hx hb dL_then_110 (by decide) (fun c110 => ?_) (fun c110 => ?_)
        · replace hf := zi_p hf c110
          have hb107 := (zk_r hf hz107).symm
          subst hb107
          replace hf := (zm_l hk107)
          exact J143 v107.2.1 v107.2.2.1 v107.2.2.2.1 v107.2.2.2.2.1 v107.2.2.2.2.2 hf _ _ hP hD hS _ (lv_sub hl [1, 2, 3] rfl)
        · replace hf := zi_n hf c110
          refine lv_aload hx hb dL_then_113 (lv_at hl 2 rfl) ?_
          refine lv_aload hx hb dL_then_115 (lv_at hl 3 rfl) ?_
          refine lv_aload hx hb dL_then_117 (lv_at hl 4 rfl) ?_
          refine lv_aload hx hb dL_then_119 (lv_at hl 5 rfl) ?_
          refine lv_aload hx hb dL_then_121 (lv_at hl 6 rfl) ?_
          replace hf := zb_s hf
          obtain ⟨r123, hr123, hf⟩ := hf
          refine z_GSi (rest := []) C0 kL_28 (c_L_tick l D G ad4 (0) ad5 (0) ad6 (0) ad7 (0) ad8 (0) v107.2.1 v107.2.2.1 v107.2.2.2.1 v107.2.2.2.2.1 v107.2.2.2.2.2 r123 hr123) pz_9_4_5_6_7_8 pz_9_4_5_6_7_8.symm rfl ⟨Nat.le_of_ble_eq_true rfl, Nat.le_of_ble_eq_true rfl⟩ (Nat.le_of_ble_eq_true rfl) ⟨Nat.le_of_ble_eq_true rfl, Nat.le_of_ble_eq_true rfl⟩ rfl hl.1 hP hD hS dL_then_123 (fun H locs hP hD hS => ?_)
          replace hP : va_P D vwCl (wAR G ad b 20 u ++ wAR G ad1 b1 8 u1 ++ wAR G ad2 b2 6 u2 ++ wAR G ad3 b3 20 u3 ++ wAR G ad4 0 20 r123.2.1 ++ wAR G ad5 0 8 r123.2.2.1 ++ wAR G ad6 0 6 r123.2.2.2.1 ++ wAR G ad7 0 20 r123.2.2.2.2.1 ++ wAR G ad8 0 30 r123.2.2.2.2.2) H := hP
          replace hD : va_D A (wAR G ad b 20 u ++ wAR G ad1 b1 8 u1 ++ wAR G ad2 b2 6 u2 ++ wAR G ad3 b3 20 u3 ++ wAR G ad4 0 20 r123.2.1 ++ wAR G ad5 0 8 r123.2.2.1 ++ wAR G ad6 0 6 r123.2.2.2.1 ++ wAR G ad7 0 20 r123.2.2.2.2.1 ++ wAR G ad8 0 30 r123.2.2.2.2.2) := hD
          refine lv_iload_n hx hb dL_then_126 rfl (lv_at hl 1 rfl) ?_
          refine lv_icmp_ne (tgt := 137) hx hb dL_then_127 (by decide) (fun c127 => ?_) (fun c127 => ?_)
          · replace hf := zi_n hf c127
            refine lv_iinc (v := (v107.1 + 1)) (lv' := [(12, .int (v107.1 + 1)), (0, .int p0), (2, .int p2), (7, .ref (ad4 0)), (8, .ref (ad5 0)), (9, .ref (ad6 0)), (10, .ref (ad7 0)), (11, .ref (ad8 0))]) hx hb dL_then_137 hl (k := 7) rfl rfl (by decide) rfl (fun ls hl => ?_)
            refine lv_goto (tgt := 107) hx hb dL_then_140 (by decide) ?_
            exact ih107 _ (zk_l hf hz107) _ _ hP hD hS _ (lv_sub hl [1, 2, 3, 4, 5, 6, 7, 0] rfl)
          · replace hf := zi_p hf c127
            refine lv_iload_n hx hb dL_then_130 rfl (lv_at hl 1 rfl) ?_
            refine lv_if_lt (tgt := 137) hx hb dL_then_131 (by decide) (fun c131 => ?_) (fun c131 => ?_)
            · replace hf := zi_p hf c131
              refine lv_iinc (v := (v107.1 + 1)) (lv' := [(12, .int (v107.1 + 1)), (0, .int p0), (2, .int p2), (7, .ref (ad4 0)), (8, .ref (ad5 0)), (9, .ref (ad6 0)), (10, .ref (ad7 0)), (11, .ref (ad8 0))]) hx hb dL_then_137 hl (k := 7) rfl rfl (by decide) rfl (fun ls hl => ?_)
              refine lv_goto (tgt := 107) hx hb dL_then_140 (by decide) ?_
              exact ih107 _ (zk_l hf hz107) _ _ hP hD hS _ (lv_sub hl [1, 2, 3, 4, 5, 6, 7, 0] rfl)
            · replace hf := zi_n hf c131
              have hb107 := (zk_r hf hz107).symm
              subst hb107
              replace hf := (zm_r hk107)
              refine lv_iload hx hb dL_then_134 (lv_at hl 7 rfl) ?_
              obtain rfl := zo hf
              exact hret _ _ _ _ _ _ _ (Nat.le_of_ble_eq_true rfl) (Nat.le_of_ble_eq_true rfl) (zP_left (zP_left (zP_left (zP_left (zP_left hP))))) (zD_left (zD_left (zD_left (zD_left (zD_left hD))))) hS rfl rfl dL_then_136
    exact L107 _ _ hz107 _ _ hP hD hS _ (lv_sub hl [1, 3, 4, 5, 6, 7, 8, 0] rfl)
  replace hf := zb_s hf
  obtain ⟨bb33, hz33, hk33⟩ := hf
  have L33 : ∀ (n33 : Nat) (v33 : Int32 × (Nat → Int32) × (Nat → Int32) × (Nat → Int32) × (Nat → Int32)) (hz33 : zl n33 (q_L_then_L33 u u1 u2 u3) v33 = some bb33) (H : Heap) (locs : List Loc) (hP : va_P D vwCl (wAR G ad b 20 u ++ wAR G ad1 b1 8 u1 ++ wAR G ad2 b2 6 u2 ++ wAR G ad3 b3 20 u3 ++ wAR G ad4 0 20 v33.2.1 ++ wAR G ad5 0 8 v33.2.2.1 ++ wAR G ad6 0 6 v33.2.2.2.1 ++ wAR G ad7 0 20 v33.2.2.2.2 ++ wAR G ad8 0 30 (fun _ => 0)) H) (hD : va_D A (wAR G ad b 20 u ++ wAR G ad1 b1 8 u1 ++ wAR G ad2 b2 6 u2 ++ wAR G ad3 b3 20 u3 ++ wAR G ad4 0 20 v33.2.1 ++ wAR G ad5 0 8 v33.2.2.1 ++ wAR G ad6 0 6 v33.2.2.2.1 ++ wAR G ad7 0 20 v33.2.2.2.2 ++ wAR G ad8 0 30 (fun _ => 0))) (hS : va_S A s.heap H locs) (ls : Array Slot) (hl : lv_has ls 13 [(0, .int p0), (1, .int p1), (2, .int p2), (3, .ref (ad b)), (4, .ref (ad1 b1)), (5, .ref (ad2 b2)), (6, .ref (ad3 b3)), (7, .ref (ad4 0)), (8, .ref (ad5 0)), (9, .ref (ad6 0)), (10, .ref (ad7 0)), (11, .ref (ad8 0)), (12, .int v33.1)]), W p l e (zRc 3 80 5 84) s m args below meth c H locs (0 + 1 + 1 + 1 + 1 + 1) (0 + 20 + 8 + 6 + 20 + 30) Q (F0 m 33 ls []) := by
    intro n33
    induction n33 with
    | zero => intro v33 hz33; exact (zl_0 hz33).elim
    | succ n33 ih33 =>
      intro v33 hz33 H locs hP hD hS ls hl
      obtain ⟨o33, hf, hz33⟩ := zl_s hz33
      unfold q_L_then_L33 at hf
      refine lv_iload hx hb dL_then_33 (lv_at hl 12 rfl) ?_
      refine lv_bipush (v := 20) hx hb dL_then_35 (by decide) ?_
      refine lv_icmp_ge (tgt := 99) hx hb dL_then_37 (by decide) (fun c37 => ?_) (fun c37 => ?_)
      · replace hf := zi_p hf c37
        have hb33 := (zk_r hf hz33).symm
        subst hb33
        replace hf := hk33
        exact J99 v33.2.1 v33.2.2.1 v33.2.2.2.1 v33.2.2.2.2 hf _ _ hP hD hS _ (lv_sub hl [0, 1, 2, 7, 8, 9, 10, 11] rfl)
      · replace hf := zi_n hf c37
        refine lv_aload hx hb dL_then_40 (lv_at hl 7 rfl) ?_
        refine lv_iload hx hb dL_then_42 (lv_at hl 12 rfl) ?_
        refine lv_aload_n hx hb dL_then_44 rfl (lv_at hl 3 rfl) ?_
        refine lv_iload hx hb dL_then_45 (lv_at hl 12 rfl) ?_
        replace hf := zg_s hf
        obtain ⟨hi47, a47, ea47, hf⟩ := hf
        refine z_iald hx hb hK hP 0 0 rfl rfl hi47 ea47 dL_then_47 ?_
        replace hf := zs_s hf
        obtain ⟨hi48, s48, es48, hf⟩ := hf
        refine z_iast (ws' := wAR G ad b 20 u ++ wAR G ad1 b1 8 u1 ++ wAR G ad2 b2 6 u2 ++ wAR G ad3 b3 20 u3 ++ wAR G ad4 0 20 s48 ++ wAR G ad5 0 8 v33.2.2.1 ++ wAR G ad6 0 6 v33.2.2.2.1 ++ wAR G ad7 0 20 v33.2.2.2.2 ++ wAR G ad8 0 30 (fun _ => 0)) hx hb hK hP hD hS 4 0 rfl rfl hi48 es48 rfl dL_then_48 (fun H locs hP hD hS => ?_)
        refine lv_aload hx hb dL_then_49 (lv_at hl 10 rfl) ?_
        refine lv_iload hx hb dL_then_51 (lv_at hl 12 rfl) ?_
        refine lv_aload hx hb dL_then_53 (lv_at hl 6 rfl) ?_
        refine lv_iload hx hb dL_then_55 (lv_at hl 12 rfl) ?_
        replace hf := zg_s hf
        obtain ⟨hi57, a57, ea57, hf⟩ := hf
        refine z_iald hx hb hK hP 3 0 rfl rfl hi57 ea57 dL_then_57 ?_
        replace hf := zs_s hf
        obtain ⟨hi58, s58, es58, hf⟩ := hf
        refine z_iast (ws' := wAR G ad b 20 u ++ wAR G ad1 b1 8 u1 ++ wAR G ad2 b2 6 u2 ++ wAR G ad3 b3 20 u3 ++ wAR G ad4 0 20 s48 ++ wAR G ad5 0 8 v33.2.2.1 ++ wAR G ad6 0 6 v33.2.2.2.1 ++ wAR G ad7 0 20 s58 ++ wAR G ad8 0 30 (fun _ => 0)) hx hb hK hP hD hS 7 0 rfl rfl hi58 es58 rfl dL_then_58 (fun H locs hP hD hS => ?_)
        refine lv_iload hx hb dL_then_59 (lv_at hl 12 rfl) ?_
        refine lv_bipush (v := 8) hx hb dL_then_61 (by decide) ?_
        have J76 : ∀ (w76_0 : Nat → Int32) (hf : q_L_then_J76 u2 v33 s48 s58 w76_0 = some o33) (H : Heap) (locs : List Loc) (hP : va_P D vwCl (wAR G ad b 20 u ++ wAR G ad1 b1 8 u1 ++ wAR G ad2 b2 6 u2 ++ wAR G ad3 b3 20 u3 ++ wAR G ad4 0 20 s48 ++ wAR G ad5 0 8 w76_0 ++ wAR G ad6 0 6 v33.2.2.2.1 ++ wAR G ad7 0 20 s58 ++ wAR G ad8 0 30 (fun _ => 0)) H) (hD : va_D A (wAR G ad b 20 u ++ wAR G ad1 b1 8 u1 ++ wAR G ad2 b2 6 u2 ++ wAR G ad3 b3 20 u3 ++ wAR G ad4 0 20 s48 ++ wAR G ad5 0 8 w76_0 ++ wAR G ad6 0 6 v33.2.2.2.1 ++ wAR G ad7 0 20 s58 ++ wAR G ad8 0 30 (fun _ => 0))) (hS : va_S A s.heap H locs) (ls : Array Slot) (hl : lv_has ls 13 [(0, .int p0), (1, .int p1), (2, .int p2), (3, .ref (ad b)), (4, .ref (ad1 b1)), (5, .ref (ad2 b2)), (6, .ref (ad3 b3)), (7, .ref (ad4 0)), (8, .ref (ad5 0)), (9, .ref (ad6 0)), (10, .ref (ad7 0)), (11, .ref (ad8 0)), (12, .int v33.1)]), W p l e (zRc 3 80 5 84) s m args below meth c H locs (0 + 1 + 1 + 1 + 1 + 1) (0 + 20 + 8 + 6 + 20 + 30) Q (F0 m 76 ls []) := by
          intro w76_0 hf H locs hP hD hS ls hl
          unfold q_L_then_J76 at hf
          refine lv_iload hx hb dL_then_76 (lv_at hl 12 rfl) ?_
          refine lv_bipush (v := 6) hx hb dL_then_78 (by decide) ?_
          refine lv_icmp_ge (tgt := 93) hx hb dL_then_80 (by decide) (fun c80 => ?_) (fun c80 => ?_)
          · replace hf := zi_p hf c80
            refine lv_iinc (v := (v33.1 + 1)) (lv' := [(12, .int (v33.1 + 1)), (0, .int p0), (1, .int p1), (2, .int p2), (3, .ref (ad b)), (4, .ref (ad1 b1)), (5, .ref (ad2 b2)), (6, .ref (ad3 b3)), (7, .ref (ad4 0)), (8, .ref (ad5 0)), (9, .ref (ad6 0)), (10, .ref (ad7 0)), (11, .ref (ad8 0))]) hx hb dL_then_93 hl (k := 12) rfl rfl (by decide) rfl (fun ls hl => ?_)
            refine lv_goto (tgt := 33) hx hb dL_then_96 (by decide) ?_
            exact ih33 _ (zk_l hf hz33) _ _ hP hD hS _ (lv_sub hl [1, 2, 3, 4, 5, 6, 7, 8, 9, 10, 11, 12, 0] rfl)
          · replace hf := zi_n hf c80
            refine lv_aload hx hb dL_then_83 (lv_at hl 9 rfl) ?_
            refine lv_iload hx hb dL_then_85 (lv_at hl 12 rfl) ?_
            refine lv_aload hx hb dL_then_87 (lv_at hl 5 rfl) ?_
            refine lv_iload hx hb dL_then_89 (lv_at hl 12 rfl) ?_
            replace hf := zg_s hf
            obtain ⟨hi91, a91, ea91, hf⟩ := hf
            refine z_iald hx hb hK hP 2 0 rfl rfl hi91 ea91 dL_then_91 ?_
            replace hf := zs_s hf
            obtain ⟨hi92, s92, es92, hf⟩ := hf
            refine z_iast (ws' := wAR G ad b 20 u ++ wAR G ad1 b1 8 u1 ++ wAR G ad2 b2 6 u2 ++ wAR G ad3 b3 20 u3 ++ wAR G ad4 0 20 s48 ++ wAR G ad5 0 8 w76_0 ++ wAR G ad6 0 6 s92 ++ wAR G ad7 0 20 s58 ++ wAR G ad8 0 30 (fun _ => 0)) hx hb hK hP hD hS 6 0 rfl rfl hi92 es92 rfl dL_then_92 (fun H locs hP hD hS => ?_)
            refine lv_iinc (v := (v33.1 + 1)) (lv' := [(12, .int (v33.1 + 1)), (0, .int p0), (1, .int p1), (2, .int p2), (3, .ref (ad b)), (4, .ref (ad1 b1)), (5, .ref (ad2 b2)), (6, .ref (ad3 b3)), (7, .ref (ad4 0)), (8, .ref (ad5 0)), (9, .ref (ad6 0)), (10, .ref (ad7 0)), (11, .ref (ad8 0))]) hx hb dL_then_93 hl (k := 12) rfl rfl (by decide) rfl (fun ls hl => ?_)
            refine lv_goto (tgt := 33) hx hb dL_then_96 (by decide) ?_
            exact ih33 _ (zk_l hf hz33) _ _ hP hD hS _ (lv_sub hl [1, 2, 3, 4, 5, 6, 7, 8, 9, 10, 11, 12, 0] rfl)
        refine lv_icmp_ge (tgt := 76) hx hb dL_then_63 (by decide) (fun c63 => ?_) (fun c63 => ?_)
        · replace hf := zi_p hf c63
          exact J76 v33.2.2.1 hf _ _ hP hD hS _ (lv_sub hl [0, 1, 2, 3, 4, 5, 6, 7, 8, 9, 10, 11, 12] rfl)
        · replace hf := zi_n hf c63
          refine lv_aload hx hb dL_then_66 (lv_at hl 8 rfl) ?_
          refine lv_iload hx hb dL_then_68 (lv_at hl 12 rfl) ?_
          refine lv_aload hx hb dL_then_70 (lv_at hl 4 rfl) ?_
          refine lv_iload hx hb dL_then_72 (lv_at hl 12 rfl) ?_
          replace hf := zg_s hf
          obtain ⟨hi74, a74, ea74, hf⟩ := hf
          refine z_iald hx hb hK hP 1 0 rfl rfl hi74 ea74 dL_then_74 ?_
          replace hf := zs_s hf
          obtain ⟨hi75, s75, es75, hf⟩ := hf
          refine z_iast (ws' := wAR G ad b 20 u ++ wAR G ad1 b1 8 u1 ++ wAR G ad2 b2 6 u2 ++ wAR G ad3 b3 20 u3 ++ wAR G ad4 0 20 s48 ++ wAR G ad5 0 8 s75 ++ wAR G ad6 0 6 v33.2.2.2.1 ++ wAR G ad7 0 20 s58 ++ wAR G ad8 0 30 (fun _ => 0)) hx hb hK hP hD hS 5 0 rfl rfl hi75 es75 rfl dL_then_75 (fun H locs hP hD hS => ?_)
          exact J76 s75 hf _ _ hP hD hS _ (lv_sub hl [0, 1, 2, 3, 4, 5, 6, 7, 8, 9, 10, 11, 12] rfl)
  exact L33 _ _ hz33 _ _ hP hD hS _ (lv_sub hl [6, 7, 8, 9, 10, 11, 12, 5, 4, 3, 2, 1, 0] rfl)
