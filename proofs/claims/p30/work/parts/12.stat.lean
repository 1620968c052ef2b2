noncomputable def q_J9_floorMod_7cf53 (p0 : Int32) (p1 : Int32) : Option (Int32) :=
  zq (¬ p1 = 0) ((if 0 ≤ (p0 ^^^ p1) then some ((p0 - p0 / p1 * p1)) else (if (p0 - p0 / p1 * p1) = 0 then some ((p0 - p0 / p1 * p1)) else some (((p0 - p0 / p1 * p1) + p1)))))
set_option maxRecDepth 100000 in
set_option maxHeartbeats 4000000 in
theorem c_J9_floorMod_7cf53 (l : Launch) (D : va_G) (G : zG)  (p0 : Int32) (p1 : Int32) (res : Int32) (hf : q_J9_floorMod_7cf53 p0 p1 = some res) : zMi l yJ9_floorMod_7cf53 cJ9_floorMod_7cf53 3 (some .int) 0 0 D G (([] : va_W)) (([] : va_W)) [.int p0, .int p1] res := by
  refine zs_i (by decide +kernel) (Nat.le_of_ble_eq_true rfl) ?_
  intro p e s m args below meth c A Q H ls C0 hret hP hD hS hl
  obtain ⟨hx, hb, hml, hown, hW, hK, hlocks, hF, hr, hA⟩ := id C0
  replace hl : lv_has ls 3 [(0, .int p0), (1, .int p1)] := hl
  unfold q_J9_floorMod_7cf53 at hf
  refine lv_iload_n hx hb dJ9_floorMod_7cf53_0 rfl (lv_at hl 0 rfl) ?_
  refine lv_iload_n hx hb dJ9_floorMod_7cf53_1 rfl (lv_at hl 1 rfl) ?_
  replace hf := zq_s hf
  obtain ⟨hq, hf⟩ := hf
  refine lv_irem hx hb dJ9_floorMod_7cf53_2 hq ?_
  refine lv_istore_n (lv' := [(2, .int (p0 - p0 / p1 * p1)), (0, .int p0), (1, .int p1)]) hx hb dJ9_floorMod_7cf53_3 rfl hl (by decide) rfl (fun ls hl => ?_)
  refine lv_iload_n hx hb dJ9_floorMod_7cf53_4 rfl (lv_at hl 1 rfl) ?_
  refine lv_iload_n hx hb dJ9_floorMod_7cf53_5 rfl (lv_at hl 2 rfl) ?_
  refine lv_ixor hx hb dJ9_floorMod_7cf53_6 ?_
  refine lv_if_ge (tgt := 18) hx hb dJ9_floorMod_7cf53_7 (by decide) (fun c7 => ?_) (fun c7 => ?_)
  · replace hf := zi_p hf c7
    refine lv_iload_n hx hb dJ9_floorMod_7cf53_18 rfl (lv_at hl 0 rfl) ?_
    obtain rfl := zo hf
    exact hret _ _ _ _ _ hP hD hS rfl dJ9_floorMod_7cf53_19
  · replace hf := zi_n hf c7
    refine lv_iload_n hx hb dJ9_floorMod_7cf53_10 rfl (lv_at hl 0 rfl) ?_
    refine lv_if_eq (tgt := 18) hx hb dJ9_floorMod_7cf53_11 (by decide) (fun c11 => ?_) (fun c11 => ?_)
    · replace hf := zi_p hf c11
      refine lv_iload_n hx hb dJ9_floorMod_7cf53_18 rfl (lv_at hl 0 rfl) ?_
      obtain rfl := zo hf
      exact hret _ _ _ _ _ hP hD hS rfl dJ9_floorMod_7cf53_19
    · replace hf := zi_n hf c11
      refine lv_iload_n hx hb dJ9_floorMod_7cf53_14 rfl (lv_at hl 0 rfl) ?_
      refine lv_iload_n hx hb dJ9_floorMod_7cf53_15 rfl (lv_at hl 2 rfl) ?_
      refine lv_iadd hx hb dJ9_floorMod_7cf53_16 ?_
      obtain rfl := zo hf
      exact hret _ _ _ _ _ hP hD hS rfl dJ9_floorMod_7cf53_17
noncomputable def q_X6_isSpan (p0 : Int32) : Option (Int32) :=
  (if p0 < 0 then some (0) else (if 8 ≤ p0 then some (0) else some (1)))
set_option maxRecDepth 100000 in
set_option maxHeartbeats 4000000 in
theorem c_X6_isSpan (l : Launch) (D : va_G) (G : zG)  (p0 : Int32) (res : Int32) (hf : q_X6_isSpan p0 = some res) : zMi l yX6_isSpan cX6_isSpan 1 (some .boolean) 0 0 D G (([] : va_W)) (([] : va_W)) [.int p0] res := by
  refine zs_z (plainFor_of_name (by decide)) (Nat.le_of_ble_eq_true rfl) ?_
  intro p e s m args below meth c A Q H ls C0 hret hP hD hS hl
  obtain ⟨hx, hb, hml, hown, hW, hK, hlocks, hF, hr, hA⟩ := id C0
  replace hl : lv_has ls 1 [(0, .int p0)] := hl
  unfold q_X6_isSpan at hf
  refine lv_iload_n hx hb dX6_isSpan_0 rfl (lv_at hl 0 rfl) ?_
  refine lv_if_lt (tgt := 14) hx hb dX6_isSpan_1 (by decide) (fun c1 => ?_) (fun c1 => ?_)
  · replace hf := zi_p hf c1
    refine lv_iconst (v := 0) hx hb dX6_isSpan_14 (by decide) ?_
    obtain rfl := zo hf
    exact hret _ _ _ _ _ hP hD hS rfl rfl dX6_isSpan_15
  · replace hf := zi_n hf c1
    refine lv_iload_n hx hb dX6_isSpan_4 rfl (lv_at hl 0 rfl) ?_
    refine lv_bipush (v := 8) hx hb dX6_isSpan_5 (by decide) ?_
    refine lv_icmp_ge (tgt := 14) hx hb dX6_isSpan_7 (by decide) (fun c7 => ?_) (fun c7 => ?_)
    · replace hf := zi_p hf c7
      refine lv_iconst (v := 0) hx hb dX6_isSpan_14 (by decide) ?_
      obtain rfl := zo hf
      exact hret _ _ _ _ _ hP hD hS rfl rfl dX6_isSpan_15
    · replace hf := zi_n hf c7
      refine lv_iconst (v := 1) hx hb dX6_isSpan_10 (by decide) ?_
      refine lv_goto (tgt := 15) hx hb dX6_isSpan_11 (by decide) ?_
      obtain rfl := zo hf
      exact hret _ _ _ _ _ hP hD hS rfl rfl dX6_isSpan_15
noncomputable def q_X6_isSetting (p0 : Int32) : Option (Int32) :=
  (if p0 < 0 then some (0) else (if 5 ≤ p0 then some (0) else some (1)))
set_option maxRecDepth 100000 in
set_option maxHeartbeats 4000000 in
theorem c_X6_isSetting (l : Launch) (D : va_G) (G : zG)  (p0 : Int32) (res : Int32) (hf : q_X6_isSetting p0 = some res) : zMi l yX6_isSetting cX6_isSetting 1 (some .boolean) 0 0 D G (([] : va_W)) (([] : va_W)) [.int p0] res := by
  refine zs_z (plainFor_of_name (by decide)) (Nat.le_of_ble_eq_true rfl) ?_
  intro p e s m args below meth c A Q H ls C0 hret hP hD hS hl
  obtain ⟨hx, hb, hml, hown, hW, hK, hlocks, hF, hr, hA⟩ := id C0
  replace hl : lv_has ls 1 [(0, .int p0)] := hl
  unfold q_X6_isSetting at hf
  refine lv_iload_n hx hb dX6_isSetting_0 rfl (lv_at hl 0 rfl) ?_
  refine lv_if_lt (tgt := 13) hx hb dX6_isSetting_1 (by decide) (fun c1 => ?_) (fun c1 => ?_)
  · replace hf := zi_p hf c1
    refine lv_iconst (v := 0) hx hb dX6_isSetting_13 (by decide) ?_
    obtain rfl := zo hf
    exact hret _ _ _ _ _ hP hD hS rfl rfl dX6_isSetting_14
  · replace hf := zi_n hf c1
    refine lv_iload_n hx hb dX6_isSetting_4 rfl (lv_at hl 0 rfl) ?_
    refine lv_iconst (v := 5) hx hb dX6_isSetting_5 (by decide) ?_
    refine lv_icmp_ge (tgt := 13) hx hb dX6_isSetting_6 (by decide) (fun c6 => ?_) (fun c6 => ?_)
    · replace hf := zi_p hf c6
      refine lv_iconst (v := 0) hx hb dX6_isSetting_13 (by decide) ?_
      obtain rfl := zo hf
      exact hret _ _ _ _ _ hP hD hS rfl rfl dX6_isSetting_14
    · replace hf := zi_n hf c6
      refine lv_iconst (v := 1) hx hb dX6_isSetting_9 (by decide) ?_
      refine lv_goto (tgt := 14) hx hb dX6_isSetting_10 (by decide) ?_
      obtain rfl := zo hf
      exact hret _ _ _ _ _ hP hD hS rfl rfl dX6_isSetting_14
