noncomputable def q_J3_checkIndex_8e157 (p0 : Int32) (p1 : Int32) : Option (Int32) :=
  (if p0 < 0 then none else (if p0 < p1 then some (p0) else none))
set_option maxRecDepth 100000 in
set_option maxHeartbeats 4000000 in
theorem c_J3_checkIndex_8e157n (l : Launch) (D : va_G) (G : zG)  (p0 : Int32) (p1 : Int32) (res : Int32) (hf : q_J3_checkIndex_8e157 p0 p1 = some res) : zMi l yJ3_checkIndex_8e157 cJ3_checkIndex_8e157 3 (some .int) 0 0 D G (([] : va_W)) (([] : va_W)) [.int p0, .int p1, .null] res := by
  refine zs_i (by decide +kernel) (Nat.le_of_ble_eq_true rfl) ?_
  intro p e s m args below meth c A Q H ls C0 hret hP hD hS hl
  obtain ⟨hx, hb, hml, hown, hW, hK, hlocks, hF, hr, hA⟩ := id C0
  replace hl : lv_has ls 3 [(0, .int p0), (1, .int p1), (2, .null)] := hl
  unfold q_J3_checkIndex_8e157 at hf
  refine lv_iload_n hx hb dJ3_checkIndex_8e157_0 rfl (lv_at hl 0 rfl) ?_
  refine lv_if_lt (tgt := 9) hx hb dJ3_checkIndex_8e157_1 (by decide) (fun c1 => ?_) (fun c1 => ?_)
  · replace hf := zi_p hf c1
    cases hf
  · replace hf := zi_n hf c1
    refine lv_iload_n hx hb dJ3_checkIndex_8e157_4 rfl (lv_at hl 0 rfl) ?_
    refine lv_iload_n hx hb dJ3_checkIndex_8e157_5 rfl (lv_at hl 1 rfl) ?_
    refine lv_icmp_lt (tgt := 16) hx hb dJ3_checkIndex_8e157_6 (by decide) (fun c6 => ?_) (fun c6 => ?_)
    · replace hf := zi_p hf c6
      refine lv_iload_n hx hb dJ3_checkIndex_8e157_16 rfl (lv_at hl 0 rfl) ?_
      obtain rfl := zo hf
      exact hret _ _ _ _ _ hP hD hS rfl dJ3_checkIndex_8e157_17
    · replace hf := zi_n hf c6
      cases hf

set_option maxRecDepth 100000 in
set_option maxHeartbeats 4000000 in
theorem c_J3_checkIndex_8e157t (l : Launch) (D : va_G) (G : zG)  (t0 : Nat) (p0 : Int32) (p1 : Int32) (res : Int32) (hf : q_J3_checkIndex_8e157 p0 p1 = some res) : zMi l yJ3_checkIndex_8e157 cJ3_checkIndex_8e157 3 (some .int) 0 0 D G (([] : va_W)) (([] : va_W)) [.int p0, .int p1, .ref t0] res := by
  refine zs_i (by decide +kernel) (Nat.le_of_ble_eq_true rfl) ?_
  intro p e s m args below meth c A Q H ls C0 hret hP hD hS hl
  obtain ⟨hx, hb, hml, hown, hW, hK, hlocks, hF, hr, hA⟩ := id C0
  replace hl : lv_has ls 3 [(0, .int p0), (1, .int p1), (2, .ref t0)] := hl
  unfold q_J3_checkIndex_8e157 at hf
  refine lv_iload_n hx hb dJ3_checkIndex_8e157_0 rfl (lv_at hl 0 rfl) ?_
  refine lv_if_lt (tgt := 9) hx hb dJ3_checkIndex_8e157_1 (by decide) (fun c1 => ?_) (fun c1 => ?_)
  · replace hf := zi_p hf c1
    cases hf
  · replace hf := zi_n hf c1
    refine lv_iload_n hx hb dJ3_checkIndex_8e157_4 rfl (lv_at hl 0 rfl) ?_
    refine lv_iload_n hx hb dJ3_checkIndex_8e157_5 rfl (lv_at hl 1 rfl) ?_
    refine lv_icmp_lt (tgt := 16) hx hb dJ3_checkIndex_8e157_6 (by decide) (fun c6 => ?_) (fun c6 => ?_)
    · replace hf := zi_p hf c6
      refine lv_iload_n hx hb dJ3_checkIndex_8e157_16 rfl (lv_at hl 0 rfl) ?_
      obtain rfl := zo hf
      exact hret _ _ _ _ _ hP hD hS rfl dJ3_checkIndex_8e157_17
    · replace hf := zi_n hf c6
      cases hf
noncomputable def q_J0_coder_7d493 (k : Nat) : Option (Int32) :=
  (if (1 : Int32) = 0 then some (1) else zq (k < 6) (some (0)))
set_option maxRecDepth 100000 in
set_option maxHeartbeats 4000000 in
theorem c_J0_coder_7d493 (l : Launch) (D : va_G) (G : zG)  (k : Nat) (res : Int32) (hf : q_J0_coder_7d493 k = some res) : zMi l yJ0_coder_7d493 cJ0_coder_7d493 1 (some .byte) 0 0 D G (([] : va_W)) (([] : va_W)) [.ref (G.2.2.2.1 k)] res := by
  refine zs_z (by decide +kernel) (Nat.le_of_ble_eq_true rfl) ?_
  intro p e s m args below meth c A Q H ls C0 hret hP hD hS hl
  obtain ⟨hx, hb, hml, hown, hW, hK, hlocks, hF, hr, hA⟩ := id C0
  replace hl : lv_has ls 1 [(0, .ref (G.2.2.2.1 k))] := hl
  unfold q_J0_coder_7d493 at hf
  refine va_gets (ref := "java/lang/String") hx hb hF.2.2.2.2.2.2.1 hS hown (hW _ wd_613) (fun _ h9 => h9) dJ0_coder_7d493_0 ?_
  refine lv_if_eq (tgt := 13) hx hb dJ0_coder_7d493_3 (by decide) (fun c3 => ?_) (fun c3 => ?_)
  · replace hf := zi_p hf c3
    refine lv_iconst (v := 1) hx hb dJ0_coder_7d493_13 (by decide) ?_
    obtain rfl := zo hf
    exact hret _ _ _ _ _ hP hD hS rfl rfl dJ0_coder_7d493_14
  · replace hf := zi_n hf c3
    refine lv_aload_n hx hb dJ0_coder_7d493_6 rfl (lv_at hl 0 rfl) ?_
    replace hf := zq_s hf
    obtain ⟨hk14, hf⟩ := hf
    refine vk_getf (ref := "java/lang/String") hx hb (zF_str hF hk14).2.1 hS hown (hW _ wd_614) (fun _ h9 => h9) dJ0_coder_7d493_7 ?_
    refine lv_goto (tgt := 14) hx hb dJ0_coder_7d493_10 (by decide) ?_
    obtain rfl := zo hf
    exact hret _ _ _ _ _ hP hD hS rfl rfl dJ0_coder_7d493_14
theorem kJ0_335 : zLkV RJ0 335 yJ0_coder_7d493 cJ0_coder_7d493 1 (some .byte) 0 := ⟨⟨wd_609, wd_610, wd_611, wd_525, wd_612⟩, by decide +kernel⟩
noncomputable def q_J0_length_8abf5 (k : Nat) : Option (Int32) :=
  zq (k < 6) (zq (k < 6) (zq (k < 6) (zb (q_J0_coder_7d493 k) fun r6 => some (((nI (zSL k)) >>> (r6 &&& 31))))))
set_option maxRecDepth 100000 in
set_option maxHeartbeats 4000000 in
theorem c_J0_length_8abf5 (l : Launch) (D : va_G) (G : zG)  (k : Nat) (res : Int32) (hf : q_J0_length_8abf5 k = some res) : zMi l yJ0_length_8abf5 cJ0_length_8abf5 1 (some .int) 1 20 D G (([] : va_W)) (([] : va_W)) [.ref (G.2.2.2.1 k)] res := by
  refine zs_i (by decide +kernel) (Nat.le_of_ble_eq_true rfl) ?_
  intro p e s m args below meth c A Q H ls C0 hret hP hD hS hl
  obtain ⟨hx, hb, hml, hown, hW, hK, hlocks, hF, hr, hA⟩ := id C0
  replace hl : lv_has ls 1 [(0, .ref (G.2.2.2.1 k))] := hl
  unfold q_J0_length_8abf5 at hf
  refine lv_aload_n hx hb dJ0_length_8abf5_0 rfl (lv_at hl 0 rfl) ?_
  replace hf := zq_s hf
  obtain ⟨hk14, hf⟩ := hf
  refine vk_getf (ref := "java/lang/String") hx hb (zF_str hF hk14).2.2.1 hS hown (hW _ wd_608) (fun _ h9 => h9) dJ0_length_8abf5_1 ?_
  replace hf := zq_s hf
  obtain ⟨hk14, hf⟩ := hf
  refine va_tlen (v := nI (zSL k)) hx hb (zF_str hF hk14).2.2.2 hS rfl dJ0_length_8abf5_4 ?_
  refine lv_aload_n hx hb dJ0_length_8abf5_5 rfl (lv_at hl 0 rfl) ?_
  replace hf := zq_s hf
  obtain ⟨hk14, hf⟩ := hf
  replace hf := zb_s hf
  obtain ⟨r6, hr6, hf⟩ := hf
  refine z_Ti (rest := [.int (nI (zSL k))]) C0 kJ0_335 (c_J0_coder_7d493 l D G k r6 hr6) (List.Perm.refl _) (List.Perm.refl _) (kS := k) hk14 rfl rfl ⟨Nat.le_of_ble_eq_true rfl, Nat.le_of_ble_eq_true rfl⟩ (Nat.le_of_ble_eq_true rfl) rfl hl.1 hP hD hS dJ0_length_8abf5_6 (fun H locs hP hD hS => ?_)
  refine lv_ishr hx hb dJ0_length_8abf5_9 ?_
  obtain rfl := zo hf
  exact hret _ _ _ _ _ hP hD hS rfl dJ0_length_8abf5_10
theorem kJ0_1059 : zLkS RJ0 1059 yJ3_checkIndex_8e157 cJ3_checkIndex_8e157 3 (some .int) 3 := ⟨⟨wd_582, wd_583, wd_530, wd_584⟩, by decide +kernel⟩
noncomputable def q_J0_checkIndex_df160 (p0 : Int32) (p1 : Int32) : Option (Unit) :=
  zb (q_J3_checkIndex_8e157 p0 p1) fun r5 => some ()
set_option maxRecDepth 100000 in
set_option maxHeartbeats 4000000 in
theorem c_J0_checkIndex_df160 (l : Launch) (D : va_G) (G : zG)  (p0 : Int32) (p1 : Int32) (res : Unit) (hf : q_J0_checkIndex_df160 p0 p1 = some res) : zMv l yJ0_checkIndex_df160 cJ0_checkIndex_df160 2 none 1 22 D G (([] : va_W)) (([] : va_W)) [.int p0, .int p1] := by
  refine zs_v (by decide +kernel) (Nat.le_of_ble_eq_true rfl) ?_
  intro p e s m args below meth c A Q H ls C0 hret hP hD hS hl
  obtain ⟨hx, hb, hml, hown, hW, hK, hlocks, hF, hr, hA⟩ := id C0
  replace hl : lv_has ls 2 [(0, .int p0), (1, .int p1)] := hl
  unfold q_J0_checkIndex_df160 at hf
  refine lv_iload_n hx hb dJ0_checkIndex_df160_0 rfl (lv_at hl 0 rfl) ?_
  refine lv_iload_n hx hb dJ0_checkIndex_df160_1 rfl (lv_at hl 1 rfl) ?_
  rcases hF.2.2.2.2.2.2.2.1 with hz | ⟨t0, hz⟩
  · refine va_gets (ref := "jdk/internal/util/Preconditions") hx hb hz hS hown (hW _ wd_527) (fun _ h9 => h9) dJ0_checkIndex_df160_2 ?_
    replace hf := zb_s hf
    obtain ⟨r5, hr5, hf⟩ := hf
    refine z_Si (rest := []) C0 kJ0_1059 (c_J3_checkIndex_8e157n l D G p0 p1 r5 hr5) (List.Perm.refl _) (List.Perm.refl _) rfl ⟨Nat.le_of_ble_eq_true rfl, Nat.le_of_ble_eq_true rfl⟩ (Nat.le_of_ble_eq_true rfl) rfl hl.1 hP hD hS dJ0_checkIndex_df160_5 (fun H locs hP hD hS => ?_)
    refine lv_pop hx hb dJ0_checkIndex_df160_8 rfl ?_
    obtain rfl := zo hf
    exact hret _ _ _ _ hP hD hS dJ0_checkIndex_df160_9
  · refine va_gets (ref := "jdk/internal/util/Preconditions") hx hb hz hS hown (hW _ wd_527) (fun _ h9 => h9) dJ0_checkIndex_df160_2 ?_
    replace hf := zb_s hf
    obtain ⟨r5, hr5, hf⟩ := hf
    refine z_Si (rest := []) C0 kJ0_1059 (c_J3_checkIndex_8e157t l D G t0 p0 p1 r5 hr5) (List.Perm.refl _) (List.Perm.refl _) rfl ⟨Nat.le_of_ble_eq_true rfl, Nat.le_of_ble_eq_true rfl⟩ (Nat.le_of_ble_eq_true rfl) rfl hl.1 hP hD hS dJ0_checkIndex_df160_5 (fun H locs hP hD hS => ?_)
    refine lv_pop hx hb dJ0_checkIndex_df160_8 rfl ?_
    obtain rfl := zo hf
    exact hret _ _ _ _ hP hD hS dJ0_checkIndex_df160_9
noncomputable def q_J5_isLatin1_aae02 (u : tJ4) : Option (Int32) :=
  (if (1 : Int32) = 0 then some (0) else (if u.2.1 = 0 then some (1) else some (0)))
set_option maxRecDepth 100000 in
set_option maxHeartbeats 4000000 in
theorem c_J5_isLatin1_aae02 (l : Launch) (D : va_G) (G : zG) (ad : Nat → Nat) (b : Nat) (u : tJ4) (res : Int32) (hf : q_J5_isLatin1_aae02 u = some res) : zMi l yJ5_isLatin1_aae02 cJ5_isLatin1_aae02 1 (some .boolean) 0 0 D G (wJ4 G ad b u) (wJ4 G ad b u) [.ref (ad b)] res := by
  refine zs_z (by decide +kernel) (Nat.le_of_ble_eq_true rfl) ?_
  intro p e s m args below meth c A Q H ls C0 hret hP hD hS hl
  obtain ⟨hx, hb, hml, hown, hW, hK, hlocks, hF, hr, hA⟩ := id C0
  replace hl : lv_has ls 1 [(0, .ref (ad b))] := hl
  unfold q_J5_isLatin1_aae02 at hf
  refine va_gets (ref := "java/lang/String") hx hb hF.2.2.2.2.2.2.1 hS hown (hW _ wd_108) (fun _ h9 => h9) dJ5_isLatin1_aae02_0 ?_
  refine lv_if_eq (tgt := 17) hx hb dJ5_isLatin1_aae02_3 (by decide) (fun c3 => ?_) (fun c3 => ?_)
  · replace hf := zi_p hf c3
    refine lv_iconst (v := 0) hx hb dJ5_isLatin1_aae02_17 (by decide) ?_
    obtain rfl := zo hf
    exact hret _ _ _ _ _ hP hD hS rfl rfl dJ5_isLatin1_aae02_18
  · replace hf := zi_n hf c3
    refine lv_aload_n hx hb dJ5_isLatin1_aae02_6 rfl (lv_at hl 0 rfl) ?_
    refine va_get (D := D) (ci := 0) (v := .int u.2.1) (C := RJ4) (T := TJ4) (N := 4) hx hb hW inlJ4 hown hK hP 0 rfl rfl 1 (by decide) (hW _ wd_111) (fun _ h9 => h9) rfl dJ5_isLatin1_aae02_7 ?_
    refine lv_if_ne (tgt := 17) hx hb dJ5_isLatin1_aae02_10 (by decide) (fun c10 => ?_) (fun c10 => ?_)
    · replace hf := zi_n hf c10
      refine lv_iconst (v := 0) hx hb dJ5_isLatin1_aae02_17 (by decide) ?_
      obtain rfl := zo hf
      exact hret _ _ _ _ _ hP hD hS rfl rfl dJ5_isLatin1_aae02_18
    · replace hf := zi_p hf c10
      refine lv_iconst (v := 1) hx hb dJ5_isLatin1_aae02_13 (by decide) ?_
      refine lv_goto (tgt := 18) hx hb dJ5_isLatin1_aae02_14 (by decide) ?_
      obtain rfl := zo hf
      exact hret _ _ _ _ _ hP hD hS rfl rfl dJ5_isLatin1_aae02_18
noncomputable def q_J5_ensureCapacityInternal_d00df (u : tJ4) (p1 : Int32) : Option (Unit) :=
  (if (p1 - (16 >>> (u.2.1 &&& 31))) ≤ 0 then some () else none)
set_option maxRecDepth 100000 in
set_option maxHeartbeats 4000000 in
theorem c_J5_ensureCapacityInternal_d00df (l : Launch) (D : va_G) (G : zG) (ad : Nat → Nat) (b : Nat) (u : tJ4) (p1 : Int32) (res : Unit) (hf : q_J5_ensureCapacityInternal_d00df u p1 = some res) : zMv l yJ5_ensureCapacityInternal_d00df cJ5_ensureCapacityInternal_d00df 3 none 0 0 D G (wJ4 G ad b u) (wJ4 G ad b u) [.ref (ad b), .int p1] := by
  refine zs_v (by decide +kernel) (Nat.le_of_ble_eq_true rfl) ?_
  intro p e s m args below meth c A Q H ls C0 hret hP hD hS hl
  obtain ⟨hx, hb, hml, hown, hW, hK, hlocks, hF, hr, hA⟩ := id C0
  replace hl : lv_has ls 3 [(0, .ref (ad b)), (1, .int p1)] := hl
  unfold q_J5_ensureCapacityInternal_d00df at hf
  refine lv_aload_n hx hb dJ5_ensureCapacityInternal_d00df_0 rfl (lv_at hl 0 rfl) ?_
  refine va_get (D := D) (ci := 0) (v := .ref (ad (b + 1))) (C := RJ4) (T := TJ4) (N := 4) hx hb hW inlJ4 hown hK hP 0 rfl rfl 0 (by decide) (hW _ wd_110) (fun _ h9 => h9) rfl dJ5_ensureCapacityInternal_d00df_1 ?_
  refine va_alen (v := 16) hx hb hK hP 1 2 rfl rfl rfl dJ5_ensureCapacityInternal_d00df_4 ?_
  refine lv_aload_n hx hb dJ5_ensureCapacityInternal_d00df_5 rfl (lv_at hl 0 rfl) ?_
  refine va_get (D := D) (ci := 0) (v := .int u.2.1) (C := RJ4) (T := TJ4) (N := 4) hx hb hW inlJ4 hown hK hP 0 rfl rfl 1 (by decide) (hW _ wd_111) (fun _ h9 => h9) rfl dJ5_ensureCapacityInternal_d00df_6 ?_
  refine lv_ishr hx hb dJ5_ensureCapacityInternal_d00df_9 ?_
  refine lv_istore_n (lv' := [(2, .int (16 >>> (u.2.1 &&& 31))), (0, .ref (ad b)), (1, .int p1)]) hx hb dJ5_ensureCapacityInternal_d00df_10 rfl hl (by decide) rfl (fun ls hl => ?_)
  refine lv_iload_n hx hb dJ5_ensureCapacityInternal_d00df_11 rfl (lv_at hl 2 rfl) ?_
  refine lv_iload_n hx hb dJ5_ensureCapacityInternal_d00df_12 rfl (lv_at hl 0 rfl) ?_
  refine lv_isub hx hb dJ5_ensureCapacityInternal_d00df_13 ?_
  refine lv_if_le (tgt := 38) hx hb dJ5_ensureCapacityInternal_d00df_14 (by decide) (fun c14 => ?_) (fun c14 => ?_)
  · replace hf := zi_p hf c14
    obtain rfl := zo hf
    exact hret _ _ _ _ hP hD hS dJ5_ensureCapacityInternal_d00df_38
  · replace hf := zi_n hf c14
    cases hf
theorem kJ5_100 : zLkU RJ5 100 RJ4 ⟨"java/lang/AbstractStringBuilder", "ensureCapacityInternal", "(I)V"⟩ yJ5_ensureCapacityInternal_d00df cJ5_ensureCapacityInternal_d00df 3 none 1 := ⟨⟨wd_445, wd_446, wd_447, wd_448, wd_105, wd_449⟩, by decide +kernel⟩
noncomputable def q_J5_setLength_d00df_J76 (p1 : Int32) (w76_0 : Int32) : Option (Int32 × Int32) :=
  some (w76_0, p1)
noncomputable def q_J5_setLength_d00df (u : tJ4) (p1 : Int32) : Option (Int32 × Int32) :=
  (if 0 ≤ p1 then zb (q_J5_ensureCapacityInternal_d00df u p1) fun r15 => (if p1 ≤ u.2.2.2 then (if u.2.2.2 ≤ p1 then q_J5_setLength_d00df_J76 p1 u.2.2.1 else q_J5_setLength_d00df_J76 p1 1) else none) else none)
set_option maxRecDepth 100000 in
set_option maxHeartbeats 4000000 in
theorem c_J5_setLength_d00df (l : Launch) (D : va_G) (G : zG) (ad : Nat → Nat) (b : Nat) (u : tJ4) (p1 : Int32) (res : Int32 × Int32) (hf : q_J5_setLength_d00df u p1 = some res) : zMv l yJ5_setLength_d00df cJ5_setLength_d00df 2 none 1 22 D G (wJ4 G ad b u) (wJ4 G ad b (u.1, u.2.1, res.1, res.2)) [.ref (ad b), .int p1] := by
  refine zs_v (by decide +kernel) (Nat.le_of_ble_eq_true rfl) ?_
  intro p e s m args below meth c A Q H ls C0 hret hP hD hS hl
  obtain ⟨hx, hb, hml, hown, hW, hK, hlocks, hF, hr, hA⟩ := id C0
  replace hl : lv_has ls 2 [(0, .ref (ad b)), (1, .int p1)] := hl
  unfold q_J5_setLength_d00df at hf
  refine lv_iload_n hx hb dJ5_setLength_d00df_0 rfl (lv_at hl 1 rfl) ?_
  refine lv_if_ge (tgt := 13) hx hb dJ5_setLength_d00df_1 (by decide) (fun c1 => ?_) (fun c1 => ?_)
  · replace hf := zi_p hf c1
    refine lv_aload_n hx hb dJ5_setLength_d00df_13 rfl (lv_at hl 0 rfl) ?_
    refine lv_iload_n hx hb dJ5_setLength_d00df_14 rfl (lv_at hl 1 rfl) ?_
    replace hf := zb_s hf
    obtain ⟨r15, hr15, hf⟩ := hf
    refine z_Uv (rest := []) C0 kJ5_100 (c_J5_ensureCapacityInternal_d00df l D G ad (b) u p1 r15 hr15) z_pall z_pall.symm (C := RJ4) (ci := 0) (T := TJ4) (N := 4) rfl rfl rfl ⟨Nat.le_of_ble_eq_true rfl, Nat.le_of_ble_eq_true rfl⟩ (Nat.le_of_ble_eq_true rfl) rfl hl.1 hP hD hS dJ5_setLength_d00df_15 (fun H locs hP hD hS => ?_)
    refine lv_aload_n hx hb dJ5_setLength_d00df_18 rfl (lv_at hl 0 rfl) ?_
    refine va_get (D := D) (ci := 0) (v := .int u.2.2.2) (C := RJ4) (T := TJ4) (N := 4) hx hb hW inlJ4 hown hK hP 0 rfl rfl 3 (by decide) (hW _ wd_443) (fun _ h9 => h9) rfl dJ5_setLength_d00df_19 ?_
    refine lv_iload_n hx hb dJ5_setLength_d00df_22 rfl (lv_at hl 1 rfl) ?_
    refine lv_icmp_ge (tgt := 63) hx hb dJ5_setLength_d00df_23 (by decide) (fun c23 => ?_) (fun c23 => ?_)
    · replace hf := zi_p hf c23
      refine lv_aload_n hx hb dJ5_setLength_d00df_63 rfl (lv_at hl 0 rfl) ?_
      refine va_get (D := D) (ci := 0) (v := .int u.2.2.2) (C := RJ4) (T := TJ4) (N := 4) hx hb hW inlJ4 hown hK hP 0 rfl rfl 3 (by decide) (hW _ wd_443) (fun _ h9 => h9) rfl dJ5_setLength_d00df_64 ?_
      refine lv_iload_n hx hb dJ5_setLength_d00df_67 rfl (lv_at hl 1 rfl) ?_
      have J76 : ∀ (w76_0 : Int32) (hf : q_J5_setLength_d00df_J76 p1 w76_0 = some res) (H : Heap) (locs : List Loc) (hP : va_P D vwCl (wJ4 G ad b (u.1, u.2.1, w76_0, u.2.2.2)) H) (hD : va_D A (wJ4 G ad b (u.1, u.2.1, w76_0, u.2.2.2))) (hS : va_S A s.heap H locs) (ls : Array Slot) (hl : lv_has ls 2 [(0, .ref (ad b)), (1, .int p1)]), W p l e (zRm 1 22) s m args below meth c H locs 0 0 Q (F0 m 76 ls []) := by
        intro w76_0 hf H locs hP hD hS ls hl
        unfold q_J5_setLength_d00df_J76 at hf
        refine lv_aload_n hx hb dJ5_setLength_d00df_76 rfl (lv_at hl 0 rfl) ?_
        refine lv_iload_n hx hb dJ5_setLength_d00df_77 rfl (lv_at hl 1 rfl) ?_
        refine z_put (ws' := wJ4 G ad b (u.1, u.2.1, w76_0, p1)) (ci := 0) (C := RJ4) (T := TJ4) (N := 4) hx hb hW inlJ4 tyJ4 tyJ4_ok nmJ4 hown hK hP hD hS 0 rfl rfl 3 (by decide) (hW _ wd_443) rfl rfl (Nat.le_of_ble_eq_true rfl) rfl dJ5_setLength_d00df_78 (fun H locs hP hD hS => ?_)
        obtain rfl := zo hf
        exact hret _ _ _ _ hP hD hS dJ5_setLength_d00df_81
      refine lv_icmp_le (tgt := 76) hx hb dJ5_setLength_d00df_68 (by decide) (fun c68 => ?_) (fun c68 => ?_)
      · replace hf := zi_p hf c68
        exact J76 u.2.2.1 hf _ _ hP hD hS _ (lv_sub hl [0, 1] rfl)
      · replace hf := zi_n hf c68
        refine lv_aload_n hx hb dJ5_setLength_d00df_71 rfl (lv_at hl 0 rfl) ?_
        refine lv_iconst (v := 1) hx hb dJ5_setLength_d00df_72 (by decide) ?_
        refine z_putZ (ws' := wJ4 G ad b (u.1, u.2.1, 1, u.2.2.2)) (ci := 0) (C := RJ4) (T := TJ4) (N := 4) hx hb hW inlJ4 tyJ4 tyJ4_ok nmJ4 hown hK hP hD hS 0 rfl rfl 2 (by decide) (hW _ wd_444) rfl rfl (Or.inr rfl) (Nat.le_of_ble_eq_true rfl) rfl dJ5_setLength_d00df_73 (fun H locs hP hD hS => ?_)
        exact J76 1 hf _ _ hP hD hS _ (lv_sub hl [0, 1] rfl)
    · replace hf := zi_n hf c23
      cases hf
  · replace hf := zi_n hf c1
    cases hf
theorem kJ4_333 : zLkP RJ4 333 yJ5_setLength_d00df cJ5_setLength_d00df 2 none 1 := ⟨⟨wd_438, wd_439, wd_440, wd_441, wd_105, wd_442⟩, by decide +kernel⟩
noncomputable def q_J4_setLength_d00df (u : tJ4) (p1 : Int32) : Option (Int32 × Int32) :=
  zb (q_J5_setLength_d00df u p1) fun r2 => some (r2.1, r2.2)
set_option maxRecDepth 100000 in
set_option maxHeartbeats 4000000 in
theorem c_J4_setLength_d00df (l : Launch) (D : va_G) (G : zG) (ad : Nat → Nat) (b : Nat) (u : tJ4) (p1 : Int32) (res : Int32 × Int32) (hf : q_J4_setLength_d00df u p1 = some res) : zMv l yJ4_setLength_d00df cJ4_setLength_d00df 2 none 2 43 D G (wJ4 G ad b u) (wJ4 G ad b (u.1, u.2.1, res.1, res.2)) [.ref (ad b), .int p1] := by
  refine zs_v (by decide +kernel) (Nat.le_of_ble_eq_true rfl) ?_
  intro p e s m args below meth c A Q H ls C0 hret hP hD hS hl
  obtain ⟨hx, hb, hml, hown, hW, hK, hlocks, hF, hr, hA⟩ := id C0
  replace hl : lv_has ls 2 [(0, .ref (ad b)), (1, .int p1)] := hl
  unfold q_J4_setLength_d00df at hf
  refine lv_aload_n hx hb dJ4_setLength_d00df_0 rfl (lv_at hl 0 rfl) ?_
  refine lv_iload_n hx hb dJ4_setLength_d00df_1 rfl (lv_at hl 1 rfl) ?_
  replace hf := zb_s hf
  obtain ⟨r2, hr2, hf⟩ := hf
  refine z_Pv (rest := []) C0 kJ4_333 (c_J5_setLength_d00df l D G ad (b) u p1 r2 hr2) z_pall z_pall.symm (C := RJ4) (ci := 0) (T := TJ4) (N := 4) rfl rfl rfl ⟨Nat.le_of_ble_eq_true rfl, Nat.le_of_ble_eq_true rfl⟩ (Nat.le_of_ble_eq_true rfl) rfl hl.1 hP hD hS dJ4_setLength_d00df_2 (fun H locs hP hD hS => ?_)
  replace hP : va_P D vwCl (wJ4 G ad b (u.1, u.2.1, r2.1, r2.2)) H := hP
  replace hD : va_D A (wJ4 G ad b (u.1, u.2.1, r2.1, r2.2)) := hD
  obtain rfl := zo hf
  exact hret _ _ _ _ hP hD hS dJ4_setLength_d00df_5
noncomputable def q_J6_stringSize_0f7a4_L16 (x11_0 : Int32) (v16 : Int32 × Int32) : Option ((Int32 × Int32) ⊕ (((Unit) ⊕ (Int32)))) :=
  (if 10 ≤ v16.2 then some (Sum.inr (Sum.inl ())) else (if x11_0 ≤ v16.1 then some (Sum.inl ((10 * v16.1), (v16.2 + 1))) else some (Sum.inr (Sum.inr (v16.2)))))
noncomputable def q_J6_stringSize_0f7a4_J11  (x11_0 : Int32) (x11_1 : Int32) : Option (Int32) :=
  zb (zl 1000000 (q_J6_stringSize_0f7a4_L16 x11_0) ((-10), 1)) (zm (fun e16_0 => some ((10 + x11_1))) (fun e16_1 => some ((e16_1 + x11_1))))
noncomputable def q_J6_stringSize_0f7a4 (p0 : Int32) : Option (Int32) :=
  (if p0 < 0 then q_J6_stringSize_0f7a4_J11 p0 1 else q_J6_stringSize_0f7a4_J11 (-p0) 0)
set_option maxRecDepth 100000 in
set_option maxHeartbeats 4000000 in
theorem c_J6_stringSize_0f7a4 (l : Launch) (D : va_G) (G : zG)  (p0 : Int32) (res : Int32) (hf : q_J6_stringSize_0f7a4 p0 = some res) : zMi l yJ6_stringSize_0f7a4 cJ6_stringSize_0f7a4 4 (some .int) 0 0 D G (([] : va_W)) (([] : va_W)) [.int p0] res := by
  refine zs_i (by decide +kernel) (Nat.le_of_ble_eq_true rfl) ?_
  intro p e s m args below meth c A Q H ls C0 hret hP hD hS hl
  obtain ⟨hx, hb, hml, hown, hW, hK, hlocks, hF, hr, hA⟩ := id C0
  replace hl : lv_has ls 4 [(0, .int p0)] := hl
  unfold q_J6_stringSize_0f7a4 at hf
  refine lv_iconst (v := 1) hx hb dJ6_stringSize_0f7a4_0 (by decide) ?_
  refine lv_istore_n (lv' := [(1, .int 1), (0, .int p0)]) hx hb dJ6_stringSize_0f7a4_1 rfl hl (by decide) rfl (fun ls hl => ?_)
  refine lv_iload_n hx hb dJ6_stringSize_0f7a4_2 rfl (lv_at hl 1 rfl) ?_
  have J11 : ∀ (x11_0 : Int32) (x11_1 : Int32) (hf : q_J6_stringSize_0f7a4_J11 x11_0 x11_1 = some res) (H : Heap) (locs : List Loc) (hP : va_P D vwCl (([] : va_W)) H) (hD : va_D A (([] : va_W))) (hS : va_S A s.heap H locs) (ls : Array Slot) (hl : lv_has ls 4 [(0, .int x11_0), (1, .int x11_1)]), W p l e (zRm 0 0) s m args below meth c H locs 0 0 Q (F0 m 11 ls []) := by
    intro x11_0 x11_1 hf H locs hP hD hS ls hl
    unfold q_J6_stringSize_0f7a4_J11 at hf
    refine lv_bipush (v := (-10)) hx hb dJ6_stringSize_0f7a4_11 (by decide) ?_
    refine lv_istore_n (lv' := [(2, .int (-10)), (0, .int x11_0), (1, .int x11_1)]) hx hb dJ6_stringSize_0f7a4_13 rfl hl (by decide) rfl (fun ls hl => ?_)
    refine lv_iconst (v := 1) hx hb dJ6_stringSize_0f7a4_14 (by decide) ?_
    refine lv_istore_n (lv' := [(3, .int 1), (2, .int (-10)), (0, .int x11_0), (1, .int x11_1)]) hx hb dJ6_stringSize_0f7a4_15 rfl hl (by decide) rfl (fun ls hl => ?_)
    replace hf := zb_s hf
    obtain ⟨b16, hz16, hk16⟩ := hf
    have L16 : ∀ (n16 : Nat) (v16 : Int32 × Int32) (hz16 : zl n16 (q_J6_stringSize_0f7a4_L16 x11_0) v16 = some b16) (H : Heap) (locs : List Loc) (hP : va_P D vwCl (([] : va_W)) H) (hD : va_D A (([] : va_W))) (hS : va_S A s.heap H locs) (ls : Array Slot) (hl : lv_has ls 4 [(0, .int x11_0), (1, .int x11_1), (2, .int v16.1), (3, .int v16.2)]), W p l e (zRm 0 0) s m args below meth c H locs 0 0 Q (F0 m 16 ls []) := by
      intro n16
      induction n16 with
      | zero => intro v16 hz16; exact (zl_0 hz16).elim
      | succ n16 ih16 =>
        intro v16 hz16 H locs hP hD hS ls hl
        obtain ⟨o16, hf, hz16⟩ := zl_s hz16
        unfold q_J6_stringSize_0f7a4_L16 at hf
        refine lv_iload_n hx hb dJ6_stringSize_0f7a4_16 rfl (lv_at hl 3 rfl) ?_
        refine lv_bipush (v := 10) hx hb dJ6_stringSize_0f7a4_17 (by decide) ?_
        refine lv_icmp_ge (tgt := 42) hx hb dJ6_stringSize_0f7a4_19 (by decide) (fun c19 => ?_) (fun c19 => ?_)
        · replace hf := zi_p hf c19
          have hb16 := zk_r hf hz16
          subst hb16
          replace hf := (zm_l hk16)
          refine lv_bipush (v := 10) hx hb dJ6_stringSize_0f7a4_42 (by decide) ?_
          refine lv_iload_n hx hb dJ6_stringSize_0f7a4_44 rfl (lv_at hl 1 rfl) ?_
          refine lv_iadd hx hb dJ6_stringSize_0f7a4_45 ?_
          obtain rfl := zo hf
          exact hret _ _ _ _ _ hP hD hS rfl dJ6_stringSize_0f7a4_46
        · replace hf := zi_n hf c19
          refine lv_iload_n hx hb dJ6_stringSize_0f7a4_22 rfl (lv_at hl 0 rfl) ?_
          refine lv_iload_n hx hb dJ6_stringSize_0f7a4_23 rfl (lv_at hl 2 rfl) ?_
          refine lv_icmp_le (tgt := 31) hx hb dJ6_stringSize_0f7a4_24 (by decide) (fun c24 => ?_) (fun c24 => ?_)
          · replace hf := zi_p hf c24
            refine lv_bipush (v := 10) hx hb dJ6_stringSize_0f7a4_31 (by decide) ?_
            refine lv_iload_n hx hb dJ6_stringSize_0f7a4_33 rfl (lv_at hl 2 rfl) ?_
            refine lv_imul hx hb dJ6_stringSize_0f7a4_34 ?_
            refine lv_istore_n (lv' := [(2, .int (10 * v16.1)), (0, .int x11_0), (1, .int x11_1), (3, .int v16.2)]) hx hb dJ6_stringSize_0f7a4_35 rfl hl (by decide) rfl (fun ls hl => ?_)
            refine lv_iinc (v := (v16.2 + 1)) (lv' := [(3, .int (v16.2 + 1)), (2, .int (10 * v16.1)), (0, .int x11_0), (1, .int x11_1)]) hx hb dJ6_stringSize_0f7a4_36 hl (k := 3) rfl rfl (by decide) rfl (fun ls hl => ?_)
            refine lv_goto (tgt := 16) hx hb dJ6_stringSize_0f7a4_39 (by decide) ?_
            exact ih16 _ (zk_l hf hz16) _ _ hP hD hS _ (lv_sub hl [2, 3, 1, 0] rfl)
          · replace hf := zi_n hf c24
            have hb16 := zk_r hf hz16
            subst hb16
            replace hf := (zm_r hk16)
            refine lv_iload_n hx hb dJ6_stringSize_0f7a4_27 rfl (lv_at hl 3 rfl) ?_
            refine lv_iload_n hx hb dJ6_stringSize_0f7a4_28 rfl (lv_at hl 1 rfl) ?_
            refine lv_iadd hx hb dJ6_stringSize_0f7a4_29 ?_
            obtain rfl := zo hf
            exact hret _ _ _ _ _ hP hD hS rfl dJ6_stringSize_0f7a4_30
    exact L16 _ _ hz16 _ _ hP hD hS _ (lv_sub hl [2, 3, 1, 0] rfl)
  refine lv_if_lt (tgt := 11) hx hb dJ6_stringSize_0f7a4_3 (by decide) (fun c3 => ?_) (fun c3 => ?_)
  · replace hf := zi_p hf c3
    exact J11 p0 1 hf _ _ hP hD hS _ (lv_sub hl [1, 0] rfl)
  · replace hf := zi_n hf c3
    refine lv_iconst (v := 0) hx hb dJ6_stringSize_0f7a4_6 (by decide) ?_
    refine lv_istore_n (lv' := [(1, .int 0), (0, .int p0)]) hx hb dJ6_stringSize_0f7a4_7 rfl hl (by decide) rfl (fun ls hl => ?_)
    refine lv_iload_n hx hb dJ6_stringSize_0f7a4_8 rfl (lv_at hl 1 rfl) ?_
    refine lv_ineg hx hb dJ6_stringSize_0f7a4_9 ?_
    refine lv_istore_n (lv' := [(0, .int (-p0)), (1, .int 0)]) hx hb dJ6_stringSize_0f7a4_10 rfl hl (by decide) rfl (fun ls hl => ?_)
    exact J11 (-p0) 0 hf _ _ hP hD hS _ (lv_sub hl [0, 1] rfl)
noncomputable def q_J6_getChars_ba4f3_J72 (n : Nat) (y12_0 : Int32) (x72_0 : Int32) (x72_5 : Int32) (w72_0 : Nat → Int32) : Option (Int32 × (Nat → Int32)) :=
  zg 100 zOnesI (-x72_0) fun a83 => zs n w72_0 (x72_5 + (-1)) (vp_nar .byte a83) fun s84 => (if (-9) ≤ x72_0 then (if y12_0 = 0 then some ((x72_5 + (-1)), s84) else none) else zg 100 zTensI (-x72_0) fun a102 => zs n s84 ((x72_5 + (-1)) + (-1)) (vp_nar .byte a102) fun s103 => (if y12_0 = 0 then some (((x72_5 + (-1)) + (-1)), s103) else none))
noncomputable def q_J6_getChars_ba4f3_L22 (n : Nat) (v22 : Int32 × Int32 × (Nat → Int32)) : Option ((Int32 × Int32 × (Nat → Int32)) ⊕ (Int32 × Int32 × (Nat → Int32))) :=
  (if (-100) < v22.1 then some (Sum.inr (v22.1, v22.2.1, v22.2.2)) else zg 100 zOnesI (((v22.1 / 100) * 100) - v22.1) fun a54 => zs n v22.2.2 (v22.2.1 + (-1)) (vp_nar .byte a54) fun s55 => zg 100 zTensI (((v22.1 / 100) * 100) - v22.1) fun a67 => zs n s55 ((v22.2.1 + (-1)) + (-1)) (vp_nar .byte a67) fun s68 => some (Sum.inl ((v22.1 / 100), ((v22.2.1 + (-1)) + (-1)), s68)))
noncomputable def q_J6_getChars_ba4f3_J22 (n : Nat) (u : Nat → Int32) (p1 : Int32) (y12_0 : Int32) (x22_0 : Int32) : Option (Int32 × (Nat → Int32)) :=
  zb (zl 1000000 (q_J6_getChars_ba4f3_L22 n) (x22_0, p1, u)) (fun b22 => q_J6_getChars_ba4f3_J72 n y12_0 b22.1 b22.2.1 b22.2.2)
noncomputable def q_J6_getChars_ba4f3_J12 (n : Nat) (u : Nat → Int32) (p0 : Int32) (p1 : Int32) (y12_0 : Int32) : Option (Int32 × (Nat → Int32)) :=
  (if y12_0 = 0 then q_J6_getChars_ba4f3_J22 n u p1 y12_0 (-p0) else q_J6_getChars_ba4f3_J22 n u p1 y12_0 p0)
noncomputable def q_J6_getChars_ba4f3 (n : Nat) (u : Nat → Int32) (p0 : Int32) (p1 : Int32) : Option (Int32 × (Nat → Int32)) :=
  (if 0 ≤ p0 then q_J6_getChars_ba4f3_J12 n u p0 p1 0 else q_J6_getChars_ba4f3_J12 n u p0 p1 1)
set_option maxRecDepth 100000 in
set_option maxHeartbeats 4000000 in
theorem c_J6_getChars_ba4f3 (l : Launch) (D : va_G) (G : zG) (ad : Nat → Nat) (b : Nat) (n : Nat) (u : Nat → Int32) (p0 : Int32) (p1 : Int32) (res : Int32 × (Nat → Int32)) (hf : q_J6_getChars_ba4f3 n u p0 p1 = some res) : zMi l yJ6_getChars_ba4f3 cJ6_getChars_ba4f3 7 (some .int) 0 0 D G (wAB G ad b n u) (wAB G ad b n res.2) [.int p0, .int p1, .ref (ad b)] res.1 := by
  refine zs_i (by decide +kernel) (Nat.le_of_ble_eq_true rfl) ?_
  intro p e s m args below meth c A Q H ls C0 hret hP hD hS hl
  obtain ⟨hx, hb, hml, hown, hW, hK, hlocks, hF, hr, hA⟩ := id C0
  replace hl : lv_has ls 7 [(0, .int p0), (1, .int p1), (2, .ref (ad b))] := hl
  unfold q_J6_getChars_ba4f3 at hf
  refine lv_iload_n hx hb dJ6_getChars_ba4f3_0 rfl (lv_at hl 1 rfl) ?_
  refine lv_istore (lv' := [(5, .int p1), (0, .int p0), (1, .int p1), (2, .ref (ad b))]) hx hb dJ6_getChars_ba4f3_1 hl (by decide) rfl (fun ls hl => ?_)
  refine lv_iload_n hx hb dJ6_getChars_ba4f3_3 rfl (lv_at hl 1 rfl) ?_
  have J12 : ∀ (y12_0 : Int32) (hf : q_J6_getChars_ba4f3_J12 n u p0 p1 y12_0 = some res) (H : Heap) (locs : List Loc) (hP : va_P D vwCl (wAB G ad b n u) H) (hD : va_D A (wAB G ad b n u)) (hS : va_S A s.heap H locs) (ls : Array Slot) (hl : lv_has ls 7 [(0, .int p0), (2, .ref (ad b)), (5, .int p1)]), W p l e (zRm 0 0) s m args below meth c H locs 0 0 Q (F0 m 12 ls [.int y12_0]) := by
    intro y12_0 hf H locs hP hD hS ls hl
    unfold q_J6_getChars_ba4f3_J12 at hf
    refine lv_istore (lv' := [(6, .int y12_0), (0, .int p0), (2, .ref (ad b)), (5, .int p1)]) hx hb dJ6_getChars_ba4f3_12 hl (by decide) rfl (fun ls hl => ?_)
    refine lv_iload hx hb dJ6_getChars_ba4f3_14 (lv_at hl 0 rfl) ?_
    have J22 : ∀ (x22_0 : Int32) (hf : q_J6_getChars_ba4f3_J22 n u p1 y12_0 x22_0 = some res) (H : Heap) (locs : List Loc) (hP : va_P D vwCl (wAB G ad b n u) H) (hD : va_D A (wAB G ad b n u)) (hS : va_S A s.heap H locs) (ls : Array Slot) (hl : lv_has ls 7 [(0, .int x22_0), (2, .ref (ad b)), (5, .int p1), (6, .int y12_0)]), W p l e (zRm 0 0) s m args below meth c H locs 0 0 Q (F0 m 22 ls []) := by
      intro x22_0 hf H locs hP hD hS ls hl
      unfold q_J6_getChars_ba4f3_J22 at hf
      have J72 : ∀ (x72_0 : Int32) (x72_5 : Int32) (w72_0 : Nat → Int32) (hf : q_J6_getChars_ba4f3_J72 n y12_0 x72_0 x72_5 w72_0 = some res) (H : Heap) (locs : List Loc) (hP : va_P D vwCl (wAB G ad b n w72_0) H) (hD : va_D A (wAB G ad b n w72_0)) (hS : va_S A s.heap H locs) (ls : Array Slot) (hl : lv_has ls 7 [(0, .int x72_0), (2, .ref (ad b)), (5, .int x72_5), (6, .int y12_0)]), W p l e (zRm 0 0) s m args below meth c H locs 0 0 Q (F0 m 72 ls []) := by
        intro x72_0 x72_5 w72_0 hf H locs hP hD hS ls hl
        unfold q_J6_getChars_ba4f3_J72 at hf
        refine lv_aload_n hx hb dJ6_getChars_ba4f3_72 rfl (lv_at hl 1 rfl) ?_
        refine lv_iinc (v := (x72_5 + (-1))) (lv' := [(5, .int (x72_5 + (-1))), (0, .int x72_0), (2, .ref (ad b)), (6, .int y12_0)]) hx hb dJ6_getChars_ba4f3_73 hl (k := 2) rfl rfl (by decide) rfl (fun ls hl => ?_)
        refine lv_iload hx hb dJ6_getChars_ba4f3_76 (lv_at hl 0 rfl) ?_
        refine va_gets (ref := "java/lang/Integer") hx hb hF.2.2.2.2.1.1 hS hown (hW _ wd_511) (fun _ h9 => h9) dJ6_getChars_ba4f3_78 ?_
        refine lv_iload_n hx hb dJ6_getChars_ba4f3_81 rfl (lv_at hl 1 rfl) ?_
        refine lv_ineg hx hb dJ6_getChars_ba4f3_82 ?_
        replace hf := zg_s hf
        obtain ⟨hi83, a83, ea83, hf⟩ := hf
        refine z_tb (f := zOnesI) hx hb hF.2.2.2.2.1.2 hS hi83 ea83 dJ6_getChars_ba4f3_83 ?_
        replace hf := zs_s hf
        obtain ⟨hi84, s84, es84, hf⟩ := hf
        refine z_bast (ws' := wAB G ad b n s84) hx hb hK hP hD hS 0 2 rfl rfl hi84 es84 rfl dJ6_getChars_ba4f3_84 (fun H locs hP hD hS => ?_)
        refine lv_iload_n hx hb dJ6_getChars_ba4f3_85 rfl (lv_at hl 1 rfl) ?_
        refine lv_bipush (v := (-9)) hx hb dJ6_getChars_ba4f3_86 (by decide) ?_
        refine lv_icmp_ge (tgt := 104) hx hb dJ6_getChars_ba4f3_88 (by decide) (fun c88 => ?_) (fun c88 => ?_)
        · replace hf := zi_p hf c88
          refine lv_iload hx hb dJ6_getChars_ba4f3_104 (lv_at hl 3 rfl) ?_
          refine lv_if_eq (tgt := 118) hx hb dJ6_getChars_ba4f3_106 (by decide) (fun c106 => ?_) (fun c106 => ?_)
          · replace hf := zi_p hf c106
            refine lv_iload hx hb dJ6_getChars_ba4f3_118 (lv_at hl 0 rfl) ?_
            obtain rfl := zo hf
            exact hret _ _ _ _ _ hP hD hS rfl dJ6_getChars_ba4f3_120
          · replace hf := zi_n hf c106
            cases hf
        · replace hf := zi_n hf c88
          refine lv_aload_n hx hb dJ6_getChars_ba4f3_91 rfl (lv_at hl 2 rfl) ?_
          refine lv_iinc (v := ((x72_5 + (-1)) + (-1))) (lv' := [(5, .int ((x72_5 + (-1)) + (-1))), (0, .int x72_0), (2, .ref (ad b)), (6, .int y12_0)]) hx hb dJ6_getChars_ba4f3_92 hl (k := 0) rfl rfl (by decide) rfl (fun ls hl => ?_)
          refine lv_iload hx hb dJ6_getChars_ba4f3_95 (lv_at hl 0 rfl) ?_
          refine va_gets (ref := "java/lang/Integer") hx hb hF.2.2.2.2.2.1.1 hS hown (hW _ wd_512) (fun _ h9 => h9) dJ6_getChars_ba4f3_97 ?_
          refine lv_iload_n hx hb dJ6_getChars_ba4f3_100 rfl (lv_at hl 1 rfl) ?_
          refine lv_ineg hx hb dJ6_getChars_ba4f3_101 ?_
          replace hf := zg_s hf
          obtain ⟨hi102, a102, ea102, hf⟩ := hf
          refine z_tb (f := zTensI) hx hb hF.2.2.2.2.2.1.2 hS hi102 ea102 dJ6_getChars_ba4f3_102 ?_
          replace hf := zs_s hf
          obtain ⟨hi103, s103, es103, hf⟩ := hf
          refine z_bast (ws' := wAB G ad b n s103) hx hb hK hP hD hS 0 2 rfl rfl hi103 es103 rfl dJ6_getChars_ba4f3_103 (fun H locs hP hD hS => ?_)
          refine lv_iload hx hb dJ6_getChars_ba4f3_104 (lv_at hl 3 rfl) ?_
          refine lv_if_eq (tgt := 118) hx hb dJ6_getChars_ba4f3_106 (by decide) (fun c106 => ?_) (fun c106 => ?_)
          · replace hf := zi_p hf c106
            refine lv_iload hx hb dJ6_getChars_ba4f3_118 (lv_at hl 0 rfl) ?_
            obtain rfl := zo hf
            exact hret _ _ _ _ _ hP hD hS rfl dJ6_getChars_ba4f3_120
          · replace hf := zi_n hf c106
            cases hf
      replace hf := zb_s hf
      obtain ⟨b22, hz22, hk22⟩ := hf
      have L22 : ∀ (n22 : Nat) (v22 : Int32 × Int32 × (Nat → Int32)) (hz22 : zl n22 (q_J6_getChars_ba4f3_L22 n) v22 = some b22) (H : Heap) (locs : List Loc) (hP : va_P D vwCl (wAB G ad b n v22.2.2) H) (hD : va_D A (wAB G ad b n v22.2.2)) (hS : va_S A s.heap H locs) (ls : Array Slot) (hl : lv_has ls 7 [(0, .int v22.1), (2, .ref (ad b)), (5, .int v22.2.1), (6, .int y12_0)]), W p l e (zRm 0 0) s m args below meth c H locs 0 0 Q (F0 m 22 ls []) := by
        intro n22
        induction n22 with
        | zero => intro v22 hz22; exact (zl_0 hz22).elim
        | succ n22 ih22 =>
          intro v22 hz22 H locs hP hD hS ls hl
          obtain ⟨o22, hf, hz22⟩ := zl_s hz22
          unfold q_J6_getChars_ba4f3_L22 at hf
          refine lv_iload_n hx hb dJ6_getChars_ba4f3_22 rfl (lv_at hl 0 rfl) ?_
          refine lv_bipush (v := (-100)) hx hb dJ6_getChars_ba4f3_23 (by decide) ?_
          refine lv_icmp_gt (tgt := 72) hx hb dJ6_getChars_ba4f3_25 (by decide) (fun c25 => ?_) (fun c25 => ?_)
          · replace hf := zi_p hf c25
            have hb22 := zk_r hf hz22
            subst hb22
            replace hf := hk22
            exact J72 v22.1 v22.2.1 v22.2.2 hf _ _ hP hD hS _ (lv_sub hl [0, 1, 2, 3] rfl)
          · replace hf := zi_n hf c25
            refine lv_iload_n hx hb dJ6_getChars_ba4f3_28 rfl (lv_at hl 0 rfl) ?_
            refine lv_bipush (v := 100) hx hb dJ6_getChars_ba4f3_29 (by decide) ?_
            refine lv_idiv hx hb dJ6_getChars_ba4f3_31 (by decide) ?_
            refine lv_istore_n (lv' := [(3, .int (v22.1 / 100)), (0, .int v22.1), (2, .ref (ad b)), (5, .int v22.2.1), (6, .int y12_0)]) hx hb dJ6_getChars_ba4f3_32 rfl hl (by decide) rfl (fun ls hl => ?_)
            refine lv_iload_n hx hb dJ6_getChars_ba4f3_33 rfl (lv_at hl 0 rfl) ?_
            refine lv_bipush (v := 100) hx hb dJ6_getChars_ba4f3_34 (by decide) ?_
            refine lv_imul hx hb dJ6_getChars_ba4f3_36 ?_
            refine lv_iload_n hx hb dJ6_getChars_ba4f3_37 rfl (lv_at hl 1 rfl) ?_
            refine lv_isub hx hb dJ6_getChars_ba4f3_38 ?_
            refine lv_istore (lv' := [(4, .int (((v22.1 / 100) * 100) - v22.1)), (3, .int (v22.1 / 100)), (0, .int v22.1), (2, .ref (ad b)), (5, .int v22.2.1), (6, .int y12_0)]) hx hb dJ6_getChars_ba4f3_39 hl (by decide) rfl (fun ls hl => ?_)
            refine lv_iload_n hx hb dJ6_getChars_ba4f3_41 rfl (lv_at hl 1 rfl) ?_
            refine lv_istore_n (lv' := [(0, .int (v22.1 / 100)), (4, .int (((v22.1 / 100) * 100) - v22.1)), (3, .int (v22.1 / 100)), (2, .ref (ad b)), (5, .int v22.2.1), (6, .int y12_0)]) hx hb dJ6_getChars_ba4f3_42 rfl hl (by decide) rfl (fun ls hl => ?_)
            refine lv_aload_n hx hb dJ6_getChars_ba4f3_43 rfl (lv_at hl 3 rfl) ?_
            refine lv_iinc (v := (v22.2.1 + (-1))) (lv' := [(5, .int (v22.2.1 + (-1))), (0, .int (v22.1 / 100)), (4, .int (((v22.1 / 100) * 100) - v22.1)), (3, .int (v22.1 / 100)), (2, .ref (ad b)), (6, .int y12_0)]) hx hb dJ6_getChars_ba4f3_44 hl (k := 4) rfl rfl (by decide) rfl (fun ls hl => ?_)
            refine lv_iload hx hb dJ6_getChars_ba4f3_47 (lv_at hl 0 rfl) ?_
            refine va_gets (ref := "java/lang/Integer") hx hb hF.2.2.2.2.1.1 hS hown (hW _ wd_511) (fun _ h9 => h9) dJ6_getChars_ba4f3_49 ?_
            refine lv_iload hx hb dJ6_getChars_ba4f3_52 (lv_at hl 2 rfl) ?_
            replace hf := zg_s hf
            obtain ⟨hi54, a54, ea54, hf⟩ := hf
            refine z_tb (f := zOnesI) hx hb hF.2.2.2.2.1.2 hS hi54 ea54 dJ6_getChars_ba4f3_54 ?_
            replace hf := zs_s hf
            obtain ⟨hi55, s55, es55, hf⟩ := hf
            refine z_bast (ws' := wAB G ad b n s55) hx hb hK hP hD hS 0 2 rfl rfl hi55 es55 rfl dJ6_getChars_ba4f3_55 (fun H locs hP hD hS => ?_)
            refine lv_aload_n hx hb dJ6_getChars_ba4f3_56 rfl (lv_at hl 4 rfl) ?_
            refine lv_iinc (v := ((v22.2.1 + (-1)) + (-1))) (lv' := [(5, .int ((v22.2.1 + (-1)) + (-1))), (0, .int (v22.1 / 100)), (4, .int (((v22.1 / 100) * 100) - v22.1)), (3, .int (v22.1 / 100)), (2, .ref (ad b)), (6, .int y12_0)]) hx hb dJ6_getChars_ba4f3_57 hl (k := 0) rfl rfl (by decide) rfl (fun ls hl => ?_)
            refine lv_iload hx hb dJ6_getChars_ba4f3_60 (lv_at hl 0 rfl) ?_
            refine va_gets (ref := "java/lang/Integer") hx hb hF.2.2.2.2.2.1.1 hS hown (hW _ wd_512) (fun _ h9 => h9) dJ6_getChars_ba4f3_62 ?_
            refine lv_iload hx hb dJ6_getChars_ba4f3_65 (lv_at hl 2 rfl) ?_
            replace hf := zg_s hf
            obtain ⟨hi67, a67, ea67, hf⟩ := hf
            refine z_tb (f := zTensI) hx hb hF.2.2.2.2.2.1.2 hS hi67 ea67 dJ6_getChars_ba4f3_67 ?_
            replace hf := zs_s hf
            obtain ⟨hi68, s68, es68, hf⟩ := hf
            refine z_bast (ws' := wAB G ad b n s68) hx hb hK hP hD hS 0 2 rfl rfl hi68 es68 rfl dJ6_getChars_ba4f3_68 (fun H locs hP hD hS => ?_)
            refine lv_goto (tgt := 22) hx hb dJ6_getChars_ba4f3_69 (by decide) ?_
            exact ih22 _ (zk_l hf hz22) _ _ hP hD hS _ (lv_sub hl [1, 4, 0, 5] rfl)
      exact L22 _ _ hz22 _ _ hP hD hS _ (lv_sub hl [0, 1, 2, 3] rfl)
    refine lv_if_ne (tgt := 22) hx hb dJ6_getChars_ba4f3_16 (by decide) (fun c16 => ?_) (fun c16 => ?_)
    · replace hf := zi_n hf c16
      exact J22 p0 hf _ _ hP hD hS _ (lv_sub hl [1, 2, 3, 0] rfl)
    · replace hf := zi_p hf c16
      refine lv_iload_n hx hb dJ6_getChars_ba4f3_19 rfl (lv_at hl 1 rfl) ?_
      refine lv_ineg hx hb dJ6_getChars_ba4f3_20 ?_
      refine lv_istore_n (lv' := [(0, .int (-p0)), (6, .int y12_0), (2, .ref (ad b)), (5, .int p1)]) hx hb dJ6_getChars_ba4f3_21 rfl hl (by decide) rfl (fun ls hl => ?_)
      exact J22 (-p0) hf _ _ hP hD hS _ (lv_sub hl [0, 2, 3, 1] rfl)
  refine lv_if_ge (tgt := 11) hx hb dJ6_getChars_ba4f3_4 (by decide) (fun c4 => ?_) (fun c4 => ?_)
  · replace hf := zi_p hf c4
    refine lv_iconst (v := 0) hx hb dJ6_getChars_ba4f3_11 (by decide) ?_
    exact J12 0 hf _ _ hP hD hS _ (lv_sub hl [1, 3, 0] rfl)
  · replace hf := zi_n hf c4
    refine lv_iconst (v := 1) hx hb dJ6_getChars_ba4f3_7 (by decide) ?_
    refine lv_goto (tgt := 12) hx hb dJ6_getChars_ba4f3_8 (by decide) ?_
    exact J12 1 hf _ _ hP hD hS _ (lv_sub hl [1, 3, 0] rfl)
theorem kJ5_245 : zLkS RJ5 245 yJ6_stringSize_0f7a4 cJ6_stringSize_0f7a4 4 (some .int) 1 := ⟨⟨wd_504, wd_505, wd_506, wd_507⟩, by decide +kernel⟩
theorem kJ5_83 : zLkU RJ5 83 RJ4 ⟨"java/lang/AbstractStringBuilder", "isLatin1", "()Z"⟩ yJ5_isLatin1_aae02 cJ5_isLatin1_aae02 1 (some .boolean) 0 := ⟨⟨wd_477, wd_478, wd_479, wd_480, wd_105, wd_481⟩, by decide +kernel⟩
theorem kJ5_248 : zLkS RJ5 248 yJ6_getChars_ba4f3 cJ6_getChars_ba4f3 7 (some .int) 3 := ⟨⟨wd_508, wd_509, wd_506, wd_510⟩, by decide +kernel⟩
noncomputable def q_J5_append_c97b9 (u : tJ4) (p1 : Int32) : Option ((Nat → Int32) × Int32) :=
  zb (q_J6_stringSize_0f7a4 p1) fun r7 => zb (q_J5_ensureCapacityInternal_d00df u (u.2.2.2 + r7)) fun r14 => zb (q_J5_isLatin1_aae02 u) fun r18 => (if r18 = 0 then none else zb (q_J6_getChars_ba4f3 16 u.1 p1 (u.2.2.2 + r7)) fun r30 => zn (u.2.2.2 + r7) fun k50 => some (r30.2, k50))
set_option maxRecDepth 100000 in
set_option maxHeartbeats 4000000 in
theorem c_J5_append_c97b9 (l : Launch) (D : va_G) (G : zG) (ad : Nat → Nat) (b : Nat) (u : tJ4) (p1 : Int32) (res : (Nat → Int32) × Int32) (hf : q_J5_append_c97b9 u p1 = some res) : zMq l yJ5_append_c97b9 cJ5_append_c97b9 4 (some (.object "java/lang/AbstractStringBuilder")) 1 26 D G (wJ4 G ad b u) (wJ4 G ad b (res.1, u.2.1, u.2.2.1, res.2)) [.ref (ad b), .int p1] (ad b) := by
  refine zs_q (Or.inl ⟨_, rfl⟩) (by decide +kernel) (Nat.le_of_ble_eq_true rfl) ?_
  intro p e s m args below meth c A Q H ls C0 hret hP hD hS hl
  obtain ⟨hx, hb, hml, hown, hW, hK, hlocks, hF, hr, hA⟩ := id C0
  replace hl : lv_has ls 4 [(0, .ref (ad b)), (1, .int p1)] := hl
  unfold q_J5_append_c97b9 at hf
  refine lv_aload_n hx hb dJ5_append_c97b9_0 rfl (lv_at hl 0 rfl) ?_
  refine va_get (D := D) (ci := 0) (v := .int u.2.2.2) (C := RJ4) (T := TJ4) (N := 4) hx hb hW inlJ4 hown hK hP 0 rfl rfl 3 (by decide) (hW _ wd_443) (fun _ h9 => h9) rfl dJ5_append_c97b9_1 ?_
  refine lv_istore_n (lv' := [(2, .int u.2.2.2), (0, .ref (ad b)), (1, .int p1)]) hx hb dJ5_append_c97b9_4 rfl hl (by decide) rfl (fun ls hl => ?_)
  refine lv_iload_n hx hb dJ5_append_c97b9_5 rfl (lv_at hl 0 rfl) ?_
  refine lv_iload_n hx hb dJ5_append_c97b9_6 rfl (lv_at hl 2 rfl) ?_
  replace hf := zb_s hf
  obtain ⟨r7, hr7, hf⟩ := hf
  refine z_Si (rest := [.int u.2.2.2]) C0 kJ5_245 (c_J6_stringSize_0f7a4 l D G p1 r7 hr7) (List.Perm.refl _) (List.Perm.refl _) rfl ⟨Nat.le_of_ble_eq_true rfl, Nat.le_of_ble_eq_true rfl⟩ (Nat.le_of_ble_eq_true rfl) rfl hl.1 hP hD hS dJ5_append_c97b9_7 (fun H locs hP hD hS => ?_)
  refine lv_iadd hx hb dJ5_append_c97b9_10 ?_
  refine lv_istore_n (lv' := [(3, .int (u.2.2.2 + r7)), (2, .int u.2.2.2), (0, .ref (ad b)), (1, .int p1)]) hx hb dJ5_append_c97b9_11 rfl hl (by decide) rfl (fun ls hl => ?_)
  refine lv_aload_n hx hb dJ5_append_c97b9_12 rfl (lv_at hl 2 rfl) ?_
  refine lv_iload_n hx hb dJ5_append_c97b9_13 rfl (lv_at hl 0 rfl) ?_
  replace hf := zb_s hf
  obtain ⟨r14, hr14, hf⟩ := hf
  refine z_Uv (rest := []) C0 kJ5_100 (c_J5_ensureCapacityInternal_d00df l D G ad (b) u (u.2.2.2 + r7) r14 hr14) z_pall z_pall.symm (C := RJ4) (ci := 0) (T := TJ4) (N := 4) rfl rfl rfl ⟨Nat.le_of_ble_eq_true rfl, Nat.le_of_ble_eq_true rfl⟩ (Nat.le_of_ble_eq_true rfl) rfl hl.1 hP hD hS dJ5_append_c97b9_14 (fun H locs hP hD hS => ?_)
  refine lv_aload_n hx hb dJ5_append_c97b9_17 rfl (lv_at hl 2 rfl) ?_
  replace hf := zb_s hf
  obtain ⟨r18, hr18, hf⟩ := hf
  refine z_Ui (rest := []) C0 kJ5_83 (c_J5_isLatin1_aae02 l D G ad (b) u r18 hr18) z_pall z_pall.symm (C := RJ4) (ci := 0) (T := TJ4) (N := 4) rfl rfl rfl ⟨Nat.le_of_ble_eq_true rfl, Nat.le_of_ble_eq_true rfl⟩ (Nat.le_of_ble_eq_true rfl) rfl hl.1 hP hD hS dJ5_append_c97b9_18 (fun H locs hP hD hS => ?_)
  refine lv_if_eq (tgt := 37) hx hb dJ5_append_c97b9_21 (by decide) (fun c21 => ?_) (fun c21 => ?_)
  · replace hf := zi_p hf c21
    cases hf
  · replace hf := zi_n hf c21
    refine lv_iload_n hx hb dJ5_append_c97b9_24 rfl (lv_at hl 3 rfl) ?_
    refine lv_iload_n hx hb dJ5_append_c97b9_25 rfl (lv_at hl 0 rfl) ?_
    refine lv_aload_n hx hb dJ5_append_c97b9_26 rfl (lv_at hl 2 rfl) ?_
    refine va_get (D := D) (ci := 0) (v := .ref (ad (b + 1))) (C := RJ4) (T := TJ4) (N := 4) hx hb hW inlJ4 hown hK hP 0 rfl rfl 0 (by decide) (hW _ wd_110) (fun _ h9 => h9) rfl dJ5_append_c97b9_27 ?_
    replace hf := zb_s hf
    obtain ⟨r30, hr30, hf⟩ := hf
    refine z_Si (rest := []) C0 kJ5_248 (c_J6_getChars_ba4f3 l D G ad (b + 1) 16 u.1 p1 (u.2.2.2 + r7) r30 hr30) (pmJ4_value G ad (b) u) (pnJ4_value G ad (b) u r30.2) rfl ⟨Nat.le_of_ble_eq_true rfl, Nat.le_of_ble_eq_true rfl⟩ (Nat.le_of_ble_eq_true rfl) rfl hl.1 hP hD hS dJ5_append_c97b9_30 (fun H locs hP hD hS => ?_)
    replace hP : va_P D vwCl (wJ4 G ad b (r30.2, u.2.1, u.2.2.1, u.2.2.2)) H := hP
    replace hD : va_D A (wJ4 G ad b (r30.2, u.2.1, u.2.2.1, u.2.2.2)) := hD
    refine lv_pop hx hb dJ5_append_c97b9_33 rfl ?_
    refine lv_goto (tgt := 48) hx hb dJ5_append_c97b9_34 (by decide) ?_
    refine lv_aload_n hx hb dJ5_append_c97b9_48 rfl (lv_at hl 2 rfl) ?_
    refine lv_iload_n hx hb dJ5_append_c97b9_49 rfl (lv_at hl 0 rfl) ?_
    replace hf := zn_s hf
    obtain ⟨k50, ek50, hf⟩ := hf
    refine z_top ek50 ?_
    refine z_put (ws' := wJ4 G ad b (r30.2, u.2.1, u.2.2.1, k50)) (ci := 0) (C := RJ4) (T := TJ4) (N := 4) hx hb hW inlJ4 tyJ4 tyJ4_ok nmJ4 hown hK hP hD hS 0 rfl rfl 3 (by decide) (hW _ wd_443) rfl rfl (Nat.le_of_ble_eq_true rfl) rfl dJ5_append_c97b9_50 (fun H locs hP hD hS => ?_)
    refine lv_aload_n hx hb dJ5_append_c97b9_53 rfl (lv_at hl 2 rfl) ?_
    obtain rfl := zo hf
    exact hret _ _ _ _ _ hP hD hS rfl dJ5_append_c97b9_54
theorem kJ4_53 : zLkP RJ4 53 yJ5_append_c97b9 cJ5_append_c97b9 4 (some (.object "java/lang/AbstractStringBuilder")) 1 := ⟨⟨wd_500, wd_501, wd_440, wd_502, wd_105, wd_503⟩, by decide +kernel⟩
noncomputable def q_J4_append_bf812 (u : tJ4) (p1 : Int32) : Option ((Nat → Int32) × Int32) :=
  zb (q_J5_append_c97b9 u p1) fun r2 => some (r2.1, r2.2)
set_option maxRecDepth 100000 in
set_option maxHeartbeats 4000000 in
theorem c_J4_append_bf812 (l : Launch) (D : va_G) (G : zG) (ad : Nat → Nat) (b : Nat) (u : tJ4) (p1 : Int32) (res : (Nat → Int32) × Int32) (hf : q_J4_append_bf812 u p1 = some res) : zMq l yJ4_append_bf812 cJ4_append_bf812 2 (some (.object "java/lang/StringBuilder")) 2 49 D G (wJ4 G ad b u) (wJ4 G ad b (res.1, u.2.1, u.2.2.1, res.2)) [.ref (ad b), .int p1] (ad b) := by
  refine zs_q (Or.inl ⟨_, rfl⟩) (by decide +kernel) (Nat.le_of_ble_eq_true rfl) ?_
  intro p e s m args below meth c A Q H ls C0 hret hP hD hS hl
  obtain ⟨hx, hb, hml, hown, hW, hK, hlocks, hF, hr, hA⟩ := id C0
  replace hl : lv_has ls 2 [(0, .ref (ad b)), (1, .int p1)] := hl
  unfold q_J4_append_bf812 at hf
  refine lv_aload_n hx hb dJ4_append_bf812_0 rfl (lv_at hl 0 rfl) ?_
  refine lv_iload_n hx hb dJ4_append_bf812_1 rfl (lv_at hl 1 rfl) ?_
  replace hf := zb_s hf
  obtain ⟨r2, hr2, hf⟩ := hf
  refine z_Pq (rest := []) C0 kJ4_53 (c_J5_append_c97b9 l D G ad (b) u p1 r2 hr2) z_pall z_pall.symm (C := RJ4) (ci := 0) (T := TJ4) (N := 4) rfl rfl rfl ⟨Nat.le_of_ble_eq_true rfl, Nat.le_of_ble_eq_true rfl⟩ (Nat.le_of_ble_eq_true rfl) rfl hl.1 hP hD hS dJ4_append_bf812_2 (fun H locs hP hD hS => ?_)
  replace hP : va_P D vwCl (wJ4 G ad b (r2.1, u.2.1, u.2.2.1, r2.2)) H := hP
  replace hD : va_D A (wJ4 G ad b (r2.1, u.2.1, u.2.2.1, r2.2)) := hD
  refine lv_pop hx hb dJ4_append_bf812_5 rfl ?_
  refine lv_aload_n hx hb dJ4_append_bf812_6 rfl (lv_at hl 0 rfl) ?_
  obtain rfl := zo hf
  exact hret _ _ _ _ _ hP hD hS rfl dJ4_append_bf812_7
noncomputable def q_J1_canEncode_fc78d (p0 : Int32) : Option (Int32) :=
  (if 255 < p0 then some (0) else some (1))
set_option maxRecDepth 100000 in
set_option maxHeartbeats 4000000 in
theorem c_J1_canEncode_fc78d (l : Launch) (D : va_G) (G : zG)  (p0 : Int32) (res : Int32) (hf : q_J1_canEncode_fc78d p0 = some res) : zMi l yJ1_canEncode_fc78d cJ1_canEncode_fc78d 1 (some .boolean) 0 0 D G (([] : va_W)) (([] : va_W)) [.int p0] res := by
  refine zs_z (by decide +kernel) (Nat.le_of_ble_eq_true rfl) ?_
  intro p e s m args below meth c A Q H ls C0 hret hP hD hS hl
  obtain ⟨hx, hb, hml, hown, hW, hK, hlocks, hF, hr, hA⟩ := id C0
  replace hl : lv_has ls 1 [(0, .int p0)] := hl
  unfold q_J1_canEncode_fc78d at hf
  refine lv_iload_n hx hb dJ1_canEncode_fc78d_0 rfl (lv_at hl 0 rfl) ?_
  refine lv_sipush (v := 255) hx hb dJ1_canEncode_fc78d_1 (by decide) ?_
  refine lv_icmp_gt (tgt := 11) hx hb dJ1_canEncode_fc78d_4 (by decide) (fun c4 => ?_) (fun c4 => ?_)
  · replace hf := zi_p hf c4
    refine lv_iconst (v := 0) hx hb dJ1_canEncode_fc78d_11 (by decide) ?_
    obtain rfl := zo hf
    exact hret _ _ _ _ _ hP hD hS rfl rfl dJ1_canEncode_fc78d_12
  · replace hf := zi_n hf c4
    refine lv_iconst (v := 1) hx hb dJ1_canEncode_fc78d_7 (by decide) ?_
    refine lv_goto (tgt := 12) hx hb dJ1_canEncode_fc78d_8 (by decide) ?_
    obtain rfl := zo hf
    exact hret _ _ _ _ _ hP hD hS rfl rfl dJ1_canEncode_fc78d_12
theorem kJ5_191 : zLkS RJ5 191 yJ1_canEncode_fc78d cJ1_canEncode_fc78d 1 (some .boolean) 1 := ⟨⟨wd_550, wd_551, wd_484, wd_552⟩, by decide +kernel⟩
noncomputable def q_J5_append_3fe6f (u : tJ4) (p1 : Int32) : Option ((Nat → Int32) × Int32) :=
  zb (q_J5_ensureCapacityInternal_d00df u (u.2.2.2 + 1)) fun r7 => zb (q_J5_isLatin1_aae02 u) fun r11 => (if r11 = 0 then none else zb (q_J1_canEncode_fc78d p1) fun r18 => (if r18 = 0 then none else zn (u.2.2.2 + 1) fun k36 => zs 16 u.1 u.2.2.2 (vp_nar .byte (Int8.toInt32 (Int32.toInt8 p1))) fun s41 => some (s41, k36)))
set_option maxRecDepth 100000 in
set_option maxHeartbeats 4000000 in
theorem c_J5_append_3fe6f (l : Launch) (D : va_G) (G : zG) (ad : Nat → Nat) (b : Nat) (u : tJ4) (p1 : Int32) (res : (Nat → Int32) × Int32) (hf : q_J5_append_3fe6f u p1 = some res) : zMq l yJ5_append_3fe6f cJ5_append_3fe6f 2 (some (.object "java/lang/AbstractStringBuilder")) 1 22 D G (wJ4 G ad b u) (wJ4 G ad b (res.1, u.2.1, u.2.2.1, res.2)) [.ref (ad b), .int p1] (ad b) := by
  refine zs_q (Or.inl ⟨_, rfl⟩) (by decide +kernel) (Nat.le_of_ble_eq_true rfl) ?_
  intro p e s m args below meth c A Q H ls C0 hret hP hD hS hl
  obtain ⟨hx, hb, hml, hown, hW, hK, hlocks, hF, hr, hA⟩ := id C0
  replace hl : lv_has ls 2 [(0, .ref (ad b)), (1, .int p1)] := hl
  unfold q_J5_append_3fe6f at hf
  refine lv_aload_n hx hb dJ5_append_3fe6f_0 rfl (lv_at hl 0 rfl) ?_
  refine lv_aload_n hx hb dJ5_append_3fe6f_1 rfl (lv_at hl 0 rfl) ?_
  refine va_get (D := D) (ci := 0) (v := .int u.2.2.2) (C := RJ4) (T := TJ4) (N := 4) hx hb hW inlJ4 hown hK hP 0 rfl rfl 3 (by decide) (hW _ wd_443) (fun _ h9 => h9) rfl dJ5_append_3fe6f_2 ?_
  refine lv_iconst (v := 1) hx hb dJ5_append_3fe6f_5 (by decide) ?_
  refine lv_iadd hx hb dJ5_append_3fe6f_6 ?_
  replace hf := zb_s hf
  obtain ⟨r7, hr7, hf⟩ := hf
  refine z_Uv (rest := []) C0 kJ5_100 (c_J5_ensureCapacityInternal_d00df l D G ad (b) u (u.2.2.2 + 1) r7 hr7) z_pall z_pall.symm (C := RJ4) (ci := 0) (T := TJ4) (N := 4) rfl rfl rfl ⟨Nat.le_of_ble_eq_true rfl, Nat.le_of_ble_eq_true rfl⟩ (Nat.le_of_ble_eq_true rfl) rfl hl.1 hP hD hS dJ5_append_3fe6f_7 (fun H locs hP hD hS => ?_)
  refine lv_aload_n hx hb dJ5_append_3fe6f_10 rfl (lv_at hl 0 rfl) ?_
  replace hf := zb_s hf
  obtain ⟨r11, hr11, hf⟩ := hf
  refine z_Ui (rest := []) C0 kJ5_83 (c_J5_isLatin1_aae02 l D G ad (b) u r11 hr11) z_pall z_pall.symm (C := RJ4) (ci := 0) (T := TJ4) (N := 4) rfl rfl rfl ⟨Nat.le_of_ble_eq_true rfl, Nat.le_of_ble_eq_true rfl⟩ (Nat.le_of_ble_eq_true rfl) rfl hl.1 hP hD hS dJ5_append_3fe6f_11 (fun H locs hP hD hS => ?_)
  refine lv_if_eq (tgt := 45) hx hb dJ5_append_3fe6f_14 (by decide) (fun c14 => ?_) (fun c14 => ?_)
  · replace hf := zi_p hf c14
    cases hf
  · replace hf := zi_n hf c14
    refine lv_iload_n hx hb dJ5_append_3fe6f_17 rfl (lv_at hl 1 rfl) ?_
    replace hf := zb_s hf
    obtain ⟨r18, hr18, hf⟩ := hf
    refine z_Si (rest := []) C0 kJ5_191 (c_J1_canEncode_fc78d l D G p1 r18 hr18) (List.Perm.refl _) (List.Perm.refl _) rfl ⟨Nat.le_of_ble_eq_true rfl, Nat.le_of_ble_eq_true rfl⟩ (Nat.le_of_ble_eq_true rfl) rfl hl.1 hP hD hS dJ5_append_3fe6f_18 (fun H locs hP hD hS => ?_)
    refine lv_if_eq (tgt := 45) hx hb dJ5_append_3fe6f_21 (by decide) (fun c21 => ?_) (fun c21 => ?_)
    · replace hf := zi_p hf c21
      cases hf
    · replace hf := zi_n hf c21
      refine lv_aload_n hx hb dJ5_append_3fe6f_24 rfl (lv_at hl 0 rfl) ?_
      refine va_get (D := D) (ci := 0) (v := .ref (ad (b + 1))) (C := RJ4) (T := TJ4) (N := 4) hx hb hW inlJ4 hown hK hP 0 rfl rfl 0 (by decide) (hW _ wd_110) (fun _ h9 => h9) rfl dJ5_append_3fe6f_25 ?_
      refine lv_aload_n hx hb dJ5_append_3fe6f_28 rfl (lv_at hl 0 rfl) ?_
      refine lv_dup hx hb dJ5_append_3fe6f_29 rfl ?_
      refine va_get (D := D) (ci := 0) (v := .int u.2.2.2) (C := RJ4) (T := TJ4) (N := 4) hx hb hW inlJ4 hown hK hP 0 rfl rfl 3 (by decide) (hW _ wd_443) (fun _ h9 => h9) rfl dJ5_append_3fe6f_30 ?_
      refine lv_dup_x1 hx hb dJ5_append_3fe6f_33 rfl rfl ?_
      refine lv_iconst (v := 1) hx hb dJ5_append_3fe6f_34 (by decide) ?_
      refine lv_iadd hx hb dJ5_append_3fe6f_35 ?_
      replace hf := zn_s hf
      obtain ⟨k36, ek36, hf⟩ := hf
      refine z_top ek36 ?_
      refine z_put (ws' := wJ4 G ad b (u.1, u.2.1, u.2.2.1, k36)) (ci := 0) (C := RJ4) (T := TJ4) (N := 4) hx hb hW inlJ4 tyJ4 tyJ4_ok nmJ4 hown hK hP hD hS 0 rfl rfl 3 (by decide) (hW _ wd_443) rfl rfl (Nat.le_of_ble_eq_true rfl) rfl dJ5_append_3fe6f_36 (fun H locs hP hD hS => ?_)
      refine lv_iload_n hx hb dJ5_append_3fe6f_39 rfl (lv_at hl 1 rfl) ?_
      refine lv_i2b (v := (Int8.toInt32 (Int32.toInt8 p1))) hx hb dJ5_append_3fe6f_40 rfl ?_
      replace hf := zs_s hf
      obtain ⟨hi41, s41, es41, hf⟩ := hf
      refine z_bast (ws' := wJ4 G ad b (s41, u.2.1, u.2.2.1, k36)) hx hb hK hP hD hS 1 2 rfl rfl hi41 es41 rfl dJ5_append_3fe6f_41 (fun H locs hP hD hS => ?_)
      refine lv_goto (tgt := 75) hx hb dJ5_append_3fe6f_42 (by decide) ?_
      refine lv_aload_n hx hb dJ5_append_3fe6f_75 rfl (lv_at hl 0 rfl) ?_
      obtain rfl := zo hf
      exact hret _ _ _ _ _ hP hD hS rfl dJ5_append_3fe6f_76
theorem kJ4_50 : zLkP RJ4 50 yJ5_append_3fe6f cJ5_append_3fe6f 2 (some (.object "java/lang/AbstractStringBuilder")) 1 := ⟨⟨wd_546, wd_547, wd_440, wd_548, wd_105, wd_549⟩, by decide +kernel⟩
noncomputable def q_J4_append_cf468 (u : tJ4) (p1 : Int32) : Option ((Nat → Int32) × Int32) :=
  zb (q_J5_append_3fe6f u p1) fun r2 => some (r2.1, r2.2)
set_option maxRecDepth 100000 in
set_option maxHeartbeats 4000000 in
theorem c_J4_append_cf468 (l : Launch) (D : va_G) (G : zG) (ad : Nat → Nat) (b : Nat) (u : tJ4) (p1 : Int32) (res : (Nat → Int32) × Int32) (hf : q_J4_append_cf468 u p1 = some res) : zMq l yJ4_append_cf468 cJ4_append_cf468 2 (some (.object "java/lang/StringBuilder")) 2 43 D G (wJ4 G ad b u) (wJ4 G ad b (res.1, u.2.1, u.2.2.1, res.2)) [.ref (ad b), .int p1] (ad b) := by
  refine zs_q (Or.inl ⟨_, rfl⟩) (by decide +kernel) (Nat.le_of_ble_eq_true rfl) ?_
  intro p e s m args below meth c A Q H ls C0 hret hP hD hS hl
  obtain ⟨hx, hb, hml, hown, hW, hK, hlocks, hF, hr, hA⟩ := id C0
  replace hl : lv_has ls 2 [(0, .ref (ad b)), (1, .int p1)] := hl
  unfold q_J4_append_cf468 at hf
  refine lv_aload_n hx hb dJ4_append_cf468_0 rfl (lv_at hl 0 rfl) ?_
  refine lv_iload_n hx hb dJ4_append_cf468_1 rfl (lv_at hl 1 rfl) ?_
  replace hf := zb_s hf
  obtain ⟨r2, hr2, hf⟩ := hf
  refine z_Pq (rest := []) C0 kJ4_50 (c_J5_append_3fe6f l D G ad (b) u p1 r2 hr2) z_pall z_pall.symm (C := RJ4) (ci := 0) (T := TJ4) (N := 4) rfl rfl rfl ⟨Nat.le_of_ble_eq_true rfl, Nat.le_of_ble_eq_true rfl⟩ (Nat.le_of_ble_eq_true rfl) rfl hl.1 hP hD hS dJ4_append_cf468_2 (fun H locs hP hD hS => ?_)
  replace hP : va_P D vwCl (wJ4 G ad b (r2.1, u.2.1, u.2.2.1, r2.2)) H := hP
  replace hD : va_D A (wJ4 G ad b (r2.1, u.2.1, u.2.2.1, r2.2)) := hD
  refine lv_pop hx hb dJ4_append_cf468_5 rfl ?_
  refine lv_aload_n hx hb dJ4_append_cf468_6 rfl (lv_at hl 0 rfl) ?_
  obtain rfl := zo hf
  exact hret _ _ _ _ _ hP hD hS rfl dJ4_append_cf468_7
noncomputable def q_J0_getBytes_840e7 (n : Nat) (u : Nat → Int32) (k : Nat) (p2 : Int32) (p3 : Int32) : Option ((Nat → Int32)) :=
  zq (k < 6) (zb (q_J0_coder_7d493 k) fun r1 => (if r1 = p3 then zq (k < 6) (zq (k < 6) (zq (k < 6) (zq (k < 6) (zq (¬ (p2 <<< (p3 &&& 31)) < 0 ∧ Int32.toNatClampNeg (p2 <<< (p3 &&& 31)) + zSL k ≤ n) (zn (va_cpy (zSB k) u 0 (Int32.toNatClampNeg (p2 <<< (p3 &&& 31))) (zSL k)) fun s22 => some (s22)))))) else none))
set_option maxRecDepth 100000 in
set_option maxHeartbeats 4000000 in
theorem c_J0_getBytes_840e7 (l : Launch) (D : va_G) (G : zG) (ad : Nat → Nat) (b : Nat) (n : Nat) (u : Nat → Int32) (k : Nat) (p2 : Int32) (p3 : Int32) (res : (Nat → Int32)) (hf : q_J0_getBytes_840e7 n u k p2 p3 = some res) : zMv l yJ0_getBytes_840e7 cJ0_getBytes_840e7 4 none 1 26 D G (wAB G ad b n u) (wAB G ad b n res) [.ref (G.2.2.2.1 k), .ref (ad b), .int p2, .int p3] := by
  refine zs_v (by decide +kernel) (Nat.le_of_ble_eq_true rfl) ?_
  intro p e s m args below meth c A Q H ls C0 hret hP hD hS hl
  obtain ⟨hx, hb, hml, hown, hW, hK, hlocks, hF, hr, hA⟩ := id C0
  replace hl : lv_has ls 4 [(0, .ref (G.2.2.2.1 k)), (1, .ref (ad b)), (2, .int p2), (3, .int p3)] := hl
  unfold q_J0_getBytes_840e7 at hf
  refine lv_aload_n hx hb dJ0_getBytes_840e7_0 rfl (lv_at hl 0 rfl) ?_
  replace hf := zq_s hf
  obtain ⟨hk14, hf⟩ := hf
  replace hf := zb_s hf
  obtain ⟨r1, hr1, hf⟩ := hf
  refine z_Ti (rest := []) C0 kJ0_335 (c_J0_coder_7d493 l D G k r1 hr1) (List.Perm.refl _) (List.Perm.refl _) (kS := k) hk14 rfl rfl ⟨Nat.le_of_ble_eq_true rfl, Nat.le_of_ble_eq_true rfl⟩ (Nat.le_of_ble_eq_true rfl) rfl hl.1 hP hD hS dJ0_getBytes_840e7_1 (fun H locs hP hD hS => ?_)
  refine lv_iload_n hx hb dJ0_getBytes_840e7_4 rfl (lv_at hl 3 rfl) ?_
  refine lv_icmp_ne (tgt := 28) hx hb dJ0_getBytes_840e7_5 (by decide) (fun c5 => ?_) (fun c5 => ?_)
  · replace hf := zi_n hf c5
    cases hf
  · replace hf := zi_p hf c5
    refine lv_aload_n hx hb dJ0_getBytes_840e7_8 rfl (lv_at hl 0 rfl) ?_
    replace hf := zq_s hf
    obtain ⟨hk14, hf⟩ := hf
    refine vk_getf (ref := "java/lang/String") hx hb (zF_str hF hk14).2.2.1 hS hown (hW _ wd_608) (fun _ h9 => h9) dJ0_getBytes_840e7_9 ?_
    refine lv_iconst (v := 0) hx hb dJ0_getBytes_840e7_12 (by decide) ?_
    refine lv_aload_n hx hb dJ0_getBytes_840e7_13 rfl (lv_at hl 1 rfl) ?_
    refine lv_iload_n hx hb dJ0_getBytes_840e7_14 rfl (lv_at hl 2 rfl) ?_
    refine lv_iload_n hx hb dJ0_getBytes_840e7_15 rfl (lv_at hl 3 rfl) ?_
    refine lv_ishl hx hb dJ0_getBytes_840e7_16 ?_
    refine lv_aload_n hx hb dJ0_getBytes_840e7_17 rfl (lv_at hl 0 rfl) ?_
    replace hf := zq_s hf
    obtain ⟨hk14, hf⟩ := hf
    refine vk_getf (ref := "java/lang/String") hx hb (zF_str hF hk14).2.2.1 hS hown (hW _ wd_608) (fun _ h9 => h9) dJ0_getBytes_840e7_18 ?_
    replace hf := zq_s hf
    obtain ⟨hk14, hf⟩ := hf
    refine va_tlen (v := nI (zSL k)) hx hb (zF_str hF hk14).2.2.2 hS rfl dJ0_getBytes_840e7_21 ?_
    replace hf := zq_s hf
    obtain ⟨hk14, hf⟩ := hf
    replace hf := zq_s hf
    obtain ⟨hq, hf⟩ := hf
    replace hf := zn_s hf
    obtain ⟨s22, es22, hf⟩ := hf
    refine z_copys (ws' := wAB G ad b n s22) hx hb (hml.trans hl.1.symm) hown (hW _ wd_630) (hW _ wd_58) (hW _ wd_59) (hW _ wd_60) hK hP hD hS (zF_str hF hk14).2.2.2 hk14 0 2 rfl rfl hq.1 hq.2 es22 rfl (Nat.le_of_ble_eq_true rfl) (Nat.le_of_ble_eq_true rfl) dJ0_getBytes_840e7_22 (fun H locs hP hD hS => ?_)
    refine lv_goto (tgt := 43) hx hb dJ0_getBytes_840e7_25 (by decide) ?_
    obtain rfl := zo hf
    exact hret _ _ _ _ hP hD hS dJ0_getBytes_840e7_43
theorem kJ5_40 : zLkV RJ5 40 yJ0_coder_7d493 cJ0_coder_7d493 1 (some .byte) 0 := ⟨⟨wd_625, wd_610, wd_611, wd_525, wd_612⟩, by decide +kernel⟩
noncomputable def q_J5_inflateIfNeededFor_a7421 (u : tJ4) (k1 : Nat) : Option (Unit) :=
  (if (1 : Int32) = 0 then some () else zq (k1 < 6) (zb (q_J0_coder_7d493 k1) fun r11 => (if u.2.1 = r11 then some () else none)))
set_option maxRecDepth 100000 in
set_option maxHeartbeats 4000000 in
theorem c_J5_inflateIfNeededFor_a7421 (l : Launch) (D : va_G) (G : zG) (ad : Nat → Nat) (b : Nat) (u : tJ4) (k1 : Nat) (res : Unit) (hf : q_J5_inflateIfNeededFor_a7421 u k1 = some res) : zMv l yJ5_inflateIfNeededFor_a7421 cJ5_inflateIfNeededFor_a7421 2 none 1 20 D G (wJ4 G ad b u) (wJ4 G ad b u) [.ref (ad b), .ref (G.2.2.2.1 k1)] := by
  refine zs_v (by decide +kernel) (Nat.le_of_ble_eq_true rfl) ?_
  intro p e s m args below meth c A Q H ls C0 hret hP hD hS hl
  obtain ⟨hx, hb, hml, hown, hW, hK, hlocks, hF, hr, hA⟩ := id C0
  replace hl : lv_has ls 2 [(0, .ref (ad b)), (1, .ref (G.2.2.2.1 k1))] := hl
  unfold q_J5_inflateIfNeededFor_a7421 at hf
  refine va_gets (ref := "java/lang/String") hx hb hF.2.2.2.2.2.2.1 hS hown (hW _ wd_108) (fun _ h9 => h9) dJ5_inflateIfNeededFor_a7421_0 ?_
  refine lv_if_eq (tgt := 21) hx hb dJ5_inflateIfNeededFor_a7421_3 (by decide) (fun c3 => ?_) (fun c3 => ?_)
  · replace hf := zi_p hf c3
    obtain rfl := zo hf
    exact hret _ _ _ _ hP hD hS dJ5_inflateIfNeededFor_a7421_21
  · replace hf := zi_n hf c3
    refine lv_aload_n hx hb dJ5_inflateIfNeededFor_a7421_6 rfl (lv_at hl 0 rfl) ?_
    refine va_get (D := D) (ci := 0) (v := .int u.2.1) (C := RJ4) (T := TJ4) (N := 4) hx hb hW inlJ4 hown hK hP 0 rfl rfl 1 (by decide) (hW _ wd_111) (fun _ h9 => h9) rfl dJ5_inflateIfNeededFor_a7421_7 ?_
    refine lv_aload_n hx hb dJ5_inflateIfNeededFor_a7421_10 rfl (lv_at hl 1 rfl) ?_
    replace hf := zq_s hf
    obtain ⟨hk14, hf⟩ := hf
    replace hf := zb_s hf
    obtain ⟨r11, hr11, hf⟩ := hf
    refine z_Ti (rest := [.int u.2.1]) C0 kJ5_40 (c_J0_coder_7d493 l D G k1 r11 hr11) (List.Perm.refl _) (List.Perm.refl _) (kS := k1) hk14 rfl rfl ⟨Nat.le_of_ble_eq_true rfl, Nat.le_of_ble_eq_true rfl⟩ (Nat.le_of_ble_eq_true rfl) rfl hl.1 hP hD hS dJ5_inflateIfNeededFor_a7421_11 (fun H locs hP hD hS => ?_)
    refine lv_icmp_eq (tgt := 21) hx hb dJ5_inflateIfNeededFor_a7421_14 (by decide) (fun c14 => ?_) (fun c14 => ?_)
    · replace hf := zi_p hf c14
      obtain rfl := zo hf
      exact hret _ _ _ _ hP hD hS dJ5_inflateIfNeededFor_a7421_21
    · replace hf := zi_n hf c14
      cases hf
theorem kJ5_397 : zLkU RJ5 397 RJ4 ⟨"java/lang/AbstractStringBuilder", "inflateIfNeededFor", "(Ljava/lang/String;)V"⟩ yJ5_inflateIfNeededFor_a7421 cJ5_inflateIfNeededFor_a7421 2 none 1 := ⟨⟨wd_620, wd_621, wd_622, wd_623, wd_105, wd_624⟩, by decide +kernel⟩
theorem kJ5_399 : zLkV RJ5 399 yJ0_getBytes_840e7 cJ0_getBytes_840e7 4 none 3 := ⟨⟨wd_626, wd_627, wd_628, wd_525, wd_629⟩, by decide +kernel⟩
noncomputable def q_J5_putStringAt_47b60 (u : tJ4) (p1 : Int32) (k2 : Nat) : Option ((Nat → Int32)) :=
  zb (q_J5_inflateIfNeededFor_a7421 u k2) fun r2 => zq (k2 < 6) (zb (q_J0_getBytes_840e7 16 u.1 k2 p1 u.2.1) fun r15 => some (r15))
set_option maxRecDepth 100000 in
set_option maxHeartbeats 4000000 in
theorem c_J5_putStringAt_47b60 (l : Launch) (D : va_G) (G : zG) (ad : Nat → Nat) (b : Nat) (u : tJ4) (p1 : Int32) (k2 : Nat) (res : (Nat → Int32)) (hf : q_J5_putStringAt_47b60 u p1 k2 = some res) : zMv l yJ5_putStringAt_47b60 cJ5_putStringAt_47b60 3 none 2 49 D G (wJ4 G ad b u) (wJ4 G ad b (res, u.2.1, u.2.2.1, u.2.2.2)) [.ref (ad b), .int p1, .ref (G.2.2.2.1 k2)] := by
  refine zs_v (by decide +kernel) (Nat.le_of_ble_eq_true rfl) ?_
  intro p e s m args below meth c A Q H ls C0 hret hP hD hS hl
  obtain ⟨hx, hb, hml, hown, hW, hK, hlocks, hF, hr, hA⟩ := id C0
  replace hl : lv_has ls 3 [(0, .ref (ad b)), (1, .int p1), (2, .ref (G.2.2.2.1 k2))] := hl
  unfold q_J5_putStringAt_47b60 at hf
  refine lv_aload_n hx hb dJ5_putStringAt_47b60_0 rfl (lv_at hl 0 rfl) ?_
  refine lv_aload_n hx hb dJ5_putStringAt_47b60_1 rfl (lv_at hl 2 rfl) ?_
  replace hf := zb_s hf
  obtain ⟨r2, hr2, hf⟩ := hf
  refine z_Uv (rest := []) C0 kJ5_397 (c_J5_inflateIfNeededFor_a7421 l D G ad (b) u k2 r2 hr2) z_pall z_pall.symm (C := RJ4) (ci := 0) (T := TJ4) (N := 4) rfl rfl rfl ⟨Nat.le_of_ble_eq_true rfl, Nat.le_of_ble_eq_true rfl⟩ (Nat.le_of_ble_eq_true rfl) rfl hl.1 hP hD hS dJ5_putStringAt_47b60_2 (fun H locs hP hD hS => ?_)
  refine lv_aload_n hx hb dJ5_putStringAt_47b60_5 rfl (lv_at hl 2 rfl) ?_
  refine lv_aload_n hx hb dJ5_putStringAt_47b60_6 rfl (lv_at hl 0 rfl) ?_
  refine va_get (D := D) (ci := 0) (v := .ref (ad (b + 1))) (C := RJ4) (T := TJ4) (N := 4) hx hb hW inlJ4 hown hK hP 0 rfl rfl 0 (by decide) (hW _ wd_110) (fun _ h9 => h9) rfl dJ5_putStringAt_47b60_7 ?_
  refine lv_iload_n hx hb dJ5_putStringAt_47b60_10 rfl (lv_at hl 1 rfl) ?_
  refine lv_aload_n hx hb dJ5_putStringAt_47b60_11 rfl (lv_at hl 0 rfl) ?_
  refine va_get (D := D) (ci := 0) (v := .int u.2.1) (C := RJ4) (T := TJ4) (N := 4) hx hb hW inlJ4 hown hK hP 0 rfl rfl 1 (by decide) (hW _ wd_111) (fun _ h9 => h9) rfl dJ5_putStringAt_47b60_12 ?_
  replace hf := zq_s hf
  obtain ⟨hk14, hf⟩ := hf
  replace hf := zb_s hf
  obtain ⟨r15, hr15, hf⟩ := hf
  refine z_Tv (rest := []) C0 kJ5_399 (c_J0_getBytes_840e7 l D G ad (b + 1) 16 u.1 k2 p1 u.2.1 r15 hr15) (pmJ4_value G ad (b) u) (pnJ4_value G ad (b) u r15) (kS := k2) hk14 rfl rfl ⟨Nat.le_of_ble_eq_true rfl, Nat.le_of_ble_eq_true rfl⟩ (Nat.le_of_ble_eq_true rfl) rfl hl.1 hP hD hS dJ5_putStringAt_47b60_15 (fun H locs hP hD hS => ?_)
  replace hP : va_P D vwCl (wJ4 G ad b (r15, u.2.1, u.2.2.1, u.2.2.2)) H := hP
  replace hD : va_D A (wJ4 G ad b (r15, u.2.1, u.2.2.1, u.2.2.2)) := hD
  obtain rfl := zo hf
  exact hret _ _ _ _ hP hD hS dJ5_putStringAt_47b60_18
theorem kJ5_32 : zLkV RJ5 32 yJ0_length_8abf5 cJ0_length_8abf5 1 (some .int) 0 := ⟨⟨wd_604, wd_605, wd_606, wd_525, wd_607⟩, by decide +kernel⟩
theorem kJ5_208 : zLkU RJ5 208 RJ4 ⟨"java/lang/AbstractStringBuilder", "putStringAt", "(ILjava/lang/String;)V"⟩ yJ5_putStringAt_47b60 cJ5_putStringAt_47b60 3 none 2 := ⟨⟨wd_615, wd_616, wd_617, wd_618, wd_105, wd_619⟩, by decide +kernel⟩
noncomputable def q_J5_append_cf1ce (u : tJ4) (k1 : Nat) : Option ((Nat → Int32) × Int32) :=
  zq (k1 < 6) (zb (q_J0_length_8abf5 k1) fun r10 => zb (q_J5_ensureCapacityInternal_d00df u (u.2.2.2 + r10)) fun r21 => zb (q_J5_putStringAt_47b60 u u.2.2.2 k1) fun r30 => zn (u.2.2.2 + r10) fun k40 => some (r30, k40))
set_option maxRecDepth 100000 in
set_option maxHeartbeats 4000000 in
theorem c_J5_append_cf1ce (l : Launch) (D : va_G) (G : zG) (ad : Nat → Nat) (b : Nat) (u : tJ4) (k1 : Nat) (res : (Nat → Int32) × Int32) (hf : q_J5_append_cf1ce u k1 = some res) : zMq l yJ5_append_cf1ce cJ5_append_cf1ce 3 (some (.object "java/lang/AbstractStringBuilder")) 3 71 D G (wJ4 G ad b u) (wJ4 G ad b (res.1, u.2.1, u.2.2.1, res.2)) [.ref (ad b), .ref (G.2.2.2.1 k1)] (ad b) := by
  refine zs_q (Or.inl ⟨_, rfl⟩) (by decide +kernel) (Nat.le_of_ble_eq_true rfl) ?_
  intro p e s m args below meth c A Q H ls C0 hret hP hD hS hl
  obtain ⟨hx, hb, hml, hown, hW, hK, hlocks, hF, hr, hA⟩ := id C0
  replace hl : lv_has ls 3 [(0, .ref (ad b)), (1, .ref (G.2.2.2.1 k1))] := hl
  unfold q_J5_append_cf1ce at hf
  refine lv_aload_n hx hb dJ5_append_cf1ce_0 rfl (lv_at hl 1 rfl) ?_
  refine lv_ifnonnull (tgt := 9) hx hb dJ5_append_cf1ce_1 (by decide) ?_
  refine lv_aload_n hx hb dJ5_append_cf1ce_9 rfl (lv_at hl 1 rfl) ?_
  replace hf := zq_s hf
  obtain ⟨hk14, hf⟩ := hf
  replace hf := zb_s hf
  obtain ⟨r10, hr10, hf⟩ := hf
  refine z_Ti (rest := []) C0 kJ5_32 (c_J0_length_8abf5 l D G k1 r10 hr10) (List.Perm.refl _) (List.Perm.refl _) (kS := k1) hk14 rfl rfl ⟨Nat.le_of_ble_eq_true rfl, Nat.le_of_ble_eq_true rfl⟩ (Nat.le_of_ble_eq_true rfl) rfl hl.1 hP hD hS dJ5_append_cf1ce_10 (fun H locs hP hD hS => ?_)
  refine lv_istore_n (lv' := [(2, .int r10), (0, .ref (ad b)), (1, .ref (G.2.2.2.1 k1))]) hx hb dJ5_append_cf1ce_13 rfl hl (by decide) rfl (fun ls hl => ?_)
  refine lv_aload_n hx hb dJ5_append_cf1ce_14 rfl (lv_at hl 1 rfl) ?_
  refine lv_aload_n hx hb dJ5_append_cf1ce_15 rfl (lv_at hl 1 rfl) ?_
  refine va_get (D := D) (ci := 0) (v := .int u.2.2.2) (C := RJ4) (T := TJ4) (N := 4) hx hb hW inlJ4 hown hK hP 0 rfl rfl 3 (by decide) (hW _ wd_443) (fun _ h9 => h9) rfl dJ5_append_cf1ce_16 ?_
  refine lv_iload_n hx hb dJ5_append_cf1ce_19 rfl (lv_at hl 0 rfl) ?_
  refine lv_iadd hx hb dJ5_append_cf1ce_20 ?_
  replace hf := zb_s hf
  obtain ⟨r21, hr21, hf⟩ := hf
  refine z_Uv (rest := []) C0 kJ5_100 (c_J5_ensureCapacityInternal_d00df l D G ad (b) u (u.2.2.2 + r10) r21 hr21) z_pall z_pall.symm (C := RJ4) (ci := 0) (T := TJ4) (N := 4) rfl rfl rfl ⟨Nat.le_of_ble_eq_true rfl, Nat.le_of_ble_eq_true rfl⟩ (Nat.le_of_ble_eq_true rfl) rfl hl.1 hP hD hS dJ5_append_cf1ce_21 (fun H locs hP hD hS => ?_)
  refine lv_aload_n hx hb dJ5_append_cf1ce_24 rfl (lv_at hl 1 rfl) ?_
  refine lv_aload_n hx hb dJ5_append_cf1ce_25 rfl (lv_at hl 1 rfl) ?_
  refine va_get (D := D) (ci := 0) (v := .int u.2.2.2) (C := RJ4) (T := TJ4) (N := 4) hx hb hW inlJ4 hown hK hP 0 rfl rfl 3 (by decide) (hW _ wd_443) (fun _ h9 => h9) rfl dJ5_append_cf1ce_26 ?_
  refine lv_aload_n hx hb dJ5_append_cf1ce_29 rfl (lv_at hl 2 rfl) ?_
  replace hf := zb_s hf
  obtain ⟨r30, hr30, hf⟩ := hf
  refine z_Uv (rest := []) C0 kJ5_208 (c_J5_putStringAt_47b60 l D G ad (b) u u.2.2.2 k1 r30 hr30) z_pall z_pall.symm (C := RJ4) (ci := 0) (T := TJ4) (N := 4) rfl rfl rfl ⟨Nat.le_of_ble_eq_true rfl, Nat.le_of_ble_eq_true rfl⟩ (Nat.le_of_ble_eq_true rfl) rfl hl.1 hP hD hS dJ5_append_cf1ce_30 (fun H locs hP hD hS => ?_)
  replace hP : va_P D vwCl (wJ4 G ad b (r30, u.2.1, u.2.2.1, u.2.2.2)) H := hP
  replace hD : va_D A (wJ4 G ad b (r30, u.2.1, u.2.2.1, u.2.2.2)) := hD
  refine lv_aload_n hx hb dJ5_append_cf1ce_33 rfl (lv_at hl 1 rfl) ?_
  refine lv_dup hx hb dJ5_append_cf1ce_34 rfl ?_
  refine va_get (D := D) (ci := 0) (v := .int u.2.2.2) (C := RJ4) (T := TJ4) (N := 4) hx hb hW inlJ4 hown hK hP 0 rfl rfl 3 (by decide) (hW _ wd_443) (fun _ h9 => h9) rfl dJ5_append_cf1ce_35 ?_
  refine lv_iload_n hx hb dJ5_append_cf1ce_38 rfl (lv_at hl 0 rfl) ?_
  refine lv_iadd hx hb dJ5_append_cf1ce_39 ?_
  replace hf := zn_s hf
  obtain ⟨k40, ek40, hf⟩ := hf
  refine z_top ek40 ?_
  refine z_put (ws' := wJ4 G ad b (r30, u.2.1, u.2.2.1, k40)) (ci := 0) (C := RJ4) (T := TJ4) (N := 4) hx hb hW inlJ4 tyJ4 tyJ4_ok nmJ4 hown hK hP hD hS 0 rfl rfl 3 (by decide) (hW _ wd_443) rfl rfl (Nat.le_of_ble_eq_true rfl) rfl dJ5_append_cf1ce_40 (fun H locs hP hD hS => ?_)
  refine lv_aload_n hx hb dJ5_append_cf1ce_43 rfl (lv_at hl 1 rfl) ?_
  obtain rfl := zo hf
  exact hret _ _ _ _ _ hP hD hS rfl dJ5_append_cf1ce_44
theorem kJ4_29 : zLkP RJ4 29 yJ5_append_cf1ce cJ5_append_cf1ce 3 (some (.object "java/lang/AbstractStringBuilder")) 1 := ⟨⟨wd_592, wd_593, wd_440, wd_594, wd_105, wd_595⟩, by decide +kernel⟩
noncomputable def q_J4_append_15ec4 (u : tJ4) (k1 : Nat) : Option ((Nat → Int32) × Int32) :=
  zb (q_J5_append_cf1ce u k1) fun r2 => some (r2.1, r2.2)
set_option maxRecDepth 100000 in
set_option maxHeartbeats 4000000 in
theorem c_J4_append_15ec4 (l : Launch) (D : va_G) (G : zG) (ad : Nat → Nat) (b : Nat) (u : tJ4) (k1 : Nat) (res : (Nat → Int32) × Int32) (hf : q_J4_append_15ec4 u k1 = some res) : zMq l yJ4_append_15ec4 cJ4_append_15ec4 2 (some (.object "java/lang/StringBuilder")) 4 93 D G (wJ4 G ad b u) (wJ4 G ad b (res.1, u.2.1, u.2.2.1, res.2)) [.ref (ad b), .ref (G.2.2.2.1 k1)] (ad b) := by
  refine zs_q (Or.inl ⟨_, rfl⟩) (by decide +kernel) (Nat.le_of_ble_eq_true rfl) ?_
  intro p e s m args below meth c A Q H ls C0 hret hP hD hS hl
  obtain ⟨hx, hb, hml, hown, hW, hK, hlocks, hF, hr, hA⟩ := id C0
  replace hl : lv_has ls 2 [(0, .ref (ad b)), (1, .ref (G.2.2.2.1 k1))] := hl
  unfold q_J4_append_15ec4 at hf
  refine lv_aload_n hx hb dJ4_append_15ec4_0 rfl (lv_at hl 0 rfl) ?_
  refine lv_aload_n hx hb dJ4_append_15ec4_1 rfl (lv_at hl 1 rfl) ?_
  replace hf := zb_s hf
  obtain ⟨r2, hr2, hf⟩ := hf
  refine z_Pq (rest := []) C0 kJ4_29 (c_J5_append_cf1ce l D G ad (b) u k1 r2 hr2) z_pall z_pall.symm (C := RJ4) (ci := 0) (T := TJ4) (N := 4) rfl rfl rfl ⟨Nat.le_of_ble_eq_true rfl, Nat.le_of_ble_eq_true rfl⟩ (Nat.le_of_ble_eq_true rfl) rfl hl.1 hP hD hS dJ4_append_15ec4_2 (fun H locs hP hD hS => ?_)
  replace hP : va_P D vwCl (wJ4 G ad b (r2.1, u.2.1, u.2.2.1, r2.2)) H := hP
  replace hD : va_D A (wJ4 G ad b (r2.1, u.2.1, u.2.2.1, r2.2)) := hD
  refine lv_pop hx hb dJ4_append_15ec4_5 rfl ?_
  refine lv_aload_n hx hb dJ4_append_15ec4_6 rfl (lv_at hl 0 rfl) ?_
  obtain rfl := zo hf
  exact hret _ _ _ _ _ hP hD hS rfl dJ4_append_15ec4_7
noncomputable def q_J5_length_8abf5 (u : tJ4) : Option (Int32) :=
  some (u.2.2.2)
set_option maxRecDepth 100000 in
set_option maxHeartbeats 4000000 in
theorem c_J5_length_8abf5 (l : Launch) (D : va_G) (G : zG) (ad : Nat → Nat) (b : Nat) (u : tJ4) (res : Int32) (hf : q_J5_length_8abf5 u = some res) : zMi l yJ5_length_8abf5 cJ5_length_8abf5 1 (some .int) 0 0 D G (wJ4 G ad b u) (wJ4 G ad b u) [.ref (ad b)] res := by
  refine zs_i (by decide +kernel) (Nat.le_of_ble_eq_true rfl) ?_
  intro p e s m args below meth c A Q H ls C0 hret hP hD hS hl
  obtain ⟨hx, hb, hml, hown, hW, hK, hlocks, hF, hr, hA⟩ := id C0
  replace hl : lv_has ls 1 [(0, .ref (ad b))] := hl
  unfold q_J5_length_8abf5 at hf
  refine lv_aload_n hx hb dJ5_length_8abf5_0 rfl (lv_at hl 0 rfl) ?_
  refine va_get (D := D) (ci := 0) (v := .int u.2.2.2) (C := RJ4) (T := TJ4) (N := 4) hx hb hW inlJ4 hown hK hP 0 rfl rfl 3 (by decide) (hW _ wd_443) (fun _ h9 => h9) rfl dJ5_length_8abf5_1 ?_
  obtain rfl := zo hf
  exact hret _ _ _ _ _ hP hD hS rfl dJ5_length_8abf5_4
theorem kJ4_343 : zLkP RJ4 343 yJ5_length_8abf5 cJ5_length_8abf5 1 (some .int) 0 := ⟨⟨wd_636, wd_637, wd_440, wd_638, wd_105, wd_639⟩, by decide +kernel⟩
noncomputable def q_J4_length_8abf5 (u : tJ4) : Option (Int32) :=
  zb (q_J5_length_8abf5 u) fun r1 => some (r1)
set_option maxRecDepth 100000 in
set_option maxHeartbeats 4000000 in
theorem c_J4_length_8abf5 (l : Launch) (D : va_G) (G : zG) (ad : Nat → Nat) (b : Nat) (u : tJ4) (res : Int32) (hf : q_J4_length_8abf5 u = some res) : zMi l yJ4_length_8abf5 cJ4_length_8abf5 1 (some .int) 1 20 D G (wJ4 G ad b u) (wJ4 G ad b u) [.ref (ad b)] res := by
  refine zs_i (by decide +kernel) (Nat.le_of_ble_eq_true rfl) ?_
  intro p e s m args below meth c A Q H ls C0 hret hP hD hS hl
  obtain ⟨hx, hb, hml, hown, hW, hK, hlocks, hF, hr, hA⟩ := id C0
  replace hl : lv_has ls 1 [(0, .ref (ad b))] := hl
  unfold q_J4_length_8abf5 at hf
  refine lv_aload_n hx hb dJ4_length_8abf5_0 rfl (lv_at hl 0 rfl) ?_
  replace hf := zb_s hf
  obtain ⟨r1, hr1, hf⟩ := hf
  refine z_Pi (rest := []) C0 kJ4_343 (c_J5_length_8abf5 l D G ad (b) u r1 hr1) z_pall z_pall.symm (C := RJ4) (ci := 0) (T := TJ4) (N := 4) rfl rfl rfl ⟨Nat.le_of_ble_eq_true rfl, Nat.le_of_ble_eq_true rfl⟩ (Nat.le_of_ble_eq_true rfl) rfl hl.1 hP hD hS dJ4_length_8abf5_1 (fun H locs hP hD hS => ?_)
  obtain rfl := zo hf
  exact hret _ _ _ _ _ hP hD hS rfl dJ4_length_8abf5_4
theorem kJ5_144 : zLkS RJ5 144 yJ0_checkIndex_df160 cJ0_checkIndex_df160 2 none 2 := ⟨⟨wd_653, wd_580, wd_525, wd_581⟩, by decide +kernel⟩
noncomputable def q_J5_charAt_5068e (u : tJ4) (p1 : Int32) : Option (Int32) :=
  zn (if (16 >>> (u.2.1 &&& 31)) < u.2.2.2 then (16 >>> (u.2.1 &&& 31)) else u.2.2.2) fun k18 => zb (q_J0_checkIndex_df160 p1 k18) fun r26 => (if u.2.1 = 0 then zg 16 u.1 p1 fun a35 => zq (0 ≤ ((Int32.toUInt32 (a35 &&& 255) % 65536).toInt32) ∧ ((Int32.toUInt32 (a35 &&& 255) % 65536).toInt32) < 65536) (some (((Int32.toUInt32 (a35 &&& 255) % 65536).toInt32))) else none)
set_option maxRecDepth 100000 in
set_option maxHeartbeats 4000000 in
theorem c_J5_charAt_5068e (l : Launch) (D : va_G) (G : zG) (ad : Nat → Nat) (b : Nat) (u : tJ4) (p1 : Int32) (res : Int32) (hf : q_J5_charAt_5068e u p1 = some res) : zMi l yJ5_charAt_5068e cJ5_charAt_5068e 5 (some .char) 2 43 D G (wJ4 G ad b u) (wJ4 G ad b u) [.ref (ad b), .int p1] res := by
  refine zs_z (by decide +kernel) (Nat.le_of_ble_eq_true rfl) ?_
  intro p e s m args below meth c A Q H ls C0 hret hP hD hS hl
  obtain ⟨hx, hb, hml, hown, hW, hK, hlocks, hF, hr, hA⟩ := id C0
  replace hl : lv_has ls 5 [(0, .ref (ad b)), (1, .int p1)] := hl
  unfold q_J5_charAt_5068e at hf
  refine lv_aload_n hx hb dJ5_charAt_5068e_0 rfl (lv_at hl 0 rfl) ?_
  refine va_get (D := D) (ci := 0) (v := .int u.2.1) (C := RJ4) (T := TJ4) (N := 4) hx hb hW inlJ4 hown hK hP 0 rfl rfl 1 (by decide) (hW _ wd_111) (fun _ h9 => h9) rfl dJ5_charAt_5068e_1 ?_
  refine lv_istore_n (lv' := [(2, .int u.2.1), (0, .ref (ad b)), (1, .int p1)]) hx hb dJ5_charAt_5068e_4 rfl hl (by decide) rfl (fun ls hl => ?_)
  refine lv_aload_n hx hb dJ5_charAt_5068e_5 rfl (lv_at hl 1 rfl) ?_
  refine va_get (D := D) (ci := 0) (v := .ref (ad (b + 1))) (C := RJ4) (T := TJ4) (N := 4) hx hb hW inlJ4 hown hK hP 0 rfl rfl 0 (by decide) (hW _ wd_110) (fun _ h9 => h9) rfl dJ5_charAt_5068e_6 ?_
  refine lv_astore_n (lv' := [(3, .ref (ad (b + 1))), (2, .int u.2.1), (0, .ref (ad b)), (1, .int p1)]) hx hb dJ5_charAt_5068e_9 rfl hl (by decide) rfl (fun ls hl => ?_)
  refine lv_aload_n hx hb dJ5_charAt_5068e_10 rfl (lv_at hl 2 rfl) ?_
  refine va_get (D := D) (ci := 0) (v := .int u.2.2.2) (C := RJ4) (T := TJ4) (N := 4) hx hb hW inlJ4 hown hK hP 0 rfl rfl 3 (by decide) (hW _ wd_443) (fun _ h9 => h9) rfl dJ5_charAt_5068e_11 ?_
  refine lv_aload_n hx hb dJ5_charAt_5068e_14 rfl (lv_at hl 0 rfl) ?_
  refine va_alen (v := 16) hx hb hK hP 1 2 rfl rfl rfl dJ5_charAt_5068e_15 ?_
  refine lv_iload_n hx hb dJ5_charAt_5068e_16 rfl (lv_at hl 1 rfl) ?_
  refine lv_ishr hx hb dJ5_charAt_5068e_17 ?_
  refine va_mmin hx hb (hml.trans hl.1.symm) hown (hW _ wd_652) (hW _ wd_289) (hW _ wd_236) (hW _ wd_290) (Nat.le_of_ble_eq_true rfl) (Nat.le_of_ble_eq_true rfl) (Nat.zero_le _) (Nat.zero_le _) dJ5_charAt_5068e_18 ?_
  replace hf := zn_s hf
  obtain ⟨k18, ek18, hf⟩ := hf
  refine z_top ek18 ?_
  refine lv_istore (lv' := [(4, .int k18), (3, .ref (ad (b + 1))), (2, .int u.2.1), (0, .ref (ad b)), (1, .int p1)]) hx hb dJ5_charAt_5068e_21 hl (by decide) rfl (fun ls hl => ?_)
  refine lv_iload_n hx hb dJ5_charAt_5068e_23 rfl (lv_at hl 4 rfl) ?_
  refine lv_iload hx hb dJ5_charAt_5068e_24 (lv_at hl 0 rfl) ?_
  replace hf := zb_s hf
  obtain ⟨r26, hr26, hf⟩ := hf
  refine z_Sv (rest := []) C0 kJ5_144 (c_J0_checkIndex_df160 l D G p1 k18 r26 hr26) (List.Perm.refl _) (List.Perm.refl _) rfl ⟨Nat.le_of_ble_eq_true rfl, Nat.le_of_ble_eq_true rfl⟩ (Nat.le_of_ble_eq_true rfl) rfl hl.1 hP hD hS dJ5_charAt_5068e_26 (fun H locs hP hD hS => ?_)
  refine lv_iload_n hx hb dJ5_charAt_5068e_29 rfl (lv_at hl 2 rfl) ?_
  refine lv_if_ne (tgt := 42) hx hb dJ5_charAt_5068e_30 (by decide) (fun c30 => ?_) (fun c30 => ?_)
  · replace hf := zi_n hf c30
    cases hf
  · replace hf := zi_p hf c30
    refine lv_aload_n hx hb dJ5_charAt_5068e_33 rfl (lv_at hl 1 rfl) ?_
    refine lv_iload_n hx hb dJ5_charAt_5068e_34 rfl (lv_at hl 4 rfl) ?_
    replace hf := zg_s hf
    obtain ⟨hi35, a35, ea35, hf⟩ := hf
    refine z_bald hx hb hK hP 1 2 rfl rfl hi35 ea35 dJ5_charAt_5068e_35 ?_
    refine lv_sipush (v := 255) hx hb dJ5_charAt_5068e_36 (by decide) ?_
    refine lv_iand hx hb dJ5_charAt_5068e_39 ?_
    refine lv_i2c (v := ((Int32.toUInt32 (a35 &&& 255) % 65536).toInt32)) hx hb dJ5_charAt_5068e_40 rfl ?_
    replace hf := zq_s hf
    obtain ⟨hq, hf⟩ := hf
    obtain rfl := zo hf
    exact hret _ _ _ _ _ hP hD hS rfl (z_nc hq) dJ5_charAt_5068e_41
theorem kJ4_329 : zLkP RJ4 329 yJ5_charAt_5068e cJ5_charAt_5068e 5 (some .char) 1 := ⟨⟨wd_648, wd_649, wd_440, wd_650, wd_105, wd_651⟩, by decide +kernel⟩
noncomputable def q_J4_charAt_5068e (u : tJ4) (p1 : Int32) : Option (Int32) :=
  zb (q_J5_charAt_5068e u p1) fun r2 => zq (0 ≤ r2 ∧ r2 < 65536) (some (r2))
set_option maxRecDepth 100000 in
set_option maxHeartbeats 4000000 in
theorem c_J4_charAt_5068e (l : Launch) (D : va_G) (G : zG) (ad : Nat → Nat) (b : Nat) (u : tJ4) (p1 : Int32) (res : Int32) (hf : q_J4_charAt_5068e u p1 = some res) : zMi l yJ4_charAt_5068e cJ4_charAt_5068e 2 (some .char) 3 67 D G (wJ4 G ad b u) (wJ4 G ad b u) [.ref (ad b), .int p1] res := by
  refine zs_z (by decide +kernel) (Nat.le_of_ble_eq_true rfl) ?_
  intro p e s m args below meth c A Q H ls C0 hret hP hD hS hl
  obtain ⟨hx, hb, hml, hown, hW, hK, hlocks, hF, hr, hA⟩ := id C0
  replace hl : lv_has ls 2 [(0, .ref (ad b)), (1, .int p1)] := hl
  unfold q_J4_charAt_5068e at hf
  refine lv_aload_n hx hb dJ4_charAt_5068e_0 rfl (lv_at hl 0 rfl) ?_
  refine lv_iload_n hx hb dJ4_charAt_5068e_1 rfl (lv_at hl 1 rfl) ?_
  replace hf := zb_s hf
  obtain ⟨r2, hr2, hf⟩ := hf
  refine z_Pi (rest := []) C0 kJ4_329 (c_J5_charAt_5068e l D G ad (b) u p1 r2 hr2) z_pall z_pall.symm (C := RJ4) (ci := 0) (T := TJ4) (N := 4) rfl rfl rfl ⟨Nat.le_of_ble_eq_true rfl, Nat.le_of_ble_eq_true rfl⟩ (Nat.le_of_ble_eq_true rfl) rfl hl.1 hP hD hS dJ4_charAt_5068e_2 (fun H locs hP hD hS => ?_)
  replace hf := zq_s hf
  obtain ⟨hq, hf⟩ := hf
  obtain rfl := zo hf
  exact hret _ _ _ _ _ hP hD hS rfl (z_nc hq) dJ4_charAt_5068e_5
