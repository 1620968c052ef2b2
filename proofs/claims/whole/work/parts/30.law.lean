/-! the law: one step of its loop, case by case, and the loop -/
section ZLR
variable {p : Program} {l : Launch} {e : Env} {R : Room} {s : State} {m : MethodId} {args : Array Value} {below : List Frame} {meth : Method} {c : Code} {H : Heap} {locs : List Loc} {Q : State → Prop} {cc : ByteArray} {nL : Nat} {ret : Option FieldType} {own : String} {D : va_G} {G : zG} {A : Nat → Prop} {pc cells slots : Nat} {ls : Array Slot} {ws wc wc' wr ws' : va_W}
theorem z_Gi {y : MethodName} {cy : ByteArray} {ny fy Ly idx ci n bq N : Nat} {rety : Option FieldType} {As rest st0 fs : List Value} {T : u_T} {r : Int32} (C0 : zCx p s m args meth c cc nL ret own D G A) (k : zLkV own idx y cy ny rety n) (hM : zMi l y cy ny rety fy Ly D G wc wc' (.ref bq :: As) r)
    (hp1 : ws.Perm (wc ++ wr)) (hp2 : (wc' ++ wr).Perm ws') (hq0 : wc[0]? = some (bq, .inr (ci, fs))) (hci : vwCl[ci]? = some (y.cls, T, N)) (hn : As.length = n) (hR : fy + 1 ≤ R.frames ∧ 8 + (ny + 11) + Ly ≤ R.locals) (hrm : (rest.map fun v => v.category).sum ≤ 8) (hcs : cells + 0 ≤ R.cells ∧ slots + 0 ≤ R.slots) (hst : st0 = As.reverse ++ .ref bq :: rest) (hls : ls.size = nL)
    (hP : va_P D vwCl ws H) (hD : va_D A ws) (hS : va_S A s.heap H locs) (hdg : decode cc pc = .ok (.invokevirtual idx, 3))
    (kk : ∀ (H1 : Heap) (locs1 : List Loc), va_P D vwCl ws' H1 → va_D A ws' → va_S A s.heap H1 locs1 → W p l e R s m args below meth c H1 locs1 cells slots Q (F0 m (pc + 3) ls (.int r :: rest))) : W p l e R s m args below meth c H locs cells slots Q (F0 m pc ls st0) := by
  obtain ⟨hx, hb, hml, hown, hW, hK, hlocks, hF, hr, hA⟩ := C0
  subst hst
  have hPc := zP_perm hp1 hP
  have hDc := zD_perm hp1 hD
  have hFc := z_free hDc hS hA
  refine va_calli (va_runV (As := As) (rest := rest) ⟨hx, hb, hml, hown, hW⟩ (hM H.size) (cwV n hW (z_goodV k) rfl rfl rfl ⟨rfl, k.2⟩ hR) ⟨zPre_blind, va_recv hK (zP_left hPc) hci hq0, z_pre hF hK hPc hDc hS hFc⟩ rfl hn hls rfl (lv_room hrm) hdg hcs) hS (fun q _ h => hFc q h) hFc (fun x u t H1 locs1 ht hvm hw hB hz1 hk1 hS1 => ?_)
  obtain ⟨h1, h2⟩ := z_backW hPc hDc hFc ht hB hk1 hp2
  subst hw
  exact kk H1 locs1 h1 h2 hS1
theorem z_Gl {y : MethodName} {cy : ByteArray} {ny fy Ly idx ci n bq N : Nat} {rety : Option FieldType} {As rest st0 fs : List Value} {T : u_T} {r : Int64} (C0 : zCx p s m args meth c cc nL ret own D G A) (k : zLkV own idx y cy ny rety n) (hM : zMl l y cy ny rety fy Ly D G wc wc' (.ref bq :: As) r)
    (hp1 : ws.Perm (wc ++ wr)) (hp2 : (wc' ++ wr).Perm ws') (hq0 : wc[0]? = some (bq, .inr (ci, fs))) (hci : vwCl[ci]? = some (y.cls, T, N)) (hn : As.length = n) (hR : fy + 1 ≤ R.frames ∧ 8 + (ny + 11) + Ly ≤ R.locals) (hrm : (rest.map fun v => v.category).sum ≤ 8) (hcs : cells + 0 ≤ R.cells ∧ slots + 0 ≤ R.slots) (hst : st0 = As.reverse ++ .ref bq :: rest) (hls : ls.size = nL)
    (hP : va_P D vwCl ws H) (hD : va_D A ws) (hS : va_S A s.heap H locs) (hdg : decode cc pc = .ok (.invokevirtual idx, 3))
    (kk : ∀ (H1 : Heap) (locs1 : List Loc), va_P D vwCl ws' H1 → va_D A ws' → va_S A s.heap H1 locs1 → W p l e R s m args below meth c H1 locs1 cells slots Q (F0 m (pc + 3) ls (.long r :: rest))) : W p l e R s m args below meth c H locs cells slots Q (F0 m pc ls st0) := by
  obtain ⟨hx, hb, hml, hown, hW, hK, hlocks, hF, hr, hA⟩ := C0
  subst hst
  have hPc := zP_perm hp1 hP
  have hDc := zD_perm hp1 hD
  have hFc := z_free hDc hS hA
  refine va_calll (va_runV (As := As) (rest := rest) ⟨hx, hb, hml, hown, hW⟩ (hM H.size) (cwV n hW (z_goodV k) rfl rfl rfl ⟨rfl, k.2⟩ hR) ⟨zPre_blind, va_recv hK (zP_left hPc) hci hq0, z_pre hF hK hPc hDc hS hFc⟩ rfl hn hls rfl (lv_room hrm) hdg hcs) hS (fun q _ h => hFc q h) hFc (fun x u t H1 locs1 ht hvm hw hB hz1 hk1 hS1 => ?_)
  obtain ⟨h1, h2⟩ := z_backW hPc hDc hFc ht hB hk1 hp2
  subst hw
  exact kk H1 locs1 h1 h2 hS1
end ZLR
section ZLAW
variable {p : Program} {l : Launch} {e : Env} {s : State} {m : MethodId} {below : List Frame} {meth : Method} {c : Code} {H : Heap} {locs : List Loc} {cells slots : Nat} {Q : State → Prop} {D : va_G} {G : zG} {A : Nat → Prop} {pc b L : Nat} {xs : Nat → Int32} {ls : Array Slot} {rest : List Value} {ad0 ad1 : Nat → Nat} {b0 b1 : Nat}
theorem zl_arg {R : Room} {args : Array Value} (hx : p.tables.exec = Jvm.exec) (hb : c.code = cL_law) (hX : va_X b L xs s s.heap) (hbl : b < s.heap.size) (hbA : ¬ A b) (hS : va_S A s.heap H locs) {j : Nat} (k : Nat) {kn : Int} (hk : Int32.ofInt kn = nI k) {o2 o1 : Value} (hj : j + k < L) (hL : L ≤ 1536) (hl : lv_has ls 4 [(3, .int (nI j)), (2, o2), (1, o1), (0, .ref b)]) (h0 : decode cL_law pc = .ok (.aload_n 0, 1)) (h1 : decode cL_law (pc + 1) = .ok (.iload_n 3, 1)) (h2 : decode cL_law (pc + 2) = .ok (.iconst kn, 1)) (h3 : decode cL_law (pc + 3) = .ok (.iadd, 1)) (h4 : decode cL_law (pc + 4) = .ok (.iaload, 1))
    (kk : W p l e R s m args below meth c H locs cells slots Q (F0 m (pc + 5) ls (.int (xs (j + k)) :: rest))) : W p l e R s m args below meth c H locs cells slots Q (F0 m pc ls rest) := by
  refine lv_aload_n hx hb h0 rfl (lv_at hl 3 rfl) ?_
  refine lv_iload_n hx hb h1 rfl (lv_at hl 0 rfl) ?_
  refine lv_iconst (v := nI k) hx hb h2 hk ?_
  refine lv_iadd hx hb h3 ?_
  rw [nI_add]
  refine va_sld hx hb hX hbl hbA hS (vp_in_nI hj (by omega)) h4 ?_
  rw [nI_clamp (by omega)]
  exact kk
theorem kL_13 : zLkV RL 13 yX6_set cX6_set 3 (some .int) 2 := ⟨⟨wd_131, wd_132, wd_133, wd_2, wd_134⟩, by decide +kernel⟩
theorem kL_17 : zLkV RL 17 yX7_set cX7_set 3 (some .int) 2 := ⟨⟨wd_176, wd_177, wd_178, wd_5, wd_179⟩, by decide +kernel⟩
noncomputable def qL_0 (a1 a2 : Int32) (u : tX6) (v : tX7) : Option (tX6 × tX7) := zb (q_X6_set u a1 a2) fun r0 => zb (q_X7_set v a1 a2) fun r1 => if r0.1 = r1.1 then some (((r0.2.1, u.1.2.1, u.1.2.2.1, u.1.2.2.2.1, u.1.2.2.2.2.1, u.1.2.2.2.2.2.1, u.1.2.2.2.2.2.2.1, u.1.2.2.2.2.2.2.2.1, u.1.2.2.2.2.2.2.2.2.1, u.1.2.2.2.2.2.2.2.2.2.1, u.1.2.2.2.2.2.2.2.2.2.2.1, u.1.2.2.2.2.2.2.2.2.2.2.2.1, u.1.2.2.2.2.2.2.2.2.2.2.2.2.1, u.1.2.2.2.2.2.2.2.2.2.2.2.2.2.1, u.1.2.2.2.2.2.2.2.2.2.2.2.2.2.2.1, u.1.2.2.2.2.2.2.2.2.2.2.2.2.2.2.2.1, u.1.2.2.2.2.2.2.2.2.2.2.2.2.2.2.2.2), u.2.1, r0.2.2, u.2.2.2.1, u.2.2.2.2), (r1.2.1, v.2.1, r1.2.2.1, r1.2.2.2, v.2.2.2.2.1, v.2.2.2.2.2.1, v.2.2.2.2.2.2.1, v.2.2.2.2.2.2.2.1, v.2.2.2.2.2.2.2.2.1, v.2.2.2.2.2.2.2.2.2.1, v.2.2.2.2.2.2.2.2.2.2)) else none
set_option maxRecDepth 100000 in
set_option maxHeartbeats 4000000 in
theorem cL_0 (C0 : zCx p s m #[.ref b] meth c cL_law 4 ret RL D G A) (hX : va_X b L xs s s.heap) (hbl : b < s.heap.size) (hbA : ¬ A b) (hL : L ≤ 1536) {j : Nat} (hj : j + 3 ≤ L) (hcs : cells + 0 ≤ room_1.cells ∧ slots + 0 ≤ room_1.slots) (u : tX6) (v : tX7) (o : tX6 × tX7) (hf : qL_0 (xs (j + 1)) (xs (j + 2)) u v = some o) (hP : va_P D vwCl (wX6 G ad0 b0 u ++ wX7 G ad1 b1 v) H) (hD : va_D A (wX6 G ad0 b0 u ++ wX7 G ad1 b1 v)) (hS : va_S A s.heap H locs) (hl : lv_has ls 4 [(3, .int (nI j)), (2, .ref (ad1 b1)), (1, .ref (ad0 b0)), (0, .ref b)])
    (kk : ∀ (H1 : Heap) (locs1 : List Loc), va_P D vwCl (wX6 G ad0 b0 o.1 ++ wX7 G ad1 b1 o.2) H1 → va_D A (wX6 G ad0 b0 o.1 ++ wX7 G ad1 b1 o.2) → va_S A s.heap H1 locs1 → W p l e room_1 s m #[.ref b] below meth c H1 locs1 cells slots Q (F0 m 758 ls [])) : W p l e room_1 s m #[.ref b] below meth c H locs cells slots Q (F0 m 156 ls []) := by
  obtain ⟨hx, hb, hml, hown, hW, hK, hlocks, hF, hr, hA⟩ := id C0
  unfold qL_0 at hf
  refine lv_aload_n hx hb dL_law_156 rfl (lv_at hl 2 rfl) ?_
  refine zl_arg hx hb hX hbl hbA hS 1 (by decide) (by omega) hL hl dL_law_157 dL_law_158 dL_law_159 dL_law_160 dL_law_161 ?_
  refine zl_arg hx hb hX hbl hbA hS 2 (by decide) (by omega) hL hl dL_law_162 dL_law_163 dL_law_164 dL_law_165 dL_law_166 ?_
  replace hf := zb_s hf
  obtain ⟨r0, h0, hf⟩ := hf
  refine z_Gi (rest := []) C0 kL_13 (c_X6_set l D G ad0 b0 u (xs (j + 1)) (xs (j + 2)) r0 h0) (List.Perm.refl _) (List.Perm.refl _) (ci := 7) (T := TX6) (N := 5) rfl rfl rfl ⟨Nat.le_of_ble_eq_true rfl, Nat.le_of_ble_eq_true rfl⟩ (Nat.le_of_ble_eq_true rfl) hcs rfl hl.1 hP hD hS dL_law_167 (fun H locs hP hD hS => ?_)
  refine lv_aload_n hx hb dL_law_170 rfl (lv_at hl 1 rfl) ?_
  refine zl_arg hx hb hX hbl hbA hS 1 (by decide) (by omega) hL hl dL_law_171 dL_law_172 dL_law_173 dL_law_174 dL_law_175 ?_
  refine zl_arg hx hb hX hbl hbA hS 2 (by decide) (by omega) hL hl dL_law_176 dL_law_177 dL_law_178 dL_law_179 dL_law_180 ?_
  replace hf := zb_s hf
  obtain ⟨r1, h1, hf⟩ := hf
  refine z_Gi (rest := [.int r0.1]) C0 kL_17 (c_X7_set l D G ad1 b1 v (xs (j + 1)) (xs (j + 2)) r1 h1) z_pap z_pap (ci := 8) (T := TX7) (N := 11) rfl rfl rfl ⟨Nat.le_of_ble_eq_true rfl, Nat.le_of_ble_eq_true rfl⟩ (Nat.le_of_ble_eq_true rfl) hcs rfl hl.1 hP hD hS dL_law_181 (fun H locs hP hD hS => ?_)
  refine lv_icmp_eq (tgt := 758) hx hb dL_law_184 (by decide) (fun c1 => ?_) (fun c1 => ?_)
  · replace hf := zi_p hf c1
    obtain rfl := zo hf
    exact kk _ _ hP hD hS
  · replace hf := zi_n hf c1
    cases hf
theorem kL_18 : zLkV RL 18 yX6_setWay cX6_setWay 2 (some .int) 1 := ⟨⟨wd_201, wd_202, wd_203, wd_2, wd_204⟩, by decide +kernel⟩
theorem kL_22 : zLkV RL 22 yX7_setWay cX7_setWay 2 (some .int) 1 := ⟨⟨wd_209, wd_210, wd_211, wd_5, wd_212⟩, by decide +kernel⟩
noncomputable def qL_1 (a1 a2 : Int32) (u : tX6) (v : tX7) : Option (tX6 × tX7) := zb (q_X6_setWay u a1) fun r0 => zb (q_X7_setWay v a1) fun r1 => if r0.1 = r1.1 then some (((u.1.1, u.1.2.1, u.1.2.2.1, u.1.2.2.2.1, u.1.2.2.2.2.1, r0.2.1, u.1.2.2.2.2.2.2.1, u.1.2.2.2.2.2.2.2.1, u.1.2.2.2.2.2.2.2.2.1, u.1.2.2.2.2.2.2.2.2.2.1, u.1.2.2.2.2.2.2.2.2.2.2.1, u.1.2.2.2.2.2.2.2.2.2.2.2.1, u.1.2.2.2.2.2.2.2.2.2.2.2.2.1, u.1.2.2.2.2.2.2.2.2.2.2.2.2.2.1, u.1.2.2.2.2.2.2.2.2.2.2.2.2.2.2.1, u.1.2.2.2.2.2.2.2.2.2.2.2.2.2.2.2.1, u.1.2.2.2.2.2.2.2.2.2.2.2.2.2.2.2.2), u.2.1, r0.2.2, u.2.2.2.1, u.2.2.2.2), (r1.2.1, v.2.1, r1.2.2.1, r1.2.2.2, v.2.2.2.2.1, v.2.2.2.2.2.1, v.2.2.2.2.2.2.1, v.2.2.2.2.2.2.2.1, v.2.2.2.2.2.2.2.2.1, v.2.2.2.2.2.2.2.2.2.1, v.2.2.2.2.2.2.2.2.2.2)) else none
set_option maxRecDepth 100000 in
set_option maxHeartbeats 4000000 in
theorem cL_1 (C0 : zCx p s m #[.ref b] meth c cL_law 4 ret RL D G A) (hX : va_X b L xs s s.heap) (hbl : b < s.heap.size) (hbA : ¬ A b) (hL : L ≤ 1536) {j : Nat} (hj : j + 3 ≤ L) (hcs : cells + 0 ≤ room_1.cells ∧ slots + 0 ≤ room_1.slots) (u : tX6) (v : tX7) (o : tX6 × tX7) (hf : qL_1 (xs (j + 1)) (xs (j + 2)) u v = some o) (hP : va_P D vwCl (wX6 G ad0 b0 u ++ wX7 G ad1 b1 v) H) (hD : va_D A (wX6 G ad0 b0 u ++ wX7 G ad1 b1 v)) (hS : va_S A s.heap H locs) (hl : lv_has ls 4 [(3, .int (nI j)), (2, .ref (ad1 b1)), (1, .ref (ad0 b0)), (0, .ref b)])
    (kk : ∀ (H1 : Heap) (locs1 : List Loc), va_P D vwCl (wX6 G ad0 b0 o.1 ++ wX7 G ad1 b1 o.2) H1 → va_D A (wX6 G ad0 b0 o.1 ++ wX7 G ad1 b1 o.2) → va_S A s.heap H1 locs1 → W p l e room_1 s m #[.ref b] below meth c H1 locs1 cells slots Q (F0 m 758 ls [])) : W p l e room_1 s m #[.ref b] below meth c H locs cells slots Q (F0 m 189 ls []) := by
  obtain ⟨hx, hb, hml, hown, hW, hK, hlocks, hF, hr, hA⟩ := id C0
  unfold qL_1 at hf
  refine lv_aload_n hx hb dL_law_189 rfl (lv_at hl 2 rfl) ?_
  refine zl_arg hx hb hX hbl hbA hS 1 (by decide) (by omega) hL hl dL_law_190 dL_law_191 dL_law_192 dL_law_193 dL_law_194 ?_
  replace hf := zb_s hf
  obtain ⟨r0, h0, hf⟩ := hf
  refine z_Gi (rest := []) C0 kL_18 (c_X6_setWay l D G ad0 b0 u (xs (j + 1)) r0 h0) (List.Perm.refl _) (List.Perm.refl _) (ci := 7) (T := TX6) (N := 5) rfl rfl rfl ⟨Nat.le_of_ble_eq_true rfl, Nat.le_of_ble_eq_true rfl⟩ (Nat.le_of_ble_eq_true rfl) hcs rfl hl.1 hP hD hS dL_law_195 (fun H locs hP hD hS => ?_)
  refine lv_aload_n hx hb dL_law_198 rfl (lv_at hl 1 rfl) ?_
  refine zl_arg hx hb hX hbl hbA hS 1 (by decide) (by omega) hL hl dL_law_199 dL_law_200 dL_law_201 dL_law_202 dL_law_203 ?_
  replace hf := zb_s hf
  obtain ⟨r1, h1, hf⟩ := hf
  refine z_Gi (rest := [.int r0.1]) C0 kL_22 (c_X7_setWay l D G ad1 b1 v (xs (j + 1)) r1 h1) z_pap z_pap (ci := 8) (T := TX7) (N := 11) rfl rfl rfl ⟨Nat.le_of_ble_eq_true rfl, Nat.le_of_ble_eq_true rfl⟩ (Nat.le_of_ble_eq_true rfl) hcs rfl hl.1 hP hD hS dL_law_204 (fun H locs hP hD hS => ?_)
  refine lv_icmp_eq (tgt := 758) hx hb dL_law_207 (by decide) (fun c1 => ?_) (fun c1 => ?_)
  · replace hf := zi_p hf c1
    obtain rfl := zo hf
    exact kk _ _ hP hD hS
  · replace hf := zi_n hf c1
    cases hf
theorem kL_23 : zLkV RL 23 yX6_addSpares cX6_addSpares 2 (some .int) 1 := ⟨⟨wd_213, wd_214, wd_215, wd_2, wd_216⟩, by decide +kernel⟩
theorem kL_26 : zLkV RL 26 yX7_addSpares cX7_addSpares 2 (some .int) 1 := ⟨⟨wd_221, wd_222, wd_223, wd_5, wd_224⟩, by decide +kernel⟩
noncomputable def qL_2 (a1 a2 : Int32) (u : tX6) (v : tX7) : Option (tX6 × tX7) := zb (q_X6_addSpares u a1) fun r0 => zb (q_X7_addSpares v a1) fun r1 => if r0.1 = r1.1 then some (((u.1.1, u.1.2.1, u.1.2.2.1, u.1.2.2.2.1, u.1.2.2.2.2.1, u.1.2.2.2.2.2.1, r0.2.1, u.1.2.2.2.2.2.2.2.1, u.1.2.2.2.2.2.2.2.2.1, u.1.2.2.2.2.2.2.2.2.2.1, u.1.2.2.2.2.2.2.2.2.2.2.1, u.1.2.2.2.2.2.2.2.2.2.2.2.1, u.1.2.2.2.2.2.2.2.2.2.2.2.2.1, u.1.2.2.2.2.2.2.2.2.2.2.2.2.2.1, u.1.2.2.2.2.2.2.2.2.2.2.2.2.2.2.1, u.1.2.2.2.2.2.2.2.2.2.2.2.2.2.2.2.1, u.1.2.2.2.2.2.2.2.2.2.2.2.2.2.2.2.2), u.2.1, r0.2.2, u.2.2.2.1, u.2.2.2.2), (r1.2.1, v.2.1, r1.2.2.1, r1.2.2.2, v.2.2.2.2.1, v.2.2.2.2.2.1, v.2.2.2.2.2.2.1, v.2.2.2.2.2.2.2.1, v.2.2.2.2.2.2.2.2.1, v.2.2.2.2.2.2.2.2.2.1, v.2.2.2.2.2.2.2.2.2.2)) else none
set_option maxRecDepth 100000 in
set_option maxHeartbeats 4000000 in
theorem cL_2 (C0 : zCx p s m #[.ref b] meth c cL_law 4 ret RL D G A) (hX : va_X b L xs s s.heap) (hbl : b < s.heap.size) (hbA : ¬ A b) (hL : L ≤ 1536) {j : Nat} (hj : j + 3 ≤ L) (hcs : cells + 0 ≤ room_1.cells ∧ slots + 0 ≤ room_1.slots) (u : tX6) (v : tX7) (o : tX6 × tX7) (hf : qL_2 (xs (j + 1)) (xs (j + 2)) u v = some o) (hP : va_P D vwCl (wX6 G ad0 b0 u ++ wX7 G ad1 b1 v) H) (hD : va_D A (wX6 G ad0 b0 u ++ wX7 G ad1 b1 v)) (hS : va_S A s.heap H locs) (hl : lv_has ls 4 [(3, .int (nI j)), (2, .ref (ad1 b1)), (1, .ref (ad0 b0)), (0, .ref b)])
    (kk : ∀ (H1 : Heap) (locs1 : List Loc), va_P D vwCl (wX6 G ad0 b0 o.1 ++ wX7 G ad1 b1 o.2) H1 → va_D A (wX6 G ad0 b0 o.1 ++ wX7 G ad1 b1 o.2) → va_S A s.heap H1 locs1 → W p l e room_1 s m #[.ref b] below meth c H1 locs1 cells slots Q (F0 m 758 ls [])) : W p l e room_1 s m #[.ref b] below meth c H locs cells slots Q (F0 m 212 ls []) := by
  obtain ⟨hx, hb, hml, hown, hW, hK, hlocks, hF, hr, hA⟩ := id C0
  unfold qL_2 at hf
  refine lv_aload_n hx hb dL_law_212 rfl (lv_at hl 2 rfl) ?_
  refine zl_arg hx hb hX hbl hbA hS 1 (by decide) (by omega) hL hl dL_law_213 dL_law_214 dL_law_215 dL_law_216 dL_law_217 ?_
  replace hf := zb_s hf
  obtain ⟨r0, h0, hf⟩ := hf
  refine z_Gi (rest := []) C0 kL_23 (c_X6_addSpares l D G ad0 b0 u (xs (j + 1)) r0 h0) (List.Perm.refl _) (List.Perm.refl _) (ci := 7) (T := TX6) (N := 5) rfl rfl rfl ⟨Nat.le_of_ble_eq_true rfl, Nat.le_of_ble_eq_true rfl⟩ (Nat.le_of_ble_eq_true rfl) hcs rfl hl.1 hP hD hS dL_law_218 (fun H locs hP hD hS => ?_)
  refine lv_aload_n hx hb dL_law_221 rfl (lv_at hl 1 rfl) ?_
  refine zl_arg hx hb hX hbl hbA hS 1 (by decide) (by omega) hL hl dL_law_222 dL_law_223 dL_law_224 dL_law_225 dL_law_226 ?_
  replace hf := zb_s hf
  obtain ⟨r1, h1, hf⟩ := hf
  refine z_Gi (rest := [.int r0.1]) C0 kL_26 (c_X7_addSpares l D G ad1 b1 v (xs (j + 1)) r1 h1) z_pap z_pap (ci := 8) (T := TX7) (N := 11) rfl rfl rfl ⟨Nat.le_of_ble_eq_true rfl, Nat.le_of_ble_eq_true rfl⟩ (Nat.le_of_ble_eq_true rfl) hcs rfl hl.1 hP hD hS dL_law_227 (fun H locs hP hD hS => ?_)
  refine lv_icmp_eq (tgt := 758) hx hb dL_law_230 (by decide) (fun c1 => ?_) (fun c1 => ?_)
  · replace hf := zi_p hf c1
    obtain rfl := zo hf
    exact kk _ _ hP hD hS
  · replace hf := zi_n hf c1
    cases hf
theorem kL_27 : zLkV RL 27 yX6_spot cX6_spot 3 (some .int) 2 := ⟨⟨wd_225, wd_226, wd_227, wd_2, wd_228⟩, by decide +kernel⟩
theorem kL_30 : zLkV RL 30 yX7_spot cX7_spot 4 (some .int) 2 := ⟨⟨wd_243, wd_244, wd_245, wd_5, wd_246⟩, by decide +kernel⟩
noncomputable def qL_3 (a1 a2 : Int32) (u : tX6) (v : tX7) : Option (tX6 × tX7) := zb (q_X6_spot u a1 a2) fun r0 => zb (q_X7_spot v a1 a2) fun r1 => if r0.1 = r1.1 then some (((u.1.1, u.1.2.1, r0.2.1, u.1.2.2.2.1, u.1.2.2.2.2.1, u.1.2.2.2.2.2.1, u.1.2.2.2.2.2.2.1, u.1.2.2.2.2.2.2.2.1, u.1.2.2.2.2.2.2.2.2.1, u.1.2.2.2.2.2.2.2.2.2.1, u.1.2.2.2.2.2.2.2.2.2.2.1, u.1.2.2.2.2.2.2.2.2.2.2.2.1, u.1.2.2.2.2.2.2.2.2.2.2.2.2.1, u.1.2.2.2.2.2.2.2.2.2.2.2.2.2.1, u.1.2.2.2.2.2.2.2.2.2.2.2.2.2.2.1, u.1.2.2.2.2.2.2.2.2.2.2.2.2.2.2.2.1, u.1.2.2.2.2.2.2.2.2.2.2.2.2.2.2.2.2), u.2.1, r0.2.2, u.2.2.2.1, u.2.2.2.2), (r1.2.1, v.2.1, r1.2.2.1, r1.2.2.2, v.2.2.2.2.1, v.2.2.2.2.2.1, v.2.2.2.2.2.2.1, v.2.2.2.2.2.2.2.1, v.2.2.2.2.2.2.2.2.1, v.2.2.2.2.2.2.2.2.2.1, v.2.2.2.2.2.2.2.2.2.2)) else none
set_option maxRecDepth 100000 in
set_option maxHeartbeats 4000000 in
theorem cL_3 (C0 : zCx p s m #[.ref b] meth c cL_law 4 ret RL D G A) (hX : va_X b L xs s s.heap) (hbl : b < s.heap.size) (hbA : ¬ A b) (hL : L ≤ 1536) {j : Nat} (hj : j + 3 ≤ L) (hcs : cells + 0 ≤ room_1.cells ∧ slots + 0 ≤ room_1.slots) (u : tX6) (v : tX7) (o : tX6 × tX7) (hf : qL_3 (xs (j + 1)) (xs (j + 2)) u v = some o) (hP : va_P D vwCl (wX6 G ad0 b0 u ++ wX7 G ad1 b1 v) H) (hD : va_D A (wX6 G ad0 b0 u ++ wX7 G ad1 b1 v)) (hS : va_S A s.heap H locs) (hl : lv_has ls 4 [(3, .int (nI j)), (2, .ref (ad1 b1)), (1, .ref (ad0 b0)), (0, .ref b)])
    (kk : ∀ (H1 : Heap) (locs1 : List Loc), va_P D vwCl (wX6 G ad0 b0 o.1 ++ wX7 G ad1 b1 o.2) H1 → va_D A (wX6 G ad0 b0 o.1 ++ wX7 G ad1 b1 o.2) → va_S A s.heap H1 locs1 → W p l e room_1 s m #[.ref b] below meth c H1 locs1 cells slots Q (F0 m 758 ls [])) : W p l e room_1 s m #[.ref b] below meth c H locs cells slots Q (F0 m 235 ls []) := by
  obtain ⟨hx, hb, hml, hown, hW, hK, hlocks, hF, hr, hA⟩ := id C0
  unfold qL_3 at hf
  refine lv_aload_n hx hb dL_law_235 rfl (lv_at hl 2 rfl) ?_
  refine zl_arg hx hb hX hbl hbA hS 1 (by decide) (by omega) hL hl dL_law_236 dL_law_237 dL_law_238 dL_law_239 dL_law_240 ?_
  refine zl_arg hx hb hX hbl hbA hS 2 (by decide) (by omega) hL hl dL_law_241 dL_law_242 dL_law_243 dL_law_244 dL_law_245 ?_
  replace hf := zb_s hf
  obtain ⟨r0, h0, hf⟩ := hf
  refine z_Gi (rest := []) C0 kL_27 (c_X6_spot l D G ad0 b0 u (xs (j + 1)) (xs (j + 2)) r0 h0) (List.Perm.refl _) (List.Perm.refl _) (ci := 7) (T := TX6) (N := 5) rfl rfl rfl ⟨Nat.le_of_ble_eq_true rfl, Nat.le_of_ble_eq_true rfl⟩ (Nat.le_of_ble_eq_true rfl) hcs rfl hl.1 hP hD hS dL_law_246 (fun H locs hP hD hS => ?_)
  refine lv_aload_n hx hb dL_law_249 rfl (lv_at hl 1 rfl) ?_
  refine zl_arg hx hb hX hbl hbA hS 1 (by decide) (by omega) hL hl dL_law_250 dL_law_251 dL_law_252 dL_law_253 dL_law_254 ?_
  refine zl_arg hx hb hX hbl hbA hS 2 (by decide) (by omega) hL hl dL_law_255 dL_law_256 dL_law_257 dL_law_258 dL_law_259 ?_
  replace hf := zb_s hf
  obtain ⟨r1, h1, hf⟩ := hf
  refine z_Gi (rest := [.int r0.1]) C0 kL_30 (c_X7_spot l D G ad1 b1 v (xs (j + 1)) (xs (j + 2)) r1 h1) z_pap z_pap (ci := 8) (T := TX7) (N := 11) rfl rfl rfl ⟨Nat.le_of_ble_eq_true rfl, Nat.le_of_ble_eq_true rfl⟩ (Nat.le_of_ble_eq_true rfl) hcs rfl hl.1 hP hD hS dL_law_260 (fun H locs hP hD hS => ?_)
  refine lv_icmp_eq (tgt := 758) hx hb dL_law_263 (by decide) (fun c1 => ?_) (fun c1 => ?_)
  · replace hf := zi_p hf c1
    obtain rfl := zo hf
    exact kk _ _ hP hD hS
  · replace hf := zi_n hf c1
    cases hf
theorem kL_31 : zLkV RL 31 yX6_ask cX6_ask 2 (some .int) 1 := ⟨⟨wd_266, wd_267, wd_268, wd_2, wd_269⟩, by decide +kernel⟩
theorem kL_34 : zLkV RL 34 yX7_ask cX7_ask 3 (some .int) 1 := ⟨⟨wd_282, wd_283, wd_284, wd_5, wd_285⟩, by decide +kernel⟩
noncomputable def qL_4 (a1 a2 : Int32) (u : tX6) (v : tX7) : Option (tX6 × tX7) := zb (q_X6_ask u a1) fun r0 => zb (q_X7_ask v a1) fun r1 => if r0.1 = r1.1 then some (((u.1.1, u.1.2.1, u.1.2.2.1, r0.2.1, u.1.2.2.2.2.1, u.1.2.2.2.2.2.1, u.1.2.2.2.2.2.2.1, u.1.2.2.2.2.2.2.2.1, u.1.2.2.2.2.2.2.2.2.1, u.1.2.2.2.2.2.2.2.2.2.1, u.1.2.2.2.2.2.2.2.2.2.2.1, u.1.2.2.2.2.2.2.2.2.2.2.2.1, u.1.2.2.2.2.2.2.2.2.2.2.2.2.1, u.1.2.2.2.2.2.2.2.2.2.2.2.2.2.1, u.1.2.2.2.2.2.2.2.2.2.2.2.2.2.2.1, u.1.2.2.2.2.2.2.2.2.2.2.2.2.2.2.2.1, u.1.2.2.2.2.2.2.2.2.2.2.2.2.2.2.2.2), u.2.1, r0.2.2, u.2.2.2.1, u.2.2.2.2), (r1.2.1, v.2.1, r1.2.2.1, r1.2.2.2, v.2.2.2.2.1, v.2.2.2.2.2.1, v.2.2.2.2.2.2.1, v.2.2.2.2.2.2.2.1, v.2.2.2.2.2.2.2.2.1, v.2.2.2.2.2.2.2.2.2.1, v.2.2.2.2.2.2.2.2.2.2)) else none
set_option maxRecDepth 100000 in
set_option maxHeartbeats 4000000 in
theorem cL_4 (C0 : zCx p s m #[.ref b] meth c cL_law 4 ret RL D G A) (hX : va_X b L xs s s.heap) (hbl : b < s.heap.size) (hbA : ¬ A b) (hL : L ≤ 1536) {j : Nat} (hj : j + 3 ≤ L) (hcs : cells + 0 ≤ room_1.cells ∧ slots + 0 ≤ room_1.slots) (u : tX6) (v : tX7) (o : tX6 × tX7) (hf : qL_4 (xs (j + 1)) (xs (j + 2)) u v = some o) (hP : va_P D vwCl (wX6 G ad0 b0 u ++ wX7 G ad1 b1 v) H) (hD : va_D A (wX6 G ad0 b0 u ++ wX7 G ad1 b1 v)) (hS : va_S A s.heap H locs) (hl : lv_has ls 4 [(3, .int (nI j)), (2, .ref (ad1 b1)), (1, .ref (ad0 b0)), (0, .ref b)])
    (kk : ∀ (H1 : Heap) (locs1 : List Loc), va_P D vwCl (wX6 G ad0 b0 o.1 ++ wX7 G ad1 b1 o.2) H1 → va_D A (wX6 G ad0 b0 o.1 ++ wX7 G ad1 b1 o.2) → va_S A s.heap H1 locs1 → W p l e room_1 s m #[.ref b] below meth c H1 locs1 cells slots Q (F0 m 758 ls [])) : W p l e room_1 s m #[.ref b] below meth c H locs cells slots Q (F0 m 268 ls []) := by
  obtain ⟨hx, hb, hml, hown, hW, hK, hlocks, hF, hr, hA⟩ := id C0
  unfold qL_4 at hf
  refine lv_aload_n hx hb dL_law_268 rfl (lv_at hl 2 rfl) ?_
  refine zl_arg hx hb hX hbl hbA hS 1 (by decide) (by omega) hL hl dL_law_269 dL_law_270 dL_law_271 dL_law_272 dL_law_273 ?_
  replace hf := zb_s hf
  obtain ⟨r0, h0, hf⟩ := hf
  refine z_Gi (rest := []) C0 kL_31 (c_X6_ask l D G ad0 b0 u (xs (j + 1)) r0 h0) (List.Perm.refl _) (List.Perm.refl _) (ci := 7) (T := TX6) (N := 5) rfl rfl rfl ⟨Nat.le_of_ble_eq_true rfl, Nat.le_of_ble_eq_true rfl⟩ (Nat.le_of_ble_eq_true rfl) hcs rfl hl.1 hP hD hS dL_law_274 (fun H locs hP hD hS => ?_)
  refine lv_aload_n hx hb dL_law_277 rfl (lv_at hl 1 rfl) ?_
  refine zl_arg hx hb hX hbl hbA hS 1 (by decide) (by omega) hL hl dL_law_278 dL_law_279 dL_law_280 dL_law_281 dL_law_282 ?_
  replace hf := zb_s hf
  obtain ⟨r1, h1, hf⟩ := hf
  refine z_Gi (rest := [.int r0.1]) C0 kL_34 (c_X7_ask l D G ad1 b1 v (xs (j + 1)) r1 h1) z_pap z_pap (ci := 8) (T := TX7) (N := 11) rfl rfl rfl ⟨Nat.le_of_ble_eq_true rfl, Nat.le_of_ble_eq_true rfl⟩ (Nat.le_of_ble_eq_true rfl) hcs rfl hl.1 hP hD hS dL_law_283 (fun H locs hP hD hS => ?_)
  refine lv_icmp_eq (tgt := 758) hx hb dL_law_286 (by decide) (fun c1 => ?_) (fun c1 => ?_)
  · replace hf := zi_p hf c1
    obtain rfl := zo hf
    exact kk _ _ hP hD hS
  · replace hf := zi_n hf c1
    cases hf
theorem kL_35 : zLkV RL 35 yX6_unask cX6_unask 2 (some .int) 1 := ⟨⟨wd_298, wd_299, wd_300, wd_2, wd_301⟩, by decide +kernel⟩
theorem kL_38 : zLkV RL 38 yX7_unask cX7_unask 3 (some .int) 1 := ⟨⟨wd_311, wd_312, wd_313, wd_5, wd_314⟩, by decide +kernel⟩
noncomputable def qL_5 (a1 a2 : Int32) (u : tX6) (v : tX7) : Option (tX6 × tX7) := zb (q_X6_unask u a1) fun r0 => zb (q_X7_unask v a1) fun r1 => if r0.1 = r1.1 then some (((u.1.1, u.1.2.1, u.1.2.2.1, r0.2.1, u.1.2.2.2.2.1, u.1.2.2.2.2.2.1, u.1.2.2.2.2.2.2.1, u.1.2.2.2.2.2.2.2.1, u.1.2.2.2.2.2.2.2.2.1, u.1.2.2.2.2.2.2.2.2.2.1, u.1.2.2.2.2.2.2.2.2.2.2.1, u.1.2.2.2.2.2.2.2.2.2.2.2.1, u.1.2.2.2.2.2.2.2.2.2.2.2.2.1, u.1.2.2.2.2.2.2.2.2.2.2.2.2.2.1, u.1.2.2.2.2.2.2.2.2.2.2.2.2.2.2.1, u.1.2.2.2.2.2.2.2.2.2.2.2.2.2.2.2.1, u.1.2.2.2.2.2.2.2.2.2.2.2.2.2.2.2.2), u.2.1, r0.2.2, u.2.2.2.1, u.2.2.2.2), (r1.2.1, v.2.1, r1.2.2.1, r1.2.2.2, v.2.2.2.2.1, v.2.2.2.2.2.1, v.2.2.2.2.2.2.1, v.2.2.2.2.2.2.2.1, v.2.2.2.2.2.2.2.2.1, v.2.2.2.2.2.2.2.2.2.1, v.2.2.2.2.2.2.2.2.2.2)) else none
set_option maxRecDepth 100000 in
set_option maxHeartbeats 4000000 in
theorem cL_5 (C0 : zCx p s m #[.ref b] meth c cL_law 4 ret RL D G A) (hX : va_X b L xs s s.heap) (hbl : b < s.heap.size) (hbA : ¬ A b) (hL : L ≤ 1536) {j : Nat} (hj : j + 3 ≤ L) (hcs : cells + 0 ≤ room_1.cells ∧ slots + 0 ≤ room_1.slots) (u : tX6) (v : tX7) (o : tX6 × tX7) (hf : qL_5 (xs (j + 1)) (xs (j + 2)) u v = some o) (hP : va_P D vwCl (wX6 G ad0 b0 u ++ wX7 G ad1 b1 v) H) (hD : va_D A (wX6 G ad0 b0 u ++ wX7 G ad1 b1 v)) (hS : va_S A s.heap H locs) (hl : lv_has ls 4 [(3, .int (nI j)), (2, .ref (ad1 b1)), (1, .ref (ad0 b0)), (0, .ref b)])
    (kk : ∀ (H1 : Heap) (locs1 : List Loc), va_P D vwCl (wX6 G ad0 b0 o.1 ++ wX7 G ad1 b1 o.2) H1 → va_D A (wX6 G ad0 b0 o.1 ++ wX7 G ad1 b1 o.2) → va_S A s.heap H1 locs1 → W p l e room_1 s m #[.ref b] below meth c H1 locs1 cells slots Q (F0 m 758 ls [])) : W p l e room_1 s m #[.ref b] below meth c H locs cells slots Q (F0 m 291 ls []) := by
  obtain ⟨hx, hb, hml, hown, hW, hK, hlocks, hF, hr, hA⟩ := id C0
  unfold qL_5 at hf
  refine lv_aload_n hx hb dL_law_291 rfl (lv_at hl 2 rfl) ?_
  refine zl_arg hx hb hX hbl hbA hS 1 (by decide) (by omega) hL hl dL_law_292 dL_law_293 dL_law_294 dL_law_295 dL_law_296 ?_
  replace hf := zb_s hf
  obtain ⟨r0, h0, hf⟩ := hf
  refine z_Gi (rest := []) C0 kL_35 (c_X6_unask l D G ad0 b0 u (xs (j + 1)) r0 h0) (List.Perm.refl _) (List.Perm.refl _) (ci := 7) (T := TX6) (N := 5) rfl rfl rfl ⟨Nat.le_of_ble_eq_true rfl, Nat.le_of_ble_eq_true rfl⟩ (Nat.le_of_ble_eq_true rfl) hcs rfl hl.1 hP hD hS dL_law_297 (fun H locs hP hD hS => ?_)
  refine lv_aload_n hx hb dL_law_300 rfl (lv_at hl 1 rfl) ?_
  refine zl_arg hx hb hX hbl hbA hS 1 (by decide) (by omega) hL hl dL_law_301 dL_law_302 dL_law_303 dL_law_304 dL_law_305 ?_
  replace hf := zb_s hf
  obtain ⟨r1, h1, hf⟩ := hf
  refine z_Gi (rest := [.int r0.1]) C0 kL_38 (c_X7_unask l D G ad1 b1 v (xs (j + 1)) r1 h1) z_pap z_pap (ci := 8) (T := TX7) (N := 11) rfl rfl rfl ⟨Nat.le_of_ble_eq_true rfl, Nat.le_of_ble_eq_true rfl⟩ (Nat.le_of_ble_eq_true rfl) hcs rfl hl.1 hP hD hS dL_law_306 (fun H locs hP hD hS => ?_)
  refine lv_icmp_eq (tgt := 758) hx hb dL_law_309 (by decide) (fun c1 => ?_) (fun c1 => ?_)
  · replace hf := zi_p hf c1
    obtain rfl := zo hf
    exact kk _ _ hP hD hS
  · replace hf := zi_n hf c1
    cases hf
theorem kL_39 : zLkV RL 39 yX6_read cX6_read 3 (some .int) 2 := ⟨⟨wd_319, wd_320, wd_321, wd_2, wd_322⟩, by decide +kernel⟩
theorem kL_42 : zLkV RL 42 yX7_read cX7_read 4 (some .int) 2 := ⟨⟨wd_345, wd_346, wd_347, wd_5, wd_348⟩, by decide +kernel⟩
noncomputable def qL_6 (a1 a2 : Int32) (u : tX6) (v : tX7) : Option (tX6 × tX7) := zb (q_X6_read u a1 a2) fun r0 => zb (q_X7_read v a1 a2) fun r1 => if r0.1 = r1.1 then some ((r0.2.1, u.2.1, r0.2.2, u.2.2.2.1, u.2.2.2.2), (r1.2.1, v.2.1, r1.2.2.1, r1.2.2.2, v.2.2.2.2.1, v.2.2.2.2.2.1, v.2.2.2.2.2.2.1, v.2.2.2.2.2.2.2.1, v.2.2.2.2.2.2.2.2.1, v.2.2.2.2.2.2.2.2.2.1, v.2.2.2.2.2.2.2.2.2.2)) else none
set_option maxRecDepth 100000 in
set_option maxHeartbeats 4000000 in
theorem cL_6 (C0 : zCx p s m #[.ref b] meth c cL_law 4 ret RL D G A) (hX : va_X b L xs s s.heap) (hbl : b < s.heap.size) (hbA : ¬ A b) (hL : L ≤ 1536) {j : Nat} (hj : j + 3 ≤ L) (hcs : cells + 0 ≤ room_1.cells ∧ slots + 0 ≤ room_1.slots) (u : tX6) (v : tX7) (o : tX6 × tX7) (hf : qL_6 (xs (j + 1)) (xs (j + 2)) u v = some o) (hP : va_P D vwCl (wX6 G ad0 b0 u ++ wX7 G ad1 b1 v) H) (hD : va_D A (wX6 G ad0 b0 u ++ wX7 G ad1 b1 v)) (hS : va_S A s.heap H locs) (hl : lv_has ls 4 [(3, .int (nI j)), (2, .ref (ad1 b1)), (1, .ref (ad0 b0)), (0, .ref b)])
    (kk : ∀ (H1 : Heap) (locs1 : List Loc), va_P D vwCl (wX6 G ad0 b0 o.1 ++ wX7 G ad1 b1 o.2) H1 → va_D A (wX6 G ad0 b0 o.1 ++ wX7 G ad1 b1 o.2) → va_S A s.heap H1 locs1 → W p l e room_1 s m #[.ref b] below meth c H1 locs1 cells slots Q (F0 m 758 ls [])) : W p l e room_1 s m #[.ref b] below meth c H locs cells slots Q (F0 m 314 ls []) := by
  obtain ⟨hx, hb, hml, hown, hW, hK, hlocks, hF, hr, hA⟩ := id C0
  unfold qL_6 at hf
  refine lv_aload_n hx hb dL_law_314 rfl (lv_at hl 2 rfl) ?_
  refine zl_arg hx hb hX hbl hbA hS 1 (by decide) (by omega) hL hl dL_law_315 dL_law_316 dL_law_317 dL_law_318 dL_law_319 ?_
  refine zl_arg hx hb hX hbl hbA hS 2 (by decide) (by omega) hL hl dL_law_320 dL_law_321 dL_law_322 dL_law_323 dL_law_324 ?_
  replace hf := zb_s hf
  obtain ⟨r0, h0, hf⟩ := hf
  refine z_Gi (rest := []) C0 kL_39 (c_X6_read l D G ad0 b0 u (xs (j + 1)) (xs (j + 2)) r0 h0) (List.Perm.refl _) (List.Perm.refl _) (ci := 7) (T := TX6) (N := 5) rfl rfl rfl ⟨Nat.le_of_ble_eq_true rfl, Nat.le_of_ble_eq_true rfl⟩ (Nat.le_of_ble_eq_true rfl) hcs rfl hl.1 hP hD hS dL_law_325 (fun H locs hP hD hS => ?_)
  refine lv_aload_n hx hb dL_law_328 rfl (lv_at hl 1 rfl) ?_
  refine zl_arg hx hb hX hbl hbA hS 1 (by decide) (by omega) hL hl dL_law_329 dL_law_330 dL_law_331 dL_law_332 dL_law_333 ?_
  refine zl_arg hx hb hX hbl hbA hS 2 (by decide) (by omega) hL hl dL_law_334 dL_law_335 dL_law_336 dL_law_337 dL_law_338 ?_
  replace hf := zb_s hf
  obtain ⟨r1, h1, hf⟩ := hf
  refine z_Gi (rest := [.int r0.1]) C0 kL_42 (c_X7_read l D G ad1 b1 v (xs (j + 1)) (xs (j + 2)) r1 h1) z_pap z_pap (ci := 8) (T := TX7) (N := 11) rfl rfl rfl ⟨Nat.le_of_ble_eq_true rfl, Nat.le_of_ble_eq_true rfl⟩ (Nat.le_of_ble_eq_true rfl) hcs rfl hl.1 hP hD hS dL_law_339 (fun H locs hP hD hS => ?_)
  refine lv_icmp_eq (tgt := 758) hx hb dL_law_342 (by decide) (fun c1 => ?_) (fun c1 => ?_)
  · replace hf := zi_p hf c1
    obtain rfl := zo hf
    exact kk _ _ hP hD hS
  · replace hf := zi_n hf c1
    cases hf
theorem kL_43 : zLkV RL 43 yX6_quiet cX6_quiet 2 (some .int) 1 := ⟨⟨wd_370, wd_371, wd_372, wd_2, wd_373⟩, by decide +kernel⟩
theorem kL_46 : zLkV RL 46 yX7_quiet cX7_quiet 3 (some .int) 1 := ⟨⟨wd_425, wd_426, wd_427, wd_5, wd_428⟩, by decide +kernel⟩
noncomputable def qL_7 (a1 a2 : Int32) (u : tX6) (v : tX7) : Option (tX6 × tX7) := zb (q_X6_quiet u a1) fun r0 => zb (q_X7_quiet v a1) fun r1 => if r0.1 = r1.1 then some ((r0.2.1, u.2.1, r0.2.2, u.2.2.2.1, u.2.2.2.2), (r1.2.1, v.2.1, r1.2.2.1, r1.2.2.2, v.2.2.2.2.1, v.2.2.2.2.2.1, v.2.2.2.2.2.2.1, v.2.2.2.2.2.2.2.1, v.2.2.2.2.2.2.2.2.1, v.2.2.2.2.2.2.2.2.2.1, v.2.2.2.2.2.2.2.2.2.2)) else none
set_option maxRecDepth 100000 in
set_option maxHeartbeats 4000000 in
theorem cL_7 (C0 : zCx p s m #[.ref b] meth c cL_law 4 ret RL D G A) (hX : va_X b L xs s s.heap) (hbl : b < s.heap.size) (hbA : ¬ A b) (hL : L ≤ 1536) {j : Nat} (hj : j + 3 ≤ L) (hcs : cells + 0 ≤ room_1.cells ∧ slots + 0 ≤ room_1.slots) (u : tX6) (v : tX7) (o : tX6 × tX7) (hf : qL_7 (xs (j + 1)) (xs (j + 2)) u v = some o) (hP : va_P D vwCl (wX6 G ad0 b0 u ++ wX7 G ad1 b1 v) H) (hD : va_D A (wX6 G ad0 b0 u ++ wX7 G ad1 b1 v)) (hS : va_S A s.heap H locs) (hl : lv_has ls 4 [(3, .int (nI j)), (2, .ref (ad1 b1)), (1, .ref (ad0 b0)), (0, .ref b)])
    (kk : ∀ (H1 : Heap) (locs1 : List Loc), va_P D vwCl (wX6 G ad0 b0 o.1 ++ wX7 G ad1 b1 o.2) H1 → va_D A (wX6 G ad0 b0 o.1 ++ wX7 G ad1 b1 o.2) → va_S A s.heap H1 locs1 → W p l e room_1 s m #[.ref b] below meth c H1 locs1 cells slots Q (F0 m 758 ls [])) : W p l e room_1 s m #[.ref b] below meth c H locs cells slots Q (F0 m 347 ls []) := by
  obtain ⟨hx, hb, hml, hown, hW, hK, hlocks, hF, hr, hA⟩ := id C0
  unfold qL_7 at hf
  refine lv_aload_n hx hb dL_law_347 rfl (lv_at hl 2 rfl) ?_
  refine zl_arg hx hb hX hbl hbA hS 1 (by decide) (by omega) hL hl dL_law_348 dL_law_349 dL_law_350 dL_law_351 dL_law_352 ?_
  replace hf := zb_s hf
  obtain ⟨r0, h0, hf⟩ := hf
  refine z_Gi (rest := []) C0 kL_43 (c_X6_quiet l D G ad0 b0 u (xs (j + 1)) r0 h0) (List.Perm.refl _) (List.Perm.refl _) (ci := 7) (T := TX6) (N := 5) rfl rfl rfl ⟨Nat.le_of_ble_eq_true rfl, Nat.le_of_ble_eq_true rfl⟩ (Nat.le_of_ble_eq_true rfl) hcs rfl hl.1 hP hD hS dL_law_353 (fun H locs hP hD hS => ?_)
  refine lv_aload_n hx hb dL_law_356 rfl (lv_at hl 1 rfl) ?_
  refine zl_arg hx hb hX hbl hbA hS 1 (by decide) (by omega) hL hl dL_law_357 dL_law_358 dL_law_359 dL_law_360 dL_law_361 ?_
  replace hf := zb_s hf
  obtain ⟨r1, h1, hf⟩ := hf
  refine z_Gi (rest := [.int r0.1]) C0 kL_46 (c_X7_quiet l D G ad1 b1 v (xs (j + 1)) r1 h1) z_pap z_pap (ci := 8) (T := TX7) (N := 11) rfl rfl rfl ⟨Nat.le_of_ble_eq_true rfl, Nat.le_of_ble_eq_true rfl⟩ (Nat.le_of_ble_eq_true rfl) hcs rfl hl.1 hP hD hS dL_law_362 (fun H locs hP hD hS => ?_)
  refine lv_icmp_eq (tgt := 758) hx hb dL_law_365 (by decide) (fun c1 => ?_) (fun c1 => ?_)
  · replace hf := zi_p hf c1
    obtain rfl := zo hf
    exact kk _ _ hP hD hS
  · replace hf := zi_n hf c1
    cases hf
theorem kL_47 : zLkV RL 47 yX6_giveUp cX6_giveUp 1 (some .int) 0 := ⟨⟨wd_477, wd_478, wd_479, wd_2, wd_480⟩, by decide +kernel⟩
theorem kL_51 : zLkV RL 51 yX7_giveUp cX7_giveUp 2 (some .int) 0 := ⟨⟨wd_485, wd_486, wd_487, wd_5, wd_488⟩, by decide +kernel⟩
noncomputable def qL_8 (a1 a2 : Int32) (u : tX6) (v : tX7) : Option (tX6 × tX7) := zb (q_X6_giveUp u) fun r0 => zb (q_X7_giveUp v) fun r1 => if r0.1 = r1.1 then some (r0.2, (r1.2.1, v.2.1, r1.2.2.1, r1.2.2.2, v.2.2.2.2.1, v.2.2.2.2.2.1, v.2.2.2.2.2.2.1, v.2.2.2.2.2.2.2.1, v.2.2.2.2.2.2.2.2.1, v.2.2.2.2.2.2.2.2.2.1, v.2.2.2.2.2.2.2.2.2.2)) else none
set_option maxRecDepth 100000 in
set_option maxHeartbeats 4000000 in
theorem cL_8 (C0 : zCx p s m #[.ref b] meth c cL_law 4 ret RL D G A) (hX : va_X b L xs s s.heap) (hbl : b < s.heap.size) (hbA : ¬ A b) (hL : L ≤ 1536) {j : Nat} (hj : j + 3 ≤ L) (hcs : cells + 0 ≤ room_1.cells ∧ slots + 0 ≤ room_1.slots) (u : tX6) (v : tX7) (o : tX6 × tX7) (hf : qL_8 (xs (j + 1)) (xs (j + 2)) u v = some o) (hP : va_P D vwCl (wX6 G ad0 b0 u ++ wX7 G ad1 b1 v) H) (hD : va_D A (wX6 G ad0 b0 u ++ wX7 G ad1 b1 v)) (hS : va_S A s.heap H locs) (hl : lv_has ls 4 [(3, .int (nI j)), (2, .ref (ad1 b1)), (1, .ref (ad0 b0)), (0, .ref b)])
    (kk : ∀ (H1 : Heap) (locs1 : List Loc), va_P D vwCl (wX6 G ad0 b0 o.1 ++ wX7 G ad1 b1 o.2) H1 → va_D A (wX6 G ad0 b0 o.1 ++ wX7 G ad1 b1 o.2) → va_S A s.heap H1 locs1 → W p l e room_1 s m #[.ref b] below meth c H1 locs1 cells slots Q (F0 m 758 ls [])) : W p l e room_1 s m #[.ref b] below meth c H locs cells slots Q (F0 m 370 ls []) := by
  obtain ⟨hx, hb, hml, hown, hW, hK, hlocks, hF, hr, hA⟩ := id C0
  unfold qL_8 at hf
  refine lv_aload_n hx hb dL_law_370 rfl (lv_at hl 2 rfl) ?_
  replace hf := zb_s hf
  obtain ⟨r0, h0, hf⟩ := hf
  refine z_Gi (rest := []) C0 kL_47 (c_X6_giveUp l D G ad0 b0 u r0 h0) (List.Perm.refl _) (List.Perm.refl _) (ci := 7) (T := TX6) (N := 5) rfl rfl rfl ⟨Nat.le_of_ble_eq_true rfl, Nat.le_of_ble_eq_true rfl⟩ (Nat.le_of_ble_eq_true rfl) hcs rfl hl.1 hP hD hS dL_law_371 (fun H locs hP hD hS => ?_)
  refine lv_aload_n hx hb dL_law_374 rfl (lv_at hl 1 rfl) ?_
  replace hf := zb_s hf
  obtain ⟨r1, h1, hf⟩ := hf
  refine z_Gi (rest := [.int r0.1]) C0 kL_51 (c_X7_giveUp l D G ad1 b1 v r1 h1) z_pap z_pap (ci := 8) (T := TX7) (N := 11) rfl rfl rfl ⟨Nat.le_of_ble_eq_true rfl, Nat.le_of_ble_eq_true rfl⟩ (Nat.le_of_ble_eq_true rfl) hcs rfl hl.1 hP hD hS dL_law_375 (fun H locs hP hD hS => ?_)
  refine lv_icmp_eq (tgt := 758) hx hb dL_law_378 (by decide) (fun c1 => ?_) (fun c1 => ?_)
  · replace hf := zi_p hf c1
    obtain rfl := zo hf
    exact kk _ _ hP hD hS
  · replace hf := zi_n hf c1
    cases hf
theorem kL_52 : zLkV RL 52 yX6_count cX6_count 2 (some .int) 1 := ⟨⟨wd_489, wd_490, wd_491, wd_2, wd_492⟩, by decide +kernel⟩
theorem kL_55 : zLkV RL 55 yX7_count cX7_count 2 (some .int) 1 := ⟨⟨wd_497, wd_498, wd_499, wd_5, wd_500⟩, by decide +kernel⟩
noncomputable def qL_9 (a1 a2 : Int32) (u : tX6) (v : tX7) : Option (tX6 × tX7) := zb (q_X6_count u a1) fun r0 => zb (q_X7_count v a1) fun r1 => if r0 = r1 then some (u, v) else none
set_option maxRecDepth 100000 in
set_option maxHeartbeats 4000000 in
theorem cL_9 (C0 : zCx p s m #[.ref b] meth c cL_law 4 ret RL D G A) (hX : va_X b L xs s s.heap) (hbl : b < s.heap.size) (hbA : ¬ A b) (hL : L ≤ 1536) {j : Nat} (hj : j + 3 ≤ L) (hcs : cells + 0 ≤ room_1.cells ∧ slots + 0 ≤ room_1.slots) (u : tX6) (v : tX7) (o : tX6 × tX7) (hf : qL_9 (xs (j + 1)) (xs (j + 2)) u v = some o) (hP : va_P D vwCl (wX6 G ad0 b0 u ++ wX7 G ad1 b1 v) H) (hD : va_D A (wX6 G ad0 b0 u ++ wX7 G ad1 b1 v)) (hS : va_S A s.heap H locs) (hl : lv_has ls 4 [(3, .int (nI j)), (2, .ref (ad1 b1)), (1, .ref (ad0 b0)), (0, .ref b)])
    (kk : ∀ (H1 : Heap) (locs1 : List Loc), va_P D vwCl (wX6 G ad0 b0 o.1 ++ wX7 G ad1 b1 o.2) H1 → va_D A (wX6 G ad0 b0 o.1 ++ wX7 G ad1 b1 o.2) → va_S A s.heap H1 locs1 → W p l e room_1 s m #[.ref b] below meth c H1 locs1 cells slots Q (F0 m 758 ls [])) : W p l e room_1 s m #[.ref b] below meth c H locs cells slots Q (F0 m 383 ls []) := by
  obtain ⟨hx, hb, hml, hown, hW, hK, hlocks, hF, hr, hA⟩ := id C0
  unfold qL_9 at hf
  refine lv_aload_n hx hb dL_law_383 rfl (lv_at hl 2 rfl) ?_
  refine zl_arg hx hb hX hbl hbA hS 1 (by decide) (by omega) hL hl dL_law_384 dL_law_385 dL_law_386 dL_law_387 dL_law_388 ?_
  replace hf := zb_s hf
  obtain ⟨r0, h0, hf⟩ := hf
  refine z_Gi (rest := []) C0 kL_52 (c_X6_count l D G ad0 b0 u (xs (j + 1)) r0 h0) (List.Perm.refl _) (List.Perm.refl _) (ci := 7) (T := TX6) (N := 5) rfl rfl rfl ⟨Nat.le_of_ble_eq_true rfl, Nat.le_of_ble_eq_true rfl⟩ (Nat.le_of_ble_eq_true rfl) hcs rfl hl.1 hP hD hS dL_law_389 (fun H locs hP hD hS => ?_)
  refine lv_aload_n hx hb dL_law_392 rfl (lv_at hl 1 rfl) ?_
  refine zl_arg hx hb hX hbl hbA hS 1 (by decide) (by omega) hL hl dL_law_393 dL_law_394 dL_law_395 dL_law_396 dL_law_397 ?_
  replace hf := zb_s hf
  obtain ⟨r1, h1, hf⟩ := hf
  refine z_Gi (rest := [.int r0]) C0 kL_55 (c_X7_count l D G ad1 b1 v (xs (j + 1)) r1 h1) z_pap z_pap (ci := 8) (T := TX7) (N := 11) rfl rfl rfl ⟨Nat.le_of_ble_eq_true rfl, Nat.le_of_ble_eq_true rfl⟩ (Nat.le_of_ble_eq_true rfl) hcs rfl hl.1 hP hD hS dL_law_398 (fun H locs hP hD hS => ?_)
  refine lv_icmp_eq (tgt := 758) hx hb dL_law_401 (by decide) (fun c1 => ?_) (fun c1 => ?_)
  · replace hf := zi_p hf c1
    obtain rfl := zo hf
    exact kk _ _ hP hD hS
  · replace hf := zi_n hf c1
    cases hf
theorem kL_56 : zLkV RL 56 yX6_setting cX6_setting 2 (some .int) 1 := ⟨⟨wd_501, wd_502, wd_503, wd_2, wd_504⟩, by decide +kernel⟩
theorem kL_59 : zLkV RL 59 yX7_setting cX7_setting 2 (some .int) 1 := ⟨⟨wd_506, wd_507, wd_508, wd_5, wd_509⟩, by decide +kernel⟩
noncomputable def qL_10 (a1 a2 : Int32) (u : tX6) (v : tX7) : Option (tX6 × tX7) := zb (q_X6_setting u a1) fun r0 => zb (q_X7_setting v a1) fun r1 => if r0 = r1 then some (u, v) else none
set_option maxRecDepth 100000 in
set_option maxHeartbeats 4000000 in
theorem cL_10 (C0 : zCx p s m #[.ref b] meth c cL_law 4 ret RL D G A) (hX : va_X b L xs s s.heap) (hbl : b < s.heap.size) (hbA : ¬ A b) (hL : L ≤ 1536) {j : Nat} (hj : j + 3 ≤ L) (hcs : cells + 0 ≤ room_1.cells ∧ slots + 0 ≤ room_1.slots) (u : tX6) (v : tX7) (o : tX6 × tX7) (hf : qL_10 (xs (j + 1)) (xs (j + 2)) u v = some o) (hP : va_P D vwCl (wX6 G ad0 b0 u ++ wX7 G ad1 b1 v) H) (hD : va_D A (wX6 G ad0 b0 u ++ wX7 G ad1 b1 v)) (hS : va_S A s.heap H locs) (hl : lv_has ls 4 [(3, .int (nI j)), (2, .ref (ad1 b1)), (1, .ref (ad0 b0)), (0, .ref b)])
    (kk : ∀ (H1 : Heap) (locs1 : List Loc), va_P D vwCl (wX6 G ad0 b0 o.1 ++ wX7 G ad1 b1 o.2) H1 → va_D A (wX6 G ad0 b0 o.1 ++ wX7 G ad1 b1 o.2) → va_S A s.heap H1 locs1 → W p l e room_1 s m #[.ref b] below meth c H1 locs1 cells slots Q (F0 m 758 ls [])) : W p l e room_1 s m #[.ref b] below meth c H locs cells slots Q (F0 m 406 ls []) := by
  obtain ⟨hx, hb, hml, hown, hW, hK, hlocks, hF, hr, hA⟩ := id C0
  unfold qL_10 at hf
  refine lv_aload_n hx hb dL_law_406 rfl (lv_at hl 2 rfl) ?_
  refine zl_arg hx hb hX hbl hbA hS 1 (by decide) (by omega) hL hl dL_law_407 dL_law_408 dL_law_409 dL_law_410 dL_law_411 ?_
  replace hf := zb_s hf
  obtain ⟨r0, h0, hf⟩ := hf
  refine z_Gi (rest := []) C0 kL_56 (c_X6_setting l D G ad0 b0 u (xs (j + 1)) r0 h0) (List.Perm.refl _) (List.Perm.refl _) (ci := 7) (T := TX6) (N := 5) rfl rfl rfl ⟨Nat.le_of_ble_eq_true rfl, Nat.le_of_ble_eq_true rfl⟩ (Nat.le_of_ble_eq_true rfl) hcs rfl hl.1 hP hD hS dL_law_412 (fun H locs hP hD hS => ?_)
  refine lv_aload_n hx hb dL_law_415 rfl (lv_at hl 1 rfl) ?_
  refine zl_arg hx hb hX hbl hbA hS 1 (by decide) (by omega) hL hl dL_law_416 dL_law_417 dL_law_418 dL_law_419 dL_law_420 ?_
  replace hf := zb_s hf
  obtain ⟨r1, h1, hf⟩ := hf
  refine z_Gi (rest := [.int r0]) C0 kL_59 (c_X7_setting l D G ad1 b1 v (xs (j + 1)) r1 h1) z_pap z_pap (ci := 8) (T := TX7) (N := 11) rfl rfl rfl ⟨Nat.le_of_ble_eq_true rfl, Nat.le_of_ble_eq_true rfl⟩ (Nat.le_of_ble_eq_true rfl) hcs rfl hl.1 hP hD hS dL_law_421 (fun H locs hP hD hS => ?_)
  refine lv_icmp_eq (tgt := 758) hx hb dL_law_424 (by decide) (fun c1 => ?_) (fun c1 => ?_)
  · replace hf := zi_p hf c1
    obtain rfl := zo hf
    exact kk _ _ hP hD hS
  · replace hf := zi_n hf c1
    cases hf
theorem kL_60 : zLkV RL 60 yX6_span cX6_span 3 (some .int) 2 := ⟨⟨wd_510, wd_511, wd_512, wd_2, wd_513⟩, by decide +kernel⟩
theorem kL_63 : zLkV RL 63 yX7_span cX7_span 3 (some .int) 2 := ⟨⟨wd_523, wd_524, wd_525, wd_5, wd_526⟩, by decide +kernel⟩
noncomputable def qL_11 (a1 a2 : Int32) (u : tX6) (v : tX7) : Option (tX6 × tX7) := zb (q_X6_span u a1 a2) fun r0 => zb (q_X7_span v a1 a2) fun r1 => if r0 = r1 then some (u, v) else none
set_option maxRecDepth 100000 in
set_option maxHeartbeats 4000000 in
theorem cL_11 (C0 : zCx p s m #[.ref b] meth c cL_law 4 ret RL D G A) (hX : va_X b L xs s s.heap) (hbl : b < s.heap.size) (hbA : ¬ A b) (hL : L ≤ 1536) {j : Nat} (hj : j + 3 ≤ L) (hcs : cells + 0 ≤ room_1.cells ∧ slots + 0 ≤ room_1.slots) (u : tX6) (v : tX7) (o : tX6 × tX7) (hf : qL_11 (xs (j + 1)) (xs (j + 2)) u v = some o) (hP : va_P D vwCl (wX6 G ad0 b0 u ++ wX7 G ad1 b1 v) H) (hD : va_D A (wX6 G ad0 b0 u ++ wX7 G ad1 b1 v)) (hS : va_S A s.heap H locs) (hl : lv_has ls 4 [(3, .int (nI j)), (2, .ref (ad1 b1)), (1, .ref (ad0 b0)), (0, .ref b)])
    (kk : ∀ (H1 : Heap) (locs1 : List Loc), va_P D vwCl (wX6 G ad0 b0 o.1 ++ wX7 G ad1 b1 o.2) H1 → va_D A (wX6 G ad0 b0 o.1 ++ wX7 G ad1 b1 o.2) → va_S A s.heap H1 locs1 → W p l e room_1 s m #[.ref b] below meth c H1 locs1 cells slots Q (F0 m 758 ls [])) : W p l e room_1 s m #[.ref b] below meth c H locs cells slots Q (F0 m 429 ls []) := by
  obtain ⟨hx, hb, hml, hown, hW, hK, hlocks, hF, hr, hA⟩ := id C0
  unfold qL_11 at hf
  refine lv_aload_n hx hb dL_law_429 rfl (lv_at hl 2 rfl) ?_
  refine zl_arg hx hb hX hbl hbA hS 1 (by decide) (by omega) hL hl dL_law_430 dL_law_431 dL_law_432 dL_law_433 dL_law_434 ?_
  refine zl_arg hx hb hX hbl hbA hS 2 (by decide) (by omega) hL hl dL_law_435 dL_law_436 dL_law_437 dL_law_438 dL_law_439 ?_
  replace hf := zb_s hf
  obtain ⟨r0, h0, hf⟩ := hf
  refine z_Gi (rest := []) C0 kL_60 (c_X6_span l D G ad0 b0 u (xs (j + 1)) (xs (j + 2)) r0 h0) (List.Perm.refl _) (List.Perm.refl _) (ci := 7) (T := TX6) (N := 5) rfl rfl rfl ⟨Nat.le_of_ble_eq_true rfl, Nat.le_of_ble_eq_true rfl⟩ (Nat.le_of_ble_eq_true rfl) hcs rfl hl.1 hP hD hS dL_law_440 (fun H locs hP hD hS => ?_)
  refine lv_aload_n hx hb dL_law_443 rfl (lv_at hl 1 rfl) ?_
  refine zl_arg hx hb hX hbl hbA hS 1 (by decide) (by omega) hL hl dL_law_444 dL_law_445 dL_law_446 dL_law_447 dL_law_448 ?_
  refine zl_arg hx hb hX hbl hbA hS 2 (by decide) (by omega) hL hl dL_law_449 dL_law_450 dL_law_451 dL_law_452 dL_law_453 ?_
  replace hf := zb_s hf
  obtain ⟨r1, h1, hf⟩ := hf
  refine z_Gi (rest := [.int r0]) C0 kL_63 (c_X7_span l D G ad1 b1 v (xs (j + 1)) (xs (j + 2)) r1 h1) z_pap z_pap (ci := 8) (T := TX7) (N := 11) rfl rfl rfl ⟨Nat.le_of_ble_eq_true rfl, Nat.le_of_ble_eq_true rfl⟩ (Nat.le_of_ble_eq_true rfl) hcs rfl hl.1 hP hD hS dL_law_454 (fun H locs hP hD hS => ?_)
  refine lv_icmp_eq (tgt := 758) hx hb dL_law_457 (by decide) (fun c1 => ?_) (fun c1 => ?_)
  · replace hf := zi_p hf c1
    obtain rfl := zo hf
    exact kk _ _ hP hD hS
  · replace hf := zi_n hf c1
    cases hf
theorem kL_64 : zLkV RL 64 yX6_tries cX6_tries 3 (some .int) 2 := ⟨⟨wd_531, wd_532, wd_533, wd_2, wd_534⟩, by decide +kernel⟩
theorem kL_67 : zLkV RL 67 yX7_tries cX7_tries 5 (some .int) 2 := ⟨⟨wd_539, wd_540, wd_541, wd_5, wd_542⟩, by decide +kernel⟩
noncomputable def qL_12 (a1 a2 : Int32) (u : tX6) (v : tX7) : Option (tX6 × tX7) := zb (q_X6_tries u a1 a2) fun r0 => zb (q_X7_tries v a1 a2) fun r1 => if r0 = r1 then some (u, v) else none
set_option maxRecDepth 100000 in
set_option maxHeartbeats 4000000 in
theorem cL_12 (C0 : zCx p s m #[.ref b] meth c cL_law 4 ret RL D G A) (hX : va_X b L xs s s.heap) (hbl : b < s.heap.size) (hbA : ¬ A b) (hL : L ≤ 1536) {j : Nat} (hj : j + 3 ≤ L) (hcs : cells + 0 ≤ room_1.cells ∧ slots + 0 ≤ room_1.slots) (u : tX6) (v : tX7) (o : tX6 × tX7) (hf : qL_12 (xs (j + 1)) (xs (j + 2)) u v = some o) (hP : va_P D vwCl (wX6 G ad0 b0 u ++ wX7 G ad1 b1 v) H) (hD : va_D A (wX6 G ad0 b0 u ++ wX7 G ad1 b1 v)) (hS : va_S A s.heap H locs) (hl : lv_has ls 4 [(3, .int (nI j)), (2, .ref (ad1 b1)), (1, .ref (ad0 b0)), (0, .ref b)])
    (kk : ∀ (H1 : Heap) (locs1 : List Loc), va_P D vwCl (wX6 G ad0 b0 o.1 ++ wX7 G ad1 b1 o.2) H1 → va_D A (wX6 G ad0 b0 o.1 ++ wX7 G ad1 b1 o.2) → va_S A s.heap H1 locs1 → W p l e room_1 s m #[.ref b] below meth c H1 locs1 cells slots Q (F0 m 758 ls [])) : W p l e room_1 s m #[.ref b] below meth c H locs cells slots Q (F0 m 462 ls []) := by
  obtain ⟨hx, hb, hml, hown, hW, hK, hlocks, hF, hr, hA⟩ := id C0
  unfold qL_12 at hf
  refine lv_aload_n hx hb dL_law_462 rfl (lv_at hl 2 rfl) ?_
  refine zl_arg hx hb hX hbl hbA hS 1 (by decide) (by omega) hL hl dL_law_463 dL_law_464 dL_law_465 dL_law_466 dL_law_467 ?_
  refine zl_arg hx hb hX hbl hbA hS 2 (by decide) (by omega) hL hl dL_law_468 dL_law_469 dL_law_470 dL_law_471 dL_law_472 ?_
  replace hf := zb_s hf
  obtain ⟨r0, h0, hf⟩ := hf
  refine z_Gi (rest := []) C0 kL_64 (c_X6_tries l D G ad0 b0 u (xs (j + 1)) (xs (j + 2)) r0 h0) (List.Perm.refl _) (List.Perm.refl _) (ci := 7) (T := TX6) (N := 5) rfl rfl rfl ⟨Nat.le_of_ble_eq_true rfl, Nat.le_of_ble_eq_true rfl⟩ (Nat.le_of_ble_eq_true rfl) hcs rfl hl.1 hP hD hS dL_law_473 (fun H locs hP hD hS => ?_)
  refine lv_aload_n hx hb dL_law_476 rfl (lv_at hl 1 rfl) ?_
  refine zl_arg hx hb hX hbl hbA hS 1 (by decide) (by omega) hL hl dL_law_477 dL_law_478 dL_law_479 dL_law_480 dL_law_481 ?_
  refine zl_arg hx hb hX hbl hbA hS 2 (by decide) (by omega) hL hl dL_law_482 dL_law_483 dL_law_484 dL_law_485 dL_law_486 ?_
  replace hf := zb_s hf
  obtain ⟨r1, h1, hf⟩ := hf
  refine z_Gi (rest := [.int r0]) C0 kL_67 (c_X7_tries l D G ad1 b1 v (xs (j + 1)) (xs (j + 2)) r1 h1) z_pap z_pap (ci := 8) (T := TX7) (N := 11) rfl rfl rfl ⟨Nat.le_of_ble_eq_true rfl, Nat.le_of_ble_eq_true rfl⟩ (Nat.le_of_ble_eq_true rfl) hcs rfl hl.1 hP hD hS dL_law_487 (fun H locs hP hD hS => ?_)
  refine lv_icmp_eq (tgt := 758) hx hb dL_law_490 (by decide) (fun c1 => ?_) (fun c1 => ?_)
  · replace hf := zi_p hf c1
    obtain rfl := zo hf
    exact kk _ _ hP hD hS
  · replace hf := zi_n hf c1
    cases hf
theorem kL_68 : zLkV RL 68 yX6_entries cX6_entries 1 (some .int) 0 := ⟨⟨wd_543, wd_544, wd_545, wd_2, wd_546⟩, by decide +kernel⟩
theorem kL_71 : zLkV RL 71 yX7_entries cX7_entries 1 (some .int) 0 := ⟨⟨wd_547, wd_548, wd_549, wd_5, wd_550⟩, by decide +kernel⟩
noncomputable def qL_13 (a1 a2 : Int32) (u : tX6) (v : tX7) : Option (tX6 × tX7) := zb (q_X6_entries u) fun r0 => zb (q_X7_entries v) fun r1 => if r0 = r1 then some (u, v) else none
set_option maxRecDepth 100000 in
set_option maxHeartbeats 4000000 in
theorem cL_13 (C0 : zCx p s m #[.ref b] meth c cL_law 4 ret RL D G A) (hX : va_X b L xs s s.heap) (hbl : b < s.heap.size) (hbA : ¬ A b) (hL : L ≤ 1536) {j : Nat} (hj : j + 3 ≤ L) (hcs : cells + 0 ≤ room_1.cells ∧ slots + 0 ≤ room_1.slots) (u : tX6) (v : tX7) (o : tX6 × tX7) (hf : qL_13 (xs (j + 1)) (xs (j + 2)) u v = some o) (hP : va_P D vwCl (wX6 G ad0 b0 u ++ wX7 G ad1 b1 v) H) (hD : va_D A (wX6 G ad0 b0 u ++ wX7 G ad1 b1 v)) (hS : va_S A s.heap H locs) (hl : lv_has ls 4 [(3, .int (nI j)), (2, .ref (ad1 b1)), (1, .ref (ad0 b0)), (0, .ref b)])
    (kk : ∀ (H1 : Heap) (locs1 : List Loc), va_P D vwCl (wX6 G ad0 b0 o.1 ++ wX7 G ad1 b1 o.2) H1 → va_D A (wX6 G ad0 b0 o.1 ++ wX7 G ad1 b1 o.2) → va_S A s.heap H1 locs1 → W p l e room_1 s m #[.ref b] below meth c H1 locs1 cells slots Q (F0 m 758 ls [])) : W p l e room_1 s m #[.ref b] below meth c H locs cells slots Q (F0 m 495 ls []) := by
  obtain ⟨hx, hb, hml, hown, hW, hK, hlocks, hF, hr, hA⟩ := id C0
  unfold qL_13 at hf
  refine lv_aload_n hx hb dL_law_495 rfl (lv_at hl 2 rfl) ?_
  replace hf := zb_s hf
  obtain ⟨r0, h0, hf⟩ := hf
  refine z_Gi (rest := []) C0 kL_68 (c_X6_entries l D G ad0 b0 u r0 h0) (List.Perm.refl _) (List.Perm.refl _) (ci := 7) (T := TX6) (N := 5) rfl rfl rfl ⟨Nat.le_of_ble_eq_true rfl, Nat.le_of_ble_eq_true rfl⟩ (Nat.le_of_ble_eq_true rfl) hcs rfl hl.1 hP hD hS dL_law_496 (fun H locs hP hD hS => ?_)
  refine lv_aload_n hx hb dL_law_499 rfl (lv_at hl 1 rfl) ?_
  replace hf := zb_s hf
  obtain ⟨r1, h1, hf⟩ := hf
  refine z_Gi (rest := [.int r0]) C0 kL_71 (c_X7_entries l D G ad1 b1 v r1 h1) z_pap z_pap (ci := 8) (T := TX7) (N := 11) rfl rfl rfl ⟨Nat.le_of_ble_eq_true rfl, Nat.le_of_ble_eq_true rfl⟩ (Nat.le_of_ble_eq_true rfl) hcs rfl hl.1 hP hD hS dL_law_500 (fun H locs hP hD hS => ?_)
  refine lv_icmp_eq (tgt := 758) hx hb dL_law_503 (by decide) (fun c1 => ?_) (fun c1 => ?_)
  · replace hf := zi_p hf c1
    obtain rfl := zo hf
    exact kk _ _ hP hD hS
  · replace hf := zi_n hf c1
    cases hf
theorem kL_72 : zLkV RL 72 yX6_entry cX6_entry 3 (some .int) 2 := ⟨⟨wd_555, wd_556, wd_557, wd_2, wd_558⟩, by decide +kernel⟩
theorem kL_75 : zLkV RL 75 yX7_entry cX7_entry 3 (some .int) 2 := ⟨⟨wd_793, wd_794, wd_795, wd_5, wd_796⟩, by decide +kernel⟩
noncomputable def qL_14 (a1 a2 : Int32) (u : tX6) (v : tX7) : Option (tX6 × tX7) := zb (q_X6_entry u a1 a2) fun r0 => zb (q_X7_entry v a1 a2) fun r1 => if r0.1 = r1 then some ((u.1, u.2.1, u.2.2.1, u.2.2.2.1, r0.2), v) else none
set_option maxRecDepth 100000 in
set_option maxHeartbeats 4000000 in
theorem cL_14 (C0 : zCx p s m #[.ref b] meth c cL_law 4 ret RL D G A) (hX : va_X b L xs s s.heap) (hbl : b < s.heap.size) (hbA : ¬ A b) (hL : L ≤ 1536) {j : Nat} (hj : j + 3 ≤ L) (hcs : cells + 0 ≤ room_1.cells ∧ slots + 0 ≤ room_1.slots) (u : tX6) (v : tX7) (o : tX6 × tX7) (hf : qL_14 (xs (j + 1)) (xs (j + 2)) u v = some o) (hP : va_P D vwCl (wX6 G ad0 b0 u ++ wX7 G ad1 b1 v) H) (hD : va_D A (wX6 G ad0 b0 u ++ wX7 G ad1 b1 v)) (hS : va_S A s.heap H locs) (hl : lv_has ls 4 [(3, .int (nI j)), (2, .ref (ad1 b1)), (1, .ref (ad0 b0)), (0, .ref b)])
    (kk : ∀ (H1 : Heap) (locs1 : List Loc), va_P D vwCl (wX6 G ad0 b0 o.1 ++ wX7 G ad1 b1 o.2) H1 → va_D A (wX6 G ad0 b0 o.1 ++ wX7 G ad1 b1 o.2) → va_S A s.heap H1 locs1 → W p l e room_1 s m #[.ref b] below meth c H1 locs1 cells slots Q (F0 m 758 ls [])) : W p l e room_1 s m #[.ref b] below meth c H locs cells slots Q (F0 m 508 ls []) := by
  obtain ⟨hx, hb, hml, hown, hW, hK, hlocks, hF, hr, hA⟩ := id C0
  unfold qL_14 at hf
  refine lv_aload_n hx hb dL_law_508 rfl (lv_at hl 2 rfl) ?_
  refine zl_arg hx hb hX hbl hbA hS 1 (by decide) (by omega) hL hl dL_law_509 dL_law_510 dL_law_511 dL_law_512 dL_law_513 ?_
  refine zl_arg hx hb hX hbl hbA hS 2 (by decide) (by omega) hL hl dL_law_514 dL_law_515 dL_law_516 dL_law_517 dL_law_518 ?_
  replace hf := zb_s hf
  obtain ⟨r0, h0, hf⟩ := hf
  refine z_Gi (rest := []) C0 kL_72 (c_X6_entry l D G ad0 b0 u (xs (j + 1)) (xs (j + 2)) r0 h0) (List.Perm.refl _) (List.Perm.refl _) (ci := 7) (T := TX6) (N := 5) rfl rfl rfl ⟨Nat.le_of_ble_eq_true rfl, Nat.le_of_ble_eq_true rfl⟩ (Nat.le_of_ble_eq_true rfl) hcs rfl hl.1 hP hD hS dL_law_519 (fun H locs hP hD hS => ?_)
  refine lv_aload_n hx hb dL_law_522 rfl (lv_at hl 1 rfl) ?_
  refine zl_arg hx hb hX hbl hbA hS 1 (by decide) (by omega) hL hl dL_law_523 dL_law_524 dL_law_525 dL_law_526 dL_law_527 ?_
  refine zl_arg hx hb hX hbl hbA hS 2 (by decide) (by omega) hL hl dL_law_528 dL_law_529 dL_law_530 dL_law_531 dL_law_532 ?_
  replace hf := zb_s hf
  obtain ⟨r1, h1, hf⟩ := hf
  refine z_Gi (rest := [.int r0.1]) C0 kL_75 (c_X7_entry l D G ad1 b1 v (xs (j + 1)) (xs (j + 2)) r1 h1) z_pap z_pap (ci := 8) (T := TX7) (N := 11) rfl rfl rfl ⟨Nat.le_of_ble_eq_true rfl, Nat.le_of_ble_eq_true rfl⟩ (Nat.le_of_ble_eq_true rfl) hcs rfl hl.1 hP hD hS dL_law_533 (fun H locs hP hD hS => ?_)
  refine lv_icmp_eq (tgt := 758) hx hb dL_law_536 (by decide) (fun c1 => ?_) (fun c1 => ?_)
  · replace hf := zi_p hf c1
    obtain rfl := zo hf
    exact kk _ _ hP hD hS
  · replace hf := zi_n hf c1
    cases hf
theorem kL_76 : zLkV RL 76 yX6_lineAt cX6_lineAt 3 (some .int) 2 := ⟨⟨wd_824, wd_825, wd_826, wd_2, wd_827⟩, by decide +kernel⟩
theorem kL_79 : zLkV RL 79 yX7_lineAt cX7_lineAt 3 (some .int) 2 := ⟨⟨wd_841, wd_842, wd_843, wd_5, wd_844⟩, by decide +kernel⟩
noncomputable def qL_15 (a1 a2 : Int32) (u : tX6) (v : tX7) : Option (tX6 × tX7) := zb (q_X6_lineAt u a1 a2) fun r0 => zb (q_X7_lineAt v a1 a2) fun r1 => if r0.1 = r1 then some ((u.1, u.2.1, u.2.2.1, u.2.2.2.1, r0.2), v) else none
set_option maxRecDepth 100000 in
set_option maxHeartbeats 4000000 in
theorem cL_15 (C0 : zCx p s m #[.ref b] meth c cL_law 4 ret RL D G A) (hX : va_X b L xs s s.heap) (hbl : b < s.heap.size) (hbA : ¬ A b) (hL : L ≤ 1536) {j : Nat} (hj : j + 3 ≤ L) (hcs : cells + 0 ≤ room_1.cells ∧ slots + 0 ≤ room_1.slots) (u : tX6) (v : tX7) (o : tX6 × tX7) (hf : qL_15 (xs (j + 1)) (xs (j + 2)) u v = some o) (hP : va_P D vwCl (wX6 G ad0 b0 u ++ wX7 G ad1 b1 v) H) (hD : va_D A (wX6 G ad0 b0 u ++ wX7 G ad1 b1 v)) (hS : va_S A s.heap H locs) (hl : lv_has ls 4 [(3, .int (nI j)), (2, .ref (ad1 b1)), (1, .ref (ad0 b0)), (0, .ref b)])
    (kk : ∀ (H1 : Heap) (locs1 : List Loc), va_P D vwCl (wX6 G ad0 b0 o.1 ++ wX7 G ad1 b1 o.2) H1 → va_D A (wX6 G ad0 b0 o.1 ++ wX7 G ad1 b1 o.2) → va_S A s.heap H1 locs1 → W p l e room_1 s m #[.ref b] below meth c H1 locs1 cells slots Q (F0 m 758 ls [])) : W p l e room_1 s m #[.ref b] below meth c H locs cells slots Q (F0 m 541 ls []) := by
  obtain ⟨hx, hb, hml, hown, hW, hK, hlocks, hF, hr, hA⟩ := id C0
  unfold qL_15 at hf
  refine lv_aload_n hx hb dL_law_541 rfl (lv_at hl 2 rfl) ?_
  refine zl_arg hx hb hX hbl hbA hS 1 (by decide) (by omega) hL hl dL_law_542 dL_law_543 dL_law_544 dL_law_545 dL_law_546 ?_
  refine zl_arg hx hb hX hbl hbA hS 2 (by decide) (by omega) hL hl dL_law_547 dL_law_548 dL_law_549 dL_law_550 dL_law_551 ?_
  replace hf := zb_s hf
  obtain ⟨r0, h0, hf⟩ := hf
  refine z_Gi (rest := []) C0 kL_76 (c_X6_lineAt l D G ad0 b0 u (xs (j + 1)) (xs (j + 2)) r0 h0) (List.Perm.refl _) (List.Perm.refl _) (ci := 7) (T := TX6) (N := 5) rfl rfl rfl ⟨Nat.le_of_ble_eq_true rfl, Nat.le_of_ble_eq_true rfl⟩ (Nat.le_of_ble_eq_true rfl) hcs rfl hl.1 hP hD hS dL_law_552 (fun H locs hP hD hS => ?_)
  refine lv_aload_n hx hb dL_law_555 rfl (lv_at hl 1 rfl) ?_
  refine zl_arg hx hb hX hbl hbA hS 1 (by decide) (by omega) hL hl dL_law_556 dL_law_557 dL_law_558 dL_law_559 dL_law_560 ?_
  refine zl_arg hx hb hX hbl hbA hS 2 (by decide) (by omega) hL hl dL_law_561 dL_law_562 dL_law_563 dL_law_564 dL_law_565 ?_
  replace hf := zb_s hf
  obtain ⟨r1, h1, hf⟩ := hf
  refine z_Gi (rest := [.int r0.1]) C0 kL_79 (c_X7_lineAt l D G ad1 b1 v (xs (j + 1)) (xs (j + 2)) r1 h1) z_pap z_pap (ci := 8) (T := TX7) (N := 11) rfl rfl rfl ⟨Nat.le_of_ble_eq_true rfl, Nat.le_of_ble_eq_true rfl⟩ (Nat.le_of_ble_eq_true rfl) hcs rfl hl.1 hP hD hS dL_law_566 (fun H locs hP hD hS => ?_)
  refine lv_icmp_eq (tgt := 758) hx hb dL_law_569 (by decide) (fun c1 => ?_) (fun c1 => ?_)
  · replace hf := zi_p hf c1
    obtain rfl := zo hf
    exact kk _ _ hP hD hS
  · replace hf := zi_n hf c1
    cases hf
theorem kL_80 : zLkV RL 80 yX6_overdue cX6_overdue 1 (some .int) 0 := ⟨⟨wd_850, wd_851, wd_852, wd_2, wd_853⟩, by decide +kernel⟩
theorem kL_83 : zLkV RL 83 yX7_overdue cX7_overdue 1 (some .int) 0 := ⟨⟨wd_858, wd_859, wd_860, wd_5, wd_861⟩, by decide +kernel⟩
noncomputable def qL_16 (a1 a2 : Int32) (u : tX6) (v : tX7) : Option (tX6 × tX7) := zb (q_X6_overdue u) fun r0 => zb (q_X7_overdue v) fun r1 => if r0 = r1 then some (u, v) else none
set_option maxRecDepth 100000 in
set_option maxHeartbeats 4000000 in
theorem cL_16 (C0 : zCx p s m #[.ref b] meth c cL_law 4 ret RL D G A) (hX : va_X b L xs s s.heap) (hbl : b < s.heap.size) (hbA : ¬ A b) (hL : L ≤ 1536) {j : Nat} (hj : j + 3 ≤ L) (hcs : cells + 0 ≤ room_1.cells ∧ slots + 0 ≤ room_1.slots) (u : tX6) (v : tX7) (o : tX6 × tX7) (hf : qL_16 (xs (j + 1)) (xs (j + 2)) u v = some o) (hP : va_P D vwCl (wX6 G ad0 b0 u ++ wX7 G ad1 b1 v) H) (hD : va_D A (wX6 G ad0 b0 u ++ wX7 G ad1 b1 v)) (hS : va_S A s.heap H locs) (hl : lv_has ls 4 [(3, .int (nI j)), (2, .ref (ad1 b1)), (1, .ref (ad0 b0)), (0, .ref b)])
    (kk : ∀ (H1 : Heap) (locs1 : List Loc), va_P D vwCl (wX6 G ad0 b0 o.1 ++ wX7 G ad1 b1 o.2) H1 → va_D A (wX6 G ad0 b0 o.1 ++ wX7 G ad1 b1 o.2) → va_S A s.heap H1 locs1 → W p l e room_1 s m #[.ref b] below meth c H1 locs1 cells slots Q (F0 m 758 ls [])) : W p l e room_1 s m #[.ref b] below meth c H locs cells slots Q (F0 m 574 ls []) := by
  obtain ⟨hx, hb, hml, hown, hW, hK, hlocks, hF, hr, hA⟩ := id C0
  unfold qL_16 at hf
  refine lv_aload_n hx hb dL_law_574 rfl (lv_at hl 2 rfl) ?_
  replace hf := zb_s hf
  obtain ⟨r0, h0, hf⟩ := hf
  refine z_Gi (rest := []) C0 kL_80 (c_X6_overdue l D G ad0 b0 u r0 h0) (List.Perm.refl _) (List.Perm.refl _) (ci := 7) (T := TX6) (N := 5) rfl rfl rfl ⟨Nat.le_of_ble_eq_true rfl, Nat.le_of_ble_eq_true rfl⟩ (Nat.le_of_ble_eq_true rfl) hcs rfl hl.1 hP hD hS dL_law_575 (fun H locs hP hD hS => ?_)
  refine lv_aload_n hx hb dL_law_578 rfl (lv_at hl 1 rfl) ?_
  replace hf := zb_s hf
  obtain ⟨r1, h1, hf⟩ := hf
  refine z_Gi (rest := [.int r0]) C0 kL_83 (c_X7_overdue l D G ad1 b1 v r1 h1) z_pap z_pap (ci := 8) (T := TX7) (N := 11) rfl rfl rfl ⟨Nat.le_of_ble_eq_true rfl, Nat.le_of_ble_eq_true rfl⟩ (Nat.le_of_ble_eq_true rfl) hcs rfl hl.1 hP hD hS dL_law_579 (fun H locs hP hD hS => ?_)
  refine lv_icmp_eq (tgt := 758) hx hb dL_law_582 (by decide) (fun c1 => ?_) (fun c1 => ?_)
  · replace hf := zi_p hf c1
    obtain rfl := zo hf
    exact kk _ _ hP hD hS
  · replace hf := zi_n hf c1
    cases hf
theorem kL_84 : zLkV RL 84 yX6_nextCheck cX6_nextCheck 1 (some .int) 0 := ⟨⟨wd_866, wd_867, wd_868, wd_2, wd_869⟩, by decide +kernel⟩
theorem kL_87 : zLkV RL 87 yX7_nextCheck cX7_nextCheck 1 (some .int) 0 := ⟨⟨wd_871, wd_872, wd_873, wd_5, wd_874⟩, by decide +kernel⟩
noncomputable def qL_17 (a1 a2 : Int32) (u : tX6) (v : tX7) : Option (tX6 × tX7) := zb (q_X6_nextCheck u) fun r0 => zb (q_X7_nextCheck v) fun r1 => if r0 = r1 then some (u, v) else none
set_option maxRecDepth 100000 in
set_option maxHeartbeats 4000000 in
theorem cL_17 (C0 : zCx p s m #[.ref b] meth c cL_law 4 ret RL D G A) (hX : va_X b L xs s s.heap) (hbl : b < s.heap.size) (hbA : ¬ A b) (hL : L ≤ 1536) {j : Nat} (hj : j + 3 ≤ L) (hcs : cells + 0 ≤ room_1.cells ∧ slots + 0 ≤ room_1.slots) (u : tX6) (v : tX7) (o : tX6 × tX7) (hf : qL_17 (xs (j + 1)) (xs (j + 2)) u v = some o) (hP : va_P D vwCl (wX6 G ad0 b0 u ++ wX7 G ad1 b1 v) H) (hD : va_D A (wX6 G ad0 b0 u ++ wX7 G ad1 b1 v)) (hS : va_S A s.heap H locs) (hl : lv_has ls 4 [(3, .int (nI j)), (2, .ref (ad1 b1)), (1, .ref (ad0 b0)), (0, .ref b)])
    (kk : ∀ (H1 : Heap) (locs1 : List Loc), va_P D vwCl (wX6 G ad0 b0 o.1 ++ wX7 G ad1 b1 o.2) H1 → va_D A (wX6 G ad0 b0 o.1 ++ wX7 G ad1 b1 o.2) → va_S A s.heap H1 locs1 → W p l e room_1 s m #[.ref b] below meth c H1 locs1 cells slots Q (F0 m 758 ls [])) : W p l e room_1 s m #[.ref b] below meth c H locs cells slots Q (F0 m 587 ls []) := by
  obtain ⟨hx, hb, hml, hown, hW, hK, hlocks, hF, hr, hA⟩ := id C0
  unfold qL_17 at hf
  refine lv_aload_n hx hb dL_law_587 rfl (lv_at hl 2 rfl) ?_
  replace hf := zb_s hf
  obtain ⟨r0, h0, hf⟩ := hf
  refine z_Gi (rest := []) C0 kL_84 (c_X6_nextCheck l D G ad0 b0 u r0 h0) (List.Perm.refl _) (List.Perm.refl _) (ci := 7) (T := TX6) (N := 5) rfl rfl rfl ⟨Nat.le_of_ble_eq_true rfl, Nat.le_of_ble_eq_true rfl⟩ (Nat.le_of_ble_eq_true rfl) hcs rfl hl.1 hP hD hS dL_law_588 (fun H locs hP hD hS => ?_)
  refine lv_aload_n hx hb dL_law_591 rfl (lv_at hl 1 rfl) ?_
  replace hf := zb_s hf
  obtain ⟨r1, h1, hf⟩ := hf
  refine z_Gi (rest := [.int r0]) C0 kL_87 (c_X7_nextCheck l D G ad1 b1 v r1 h1) z_pap z_pap (ci := 8) (T := TX7) (N := 11) rfl rfl rfl ⟨Nat.le_of_ble_eq_true rfl, Nat.le_of_ble_eq_true rfl⟩ (Nat.le_of_ble_eq_true rfl) hcs rfl hl.1 hP hD hS dL_law_592 (fun H locs hP hD hS => ?_)
  refine lv_icmp_eq (tgt := 758) hx hb dL_law_595 (by decide) (fun c1 => ?_) (fun c1 => ?_)
  · replace hf := zi_p hf c1
    obtain rfl := zo hf
    exact kk _ _ hP hD hS
  · replace hf := zi_n hf c1
    cases hf
theorem kL_88 : zLkV RL 88 yX6_checkedIn cX6_checkedIn 3 (some .int) 1 := ⟨⟨wd_875, wd_876, wd_877, wd_2, wd_878⟩, by decide +kernel⟩
theorem kL_91 : zLkV RL 91 yX7_checkedIn cX7_checkedIn 4 (some .int) 1 := ⟨⟨wd_881, wd_882, wd_883, wd_5, wd_884⟩, by decide +kernel⟩
noncomputable def qL_18 (a1 a2 : Int32) (u : tX6) (v : tX7) : Option (tX6 × tX7) := zb (q_X6_checkedIn u a1) fun r0 => zb (q_X7_checkedIn v a1) fun r1 => if r0.1 = r1.1 then some ((u.1, r0.2, u.2.2.1, u.2.2.2.1, u.2.2.2.2), (r1.2.1, r1.2.2, v.2.2.1, v.2.2.2.1, v.2.2.2.2.1, v.2.2.2.2.2.1, v.2.2.2.2.2.2.1, v.2.2.2.2.2.2.2.1, v.2.2.2.2.2.2.2.2.1, v.2.2.2.2.2.2.2.2.2.1, v.2.2.2.2.2.2.2.2.2.2)) else none
set_option maxRecDepth 100000 in
set_option maxHeartbeats 4000000 in
theorem cL_18 (C0 : zCx p s m #[.ref b] meth c cL_law 4 ret RL D G A) (hX : va_X b L xs s s.heap) (hbl : b < s.heap.size) (hbA : ¬ A b) (hL : L ≤ 1536) {j : Nat} (hj : j + 3 ≤ L) (hcs : cells + 0 ≤ room_1.cells ∧ slots + 0 ≤ room_1.slots) (u : tX6) (v : tX7) (o : tX6 × tX7) (hf : qL_18 (xs (j + 1)) (xs (j + 2)) u v = some o) (hP : va_P D vwCl (wX6 G ad0 b0 u ++ wX7 G ad1 b1 v) H) (hD : va_D A (wX6 G ad0 b0 u ++ wX7 G ad1 b1 v)) (hS : va_S A s.heap H locs) (hl : lv_has ls 4 [(3, .int (nI j)), (2, .ref (ad1 b1)), (1, .ref (ad0 b0)), (0, .ref b)])
    (kk : ∀ (H1 : Heap) (locs1 : List Loc), va_P D vwCl (wX6 G ad0 b0 o.1 ++ wX7 G ad1 b1 o.2) H1 → va_D A (wX6 G ad0 b0 o.1 ++ wX7 G ad1 b1 o.2) → va_S A s.heap H1 locs1 → W p l e room_1 s m #[.ref b] below meth c H1 locs1 cells slots Q (F0 m 758 ls [])) : W p l e room_1 s m #[.ref b] below meth c H locs cells slots Q (F0 m 600 ls []) := by
  obtain ⟨hx, hb, hml, hown, hW, hK, hlocks, hF, hr, hA⟩ := id C0
  unfold qL_18 at hf
  refine lv_aload_n hx hb dL_law_600 rfl (lv_at hl 2 rfl) ?_
  refine zl_arg hx hb hX hbl hbA hS 1 (by decide) (by omega) hL hl dL_law_601 dL_law_602 dL_law_603 dL_law_604 dL_law_605 ?_
  replace hf := zb_s hf
  obtain ⟨r0, h0, hf⟩ := hf
  refine z_Gi (rest := []) C0 kL_88 (c_X6_checkedIn l D G ad0 b0 u (xs (j + 1)) r0 h0) (List.Perm.refl _) (List.Perm.refl _) (ci := 7) (T := TX6) (N := 5) rfl rfl rfl ⟨Nat.le_of_ble_eq_true rfl, Nat.le_of_ble_eq_true rfl⟩ (Nat.le_of_ble_eq_true rfl) hcs rfl hl.1 hP hD hS dL_law_606 (fun H locs hP hD hS => ?_)
  refine lv_aload_n hx hb dL_law_609 rfl (lv_at hl 1 rfl) ?_
  refine zl_arg hx hb hX hbl hbA hS 1 (by decide) (by omega) hL hl dL_law_610 dL_law_611 dL_law_612 dL_law_613 dL_law_614 ?_
  replace hf := zb_s hf
  obtain ⟨r1, h1, hf⟩ := hf
  refine z_Gi (rest := [.int r0.1]) C0 kL_91 (c_X7_checkedIn l D G ad1 b1 v (xs (j + 1)) r1 h1) z_pap z_pap (ci := 8) (T := TX7) (N := 11) rfl rfl rfl ⟨Nat.le_of_ble_eq_true rfl, Nat.le_of_ble_eq_true rfl⟩ (Nat.le_of_ble_eq_true rfl) hcs rfl hl.1 hP hD hS dL_law_615 (fun H locs hP hD hS => ?_)
  refine lv_icmp_eq (tgt := 758) hx hb dL_law_618 (by decide) (fun c1 => ?_) (fun c1 => ?_)
  · replace hf := zi_p hf c1
    obtain rfl := zo hf
    exact kk _ _ hP hD hS
  · replace hf := zi_n hf c1
    cases hf
theorem kL_92 : zLkV RL 92 yX6_ifQuiet cX6_ifQuiet 2 (some .int) 1 := ⟨⟨wd_885, wd_886, wd_887, wd_2, wd_888⟩, by decide +kernel⟩
theorem kL_95 : zLkV RL 95 yX7_ifQuiet cX7_ifQuiet 2 (some .int) 1 := ⟨⟨wd_893, wd_894, wd_895, wd_5, wd_896⟩, by decide +kernel⟩
noncomputable def qL_19 (a1 a2 : Int32) (u : tX6) (v : tX7) : Option (tX6 × tX7) := zb (q_X6_ifQuiet u a1) fun r0 => zb (q_X7_ifQuiet v a1) fun r1 => if r0.1 = r1.1 then some ((u.1, r0.2, u.2.2.1, u.2.2.2.1, u.2.2.2.2), (r1.2.1, r1.2.2, v.2.2.1, v.2.2.2.1, v.2.2.2.2.1, v.2.2.2.2.2.1, v.2.2.2.2.2.2.1, v.2.2.2.2.2.2.2.1, v.2.2.2.2.2.2.2.2.1, v.2.2.2.2.2.2.2.2.2.1, v.2.2.2.2.2.2.2.2.2.2)) else none
set_option maxRecDepth 100000 in
set_option maxHeartbeats 4000000 in
theorem cL_19 (C0 : zCx p s m #[.ref b] meth c cL_law 4 ret RL D G A) (hX : va_X b L xs s s.heap) (hbl : b < s.heap.size) (hbA : ¬ A b) (hL : L ≤ 1536) {j : Nat} (hj : j + 3 ≤ L) (hcs : cells + 0 ≤ room_1.cells ∧ slots + 0 ≤ room_1.slots) (u : tX6) (v : tX7) (o : tX6 × tX7) (hf : qL_19 (xs (j + 1)) (xs (j + 2)) u v = some o) (hP : va_P D vwCl (wX6 G ad0 b0 u ++ wX7 G ad1 b1 v) H) (hD : va_D A (wX6 G ad0 b0 u ++ wX7 G ad1 b1 v)) (hS : va_S A s.heap H locs) (hl : lv_has ls 4 [(3, .int (nI j)), (2, .ref (ad1 b1)), (1, .ref (ad0 b0)), (0, .ref b)])
    (kk : ∀ (H1 : Heap) (locs1 : List Loc), va_P D vwCl (wX6 G ad0 b0 o.1 ++ wX7 G ad1 b1 o.2) H1 → va_D A (wX6 G ad0 b0 o.1 ++ wX7 G ad1 b1 o.2) → va_S A s.heap H1 locs1 → W p l e room_1 s m #[.ref b] below meth c H1 locs1 cells slots Q (F0 m 758 ls [])) : W p l e room_1 s m #[.ref b] below meth c H locs cells slots Q (F0 m 623 ls []) := by
  obtain ⟨hx, hb, hml, hown, hW, hK, hlocks, hF, hr, hA⟩ := id C0
  unfold qL_19 at hf
  refine lv_aload_n hx hb dL_law_623 rfl (lv_at hl 2 rfl) ?_
  refine zl_arg hx hb hX hbl hbA hS 1 (by decide) (by omega) hL hl dL_law_624 dL_law_625 dL_law_626 dL_law_627 dL_law_628 ?_
  replace hf := zb_s hf
  obtain ⟨r0, h0, hf⟩ := hf
  refine z_Gi (rest := []) C0 kL_92 (c_X6_ifQuiet l D G ad0 b0 u (xs (j + 1)) r0 h0) (List.Perm.refl _) (List.Perm.refl _) (ci := 7) (T := TX6) (N := 5) rfl rfl rfl ⟨Nat.le_of_ble_eq_true rfl, Nat.le_of_ble_eq_true rfl⟩ (Nat.le_of_ble_eq_true rfl) hcs rfl hl.1 hP hD hS dL_law_629 (fun H locs hP hD hS => ?_)
  refine lv_aload_n hx hb dL_law_632 rfl (lv_at hl 1 rfl) ?_
  refine zl_arg hx hb hX hbl hbA hS 1 (by decide) (by omega) hL hl dL_law_633 dL_law_634 dL_law_635 dL_law_636 dL_law_637 ?_
  replace hf := zb_s hf
  obtain ⟨r1, h1, hf⟩ := hf
  refine z_Gi (rest := [.int r0.1]) C0 kL_95 (c_X7_ifQuiet l D G ad1 b1 v (xs (j + 1)) r1 h1) z_pap z_pap (ci := 8) (T := TX7) (N := 11) rfl rfl rfl ⟨Nat.le_of_ble_eq_true rfl, Nat.le_of_ble_eq_true rfl⟩ (Nat.le_of_ble_eq_true rfl) hcs rfl hl.1 hP hD hS dL_law_638 (fun H locs hP hD hS => ?_)
  refine lv_icmp_eq (tgt := 758) hx hb dL_law_641 (by decide) (fun c1 => ?_) (fun c1 => ?_)
  · replace hf := zi_p hf c1
    obtain rfl := zo hf
    exact kk _ _ hP hD hS
  · replace hf := zi_n hf c1
    cases hf
theorem kL_96 : zLkV RL 96 yX6_bestWay cX6_bestWay 6 (some .int) 1 := ⟨⟨wd_901, wd_902, wd_903, wd_2, wd_904⟩, by decide +kernel⟩
theorem kL_99 : zLkV RL 99 yX7_bestWay cX7_bestWay 6 (some .int) 1 := ⟨⟨wd_905, wd_906, wd_907, wd_5, wd_908⟩, by decide +kernel⟩
noncomputable def qL_20 (a1 a2 : Int32) (u : tX6) (v : tX7) : Option (tX6 × tX7) := zb (q_X6_bestWay u a1) fun r0 => zb (q_X7_bestWay v a1) fun r1 => if r0.1 = r1.1 then some ((u.1, r0.2, u.2.2.1, u.2.2.2.1, u.2.2.2.2), (r1.2.1, r1.2.2, v.2.2.1, v.2.2.2.1, v.2.2.2.2.1, v.2.2.2.2.2.1, v.2.2.2.2.2.2.1, v.2.2.2.2.2.2.2.1, v.2.2.2.2.2.2.2.2.1, v.2.2.2.2.2.2.2.2.2.1, v.2.2.2.2.2.2.2.2.2.2)) else none
set_option maxRecDepth 100000 in
set_option maxHeartbeats 4000000 in
theorem cL_20 (C0 : zCx p s m #[.ref b] meth c cL_law 4 ret RL D G A) (hX : va_X b L xs s s.heap) (hbl : b < s.heap.size) (hbA : ¬ A b) (hL : L ≤ 1536) {j : Nat} (hj : j + 3 ≤ L) (hcs : cells + 0 ≤ room_1.cells ∧ slots + 0 ≤ room_1.slots) (u : tX6) (v : tX7) (o : tX6 × tX7) (hf : qL_20 (xs (j + 1)) (xs (j + 2)) u v = some o) (hP : va_P D vwCl (wX6 G ad0 b0 u ++ wX7 G ad1 b1 v) H) (hD : va_D A (wX6 G ad0 b0 u ++ wX7 G ad1 b1 v)) (hS : va_S A s.heap H locs) (hl : lv_has ls 4 [(3, .int (nI j)), (2, .ref (ad1 b1)), (1, .ref (ad0 b0)), (0, .ref b)])
    (kk : ∀ (H1 : Heap) (locs1 : List Loc), va_P D vwCl (wX6 G ad0 b0 o.1 ++ wX7 G ad1 b1 o.2) H1 → va_D A (wX6 G ad0 b0 o.1 ++ wX7 G ad1 b1 o.2) → va_S A s.heap H1 locs1 → W p l e room_1 s m #[.ref b] below meth c H1 locs1 cells slots Q (F0 m 758 ls [])) : W p l e room_1 s m #[.ref b] below meth c H locs cells slots Q (F0 m 646 ls []) := by
  obtain ⟨hx, hb, hml, hown, hW, hK, hlocks, hF, hr, hA⟩ := id C0
  unfold qL_20 at hf
  refine lv_aload_n hx hb dL_law_646 rfl (lv_at hl 2 rfl) ?_
  refine zl_arg hx hb hX hbl hbA hS 1 (by decide) (by omega) hL hl dL_law_647 dL_law_648 dL_law_649 dL_law_650 dL_law_651 ?_
  replace hf := zb_s hf
  obtain ⟨r0, h0, hf⟩ := hf
  refine z_Gi (rest := []) C0 kL_96 (c_X6_bestWay l D G ad0 b0 u (xs (j + 1)) r0 h0) (List.Perm.refl _) (List.Perm.refl _) (ci := 7) (T := TX6) (N := 5) rfl rfl rfl ⟨Nat.le_of_ble_eq_true rfl, Nat.le_of_ble_eq_true rfl⟩ (Nat.le_of_ble_eq_true rfl) hcs rfl hl.1 hP hD hS dL_law_652 (fun H locs hP hD hS => ?_)
  refine lv_aload_n hx hb dL_law_655 rfl (lv_at hl 1 rfl) ?_
  refine zl_arg hx hb hX hbl hbA hS 1 (by decide) (by omega) hL hl dL_law_656 dL_law_657 dL_law_658 dL_law_659 dL_law_660 ?_
  replace hf := zb_s hf
  obtain ⟨r1, h1, hf⟩ := hf
  refine z_Gi (rest := [.int r0.1]) C0 kL_99 (c_X7_bestWay l D G ad1 b1 v (xs (j + 1)) r1 h1) z_pap z_pap (ci := 8) (T := TX7) (N := 11) rfl rfl rfl ⟨Nat.le_of_ble_eq_true rfl, Nat.le_of_ble_eq_true rfl⟩ (Nat.le_of_ble_eq_true rfl) hcs rfl hl.1 hP hD hS dL_law_661 (fun H locs hP hD hS => ?_)
  refine lv_icmp_eq (tgt := 758) hx hb dL_law_664 (by decide) (fun c1 => ?_) (fun c1 => ?_)
  · replace hf := zi_p hf c1
    obtain rfl := zo hf
    exact kk _ _ hP hD hS
  · replace hf := zi_n hf c1
    cases hf
theorem kL_100 : zLkV RL 100 yX6_type cX6_type 2 (some .int) 1 := ⟨⟨wd_909, wd_910, wd_911, wd_2, wd_912⟩, by decide +kernel⟩
theorem kL_103 : zLkV RL 103 yX7_type cX7_type 2 (some .int) 1 := ⟨⟨wd_917, wd_918, wd_919, wd_5, wd_920⟩, by decide +kernel⟩
noncomputable def qL_21 (a1 a2 : Int32) (u : tX6) (v : tX7) : Option (tX6 × tX7) := zb (q_X6_type u a1) fun r0 => zb (q_X7_type v a1) fun r1 => if r0.1 = r1.1 then some ((u.1, u.2.1, u.2.2.1, (r0.2.1, r0.2.2, u.2.2.2.1.2.2.1, u.2.2.2.1.2.2.2.1, u.2.2.2.1.2.2.2.2.1, u.2.2.2.1.2.2.2.2.2.1, u.2.2.2.1.2.2.2.2.2.2.1, u.2.2.2.1.2.2.2.2.2.2.2), u.2.2.2.2), (v.1, v.2.1, v.2.2.1, v.2.2.2.1, r1.2.1, r1.2.2, v.2.2.2.2.2.2.1, v.2.2.2.2.2.2.2.1, v.2.2.2.2.2.2.2.2.1, v.2.2.2.2.2.2.2.2.2.1, v.2.2.2.2.2.2.2.2.2.2)) else none
set_option maxRecDepth 100000 in
set_option maxHeartbeats 4000000 in
theorem cL_21 (C0 : zCx p s m #[.ref b] meth c cL_law 4 ret RL D G A) (hX : va_X b L xs s s.heap) (hbl : b < s.heap.size) (hbA : ¬ A b) (hL : L ≤ 1536) {j : Nat} (hj : j + 3 ≤ L) (hcs : cells + 0 ≤ room_1.cells ∧ slots + 0 ≤ room_1.slots) (u : tX6) (v : tX7) (o : tX6 × tX7) (hf : qL_21 (xs (j + 1)) (xs (j + 2)) u v = some o) (hP : va_P D vwCl (wX6 G ad0 b0 u ++ wX7 G ad1 b1 v) H) (hD : va_D A (wX6 G ad0 b0 u ++ wX7 G ad1 b1 v)) (hS : va_S A s.heap H locs) (hl : lv_has ls 4 [(3, .int (nI j)), (2, .ref (ad1 b1)), (1, .ref (ad0 b0)), (0, .ref b)])
    (kk : ∀ (H1 : Heap) (locs1 : List Loc), va_P D vwCl (wX6 G ad0 b0 o.1 ++ wX7 G ad1 b1 o.2) H1 → va_D A (wX6 G ad0 b0 o.1 ++ wX7 G ad1 b1 o.2) → va_S A s.heap H1 locs1 → W p l e room_1 s m #[.ref b] below meth c H1 locs1 cells slots Q (F0 m 758 ls [])) : W p l e room_1 s m #[.ref b] below meth c H locs cells slots Q (F0 m 669 ls []) := by
  obtain ⟨hx, hb, hml, hown, hW, hK, hlocks, hF, hr, hA⟩ := id C0
  unfold qL_21 at hf
  refine lv_aload_n hx hb dL_law_669 rfl (lv_at hl 2 rfl) ?_
  refine zl_arg hx hb hX hbl hbA hS 1 (by decide) (by omega) hL hl dL_law_670 dL_law_671 dL_law_672 dL_law_673 dL_law_674 ?_
  replace hf := zb_s hf
  obtain ⟨r0, h0, hf⟩ := hf
  refine z_Gi (rest := []) C0 kL_100 (c_X6_type l D G ad0 b0 u (xs (j + 1)) r0 h0) (List.Perm.refl _) (List.Perm.refl _) (ci := 7) (T := TX6) (N := 5) rfl rfl rfl ⟨Nat.le_of_ble_eq_true rfl, Nat.le_of_ble_eq_true rfl⟩ (Nat.le_of_ble_eq_true rfl) hcs rfl hl.1 hP hD hS dL_law_675 (fun H locs hP hD hS => ?_)
  refine lv_aload_n hx hb dL_law_678 rfl (lv_at hl 1 rfl) ?_
  refine zl_arg hx hb hX hbl hbA hS 1 (by decide) (by omega) hL hl dL_law_679 dL_law_680 dL_law_681 dL_law_682 dL_law_683 ?_
  replace hf := zb_s hf
  obtain ⟨r1, h1, hf⟩ := hf
  refine z_Gi (rest := [.int r0.1]) C0 kL_103 (c_X7_type l D G ad1 b1 v (xs (j + 1)) r1 h1) z_pap z_pap (ci := 8) (T := TX7) (N := 11) rfl rfl rfl ⟨Nat.le_of_ble_eq_true rfl, Nat.le_of_ble_eq_true rfl⟩ (Nat.le_of_ble_eq_true rfl) hcs rfl hl.1 hP hD hS dL_law_684 (fun H locs hP hD hS => ?_)
  refine lv_icmp_eq (tgt := 758) hx hb dL_law_687 (by decide) (fun c1 => ?_) (fun c1 => ?_)
  · replace hf := zi_p hf c1
    obtain rfl := zo hf
    exact kk _ _ hP hD hS
  · replace hf := zi_n hf c1
    cases hf
theorem kL_104 : zLkV RL 104 yX6_clearText cX6_clearText 1 (some .int) 0 := ⟨⟨wd_922, wd_923, wd_924, wd_2, wd_925⟩, by decide +kernel⟩
theorem kL_107 : zLkV RL 107 yX7_clearText cX7_clearText 2 (some .int) 0 := ⟨⟨wd_930, wd_931, wd_932, wd_5, wd_933⟩, by decide +kernel⟩
noncomputable def qL_22 (a1 a2 : Int32) (u : tX6) (v : tX7) : Option (tX6 × tX7) := zb (q_X6_clearText u) fun r0 => zb (q_X7_clearText v) fun r1 => if r0.1 = r1.1 then some ((u.1, u.2.1, u.2.2.1, (u.2.2.2.1.1, r0.2, u.2.2.2.1.2.2.1, u.2.2.2.1.2.2.2.1, u.2.2.2.1.2.2.2.2.1, u.2.2.2.1.2.2.2.2.2.1, u.2.2.2.1.2.2.2.2.2.2.1, u.2.2.2.1.2.2.2.2.2.2.2), u.2.2.2.2), (v.1, v.2.1, v.2.2.1, v.2.2.2.1, v.2.2.2.2.1, r1.2, v.2.2.2.2.2.2.1, v.2.2.2.2.2.2.2.1, v.2.2.2.2.2.2.2.2.1, v.2.2.2.2.2.2.2.2.2.1, v.2.2.2.2.2.2.2.2.2.2)) else none
set_option maxRecDepth 100000 in
set_option maxHeartbeats 4000000 in
theorem cL_22 (C0 : zCx p s m #[.ref b] meth c cL_law 4 ret RL D G A) (hX : va_X b L xs s s.heap) (hbl : b < s.heap.size) (hbA : ¬ A b) (hL : L ≤ 1536) {j : Nat} (hj : j + 3 ≤ L) (hcs : cells + 0 ≤ room_1.cells ∧ slots + 0 ≤ room_1.slots) (u : tX6) (v : tX7) (o : tX6 × tX7) (hf : qL_22 (xs (j + 1)) (xs (j + 2)) u v = some o) (hP : va_P D vwCl (wX6 G ad0 b0 u ++ wX7 G ad1 b1 v) H) (hD : va_D A (wX6 G ad0 b0 u ++ wX7 G ad1 b1 v)) (hS : va_S A s.heap H locs) (hl : lv_has ls 4 [(3, .int (nI j)), (2, .ref (ad1 b1)), (1, .ref (ad0 b0)), (0, .ref b)])
    (kk : ∀ (H1 : Heap) (locs1 : List Loc), va_P D vwCl (wX6 G ad0 b0 o.1 ++ wX7 G ad1 b1 o.2) H1 → va_D A (wX6 G ad0 b0 o.1 ++ wX7 G ad1 b1 o.2) → va_S A s.heap H1 locs1 → W p l e room_1 s m #[.ref b] below meth c H1 locs1 cells slots Q (F0 m 758 ls [])) : W p l e room_1 s m #[.ref b] below meth c H locs cells slots Q (F0 m 692 ls []) := by
  obtain ⟨hx, hb, hml, hown, hW, hK, hlocks, hF, hr, hA⟩ := id C0
  unfold qL_22 at hf
  refine lv_aload_n hx hb dL_law_692 rfl (lv_at hl 2 rfl) ?_
  replace hf := zb_s hf
  obtain ⟨r0, h0, hf⟩ := hf
  refine z_Gi (rest := []) C0 kL_104 (c_X6_clearText l D G ad0 b0 u r0 h0) (List.Perm.refl _) (List.Perm.refl _) (ci := 7) (T := TX6) (N := 5) rfl rfl rfl ⟨Nat.le_of_ble_eq_true rfl, Nat.le_of_ble_eq_true rfl⟩ (Nat.le_of_ble_eq_true rfl) hcs rfl hl.1 hP hD hS dL_law_693 (fun H locs hP hD hS => ?_)
  refine lv_aload_n hx hb dL_law_696 rfl (lv_at hl 1 rfl) ?_
  replace hf := zb_s hf
  obtain ⟨r1, h1, hf⟩ := hf
  refine z_Gi (rest := [.int r0.1]) C0 kL_107 (c_X7_clearText l D G ad1 b1 v r1 h1) z_pap z_pap (ci := 8) (T := TX7) (N := 11) rfl rfl rfl ⟨Nat.le_of_ble_eq_true rfl, Nat.le_of_ble_eq_true rfl⟩ (Nat.le_of_ble_eq_true rfl) hcs rfl hl.1 hP hD hS dL_law_697 (fun H locs hP hD hS => ?_)
  refine lv_icmp_eq (tgt := 758) hx hb dL_law_700 (by decide) (fun c1 => ?_) (fun c1 => ?_)
  · replace hf := zi_p hf c1
    obtain rfl := zo hf
    exact kk _ _ hP hD hS
  · replace hf := zi_n hf c1
    cases hf
theorem kL_108 : zLkV RL 108 yX6_syntaxError cX6_syntaxError 1 (some .int) 0 := ⟨⟨wd_934, wd_935, wd_936, wd_2, wd_937⟩, by decide +kernel⟩
theorem kL_111 : zLkV RL 111 yX7_syntaxError cX7_syntaxError 1 (some .int) 0 := ⟨⟨wd_999, wd_1000, wd_1001, wd_5, wd_1002⟩, by decide +kernel⟩
noncomputable def qL_23 (a1 a2 : Int32) (u : tX6) (v : tX7) : Option (tX6 × tX7) := zb (q_X6_syntaxError u) fun r0 => zb (q_X7_syntaxError v) fun r1 => if r0.1 = r1.1 then some ((u.1, u.2.1, u.2.2.1, r0.2, u.2.2.2.2), (v.1, v.2.1, v.2.2.1, v.2.2.2.1, v.2.2.2.2.1, v.2.2.2.2.2.1, r1.2.1, r1.2.2.1, r1.2.2.2.1, r1.2.2.2.2.1, r1.2.2.2.2.2)) else none
set_option maxRecDepth 100000 in
set_option maxHeartbeats 4000000 in
theorem cL_23 (C0 : zCx p s m #[.ref b] meth c cL_law 4 ret RL D G A) (hX : va_X b L xs s s.heap) (hbl : b < s.heap.size) (hbA : ¬ A b) (hL : L ≤ 1536) {j : Nat} (hj : j + 3 ≤ L) (hcs : cells + 0 ≤ room_1.cells ∧ slots + 0 ≤ room_1.slots) (u : tX6) (v : tX7) (o : tX6 × tX7) (hf : qL_23 (xs (j + 1)) (xs (j + 2)) u v = some o) (hP : va_P D vwCl (wX6 G ad0 b0 u ++ wX7 G ad1 b1 v) H) (hD : va_D A (wX6 G ad0 b0 u ++ wX7 G ad1 b1 v)) (hS : va_S A s.heap H locs) (hl : lv_has ls 4 [(3, .int (nI j)), (2, .ref (ad1 b1)), (1, .ref (ad0 b0)), (0, .ref b)])
    (kk : ∀ (H1 : Heap) (locs1 : List Loc), va_P D vwCl (wX6 G ad0 b0 o.1 ++ wX7 G ad1 b1 o.2) H1 → va_D A (wX6 G ad0 b0 o.1 ++ wX7 G ad1 b1 o.2) → va_S A s.heap H1 locs1 → W p l e room_1 s m #[.ref b] below meth c H1 locs1 cells slots Q (F0 m 758 ls [])) : W p l e room_1 s m #[.ref b] below meth c H locs cells slots Q (F0 m 705 ls []) := by
  obtain ⟨hx, hb, hml, hown, hW, hK, hlocks, hF, hr, hA⟩ := id C0
  unfold qL_23 at hf
  refine lv_aload_n hx hb dL_law_705 rfl (lv_at hl 2 rfl) ?_
  replace hf := zb_s hf
  obtain ⟨r0, h0, hf⟩ := hf
  refine z_Gi (rest := []) C0 kL_108 (c_X6_syntaxError l D G ad0 b0 u r0 h0) (List.Perm.refl _) (List.Perm.refl _) (ci := 7) (T := TX6) (N := 5) rfl rfl rfl ⟨Nat.le_of_ble_eq_true rfl, Nat.le_of_ble_eq_true rfl⟩ (Nat.le_of_ble_eq_true rfl) hcs rfl hl.1 hP hD hS dL_law_706 (fun H locs hP hD hS => ?_)
  refine lv_aload_n hx hb dL_law_709 rfl (lv_at hl 1 rfl) ?_
  replace hf := zb_s hf
  obtain ⟨r1, h1, hf⟩ := hf
  refine z_Gi (rest := [.int r0.1]) C0 kL_111 (c_X7_syntaxError l D G ad1 b1 v r1 h1) z_pap z_pap (ci := 8) (T := TX7) (N := 11) rfl rfl rfl ⟨Nat.le_of_ble_eq_true rfl, Nat.le_of_ble_eq_true rfl⟩ (Nat.le_of_ble_eq_true rfl) hcs rfl hl.1 hP hD hS dL_law_710 (fun H locs hP hD hS => ?_)
  refine lv_icmp_eq (tgt := 758) hx hb dL_law_713 (by decide) (fun c1 => ?_) (fun c1 => ?_)
  · replace hf := zi_p hf c1
    obtain rfl := zo hf
    exact kk _ _ hP hD hS
  · replace hf := zi_n hf c1
    cases hf
theorem kL_112 : zLkV RL 112 yX6_carryOut cX6_carryOut 3 (some .int) 0 := ⟨⟨wd_1052, wd_1053, wd_1054, wd_2, wd_1055⟩, by decide +kernel⟩
theorem kL_115 : zLkV RL 115 yX7_carryOut cX7_carryOut 3 (some .int) 0 := ⟨⟨wd_1060, wd_1061, wd_1062, wd_5, wd_1063⟩, by decide +kernel⟩
noncomputable def qL_24 (a1 a2 : Int32) (u : tX6) (v : tX7) : Option (tX6 × tX7) := zb (q_X6_carryOut u) fun r0 => zb (q_X7_carryOut v) fun r1 => if r0.1 = r1.1 then some ((r0.2.1, u.2.1, r0.2.2.1, r0.2.2.2, u.2.2.2.2), r1.2) else none
set_option maxRecDepth 100000 in
set_option maxHeartbeats 4000000 in
theorem cL_24 (C0 : zCx p s m #[.ref b] meth c cL_law 4 ret RL D G A) (hX : va_X b L xs s s.heap) (hbl : b < s.heap.size) (hbA : ¬ A b) (hL : L ≤ 1536) {j : Nat} (hj : j + 3 ≤ L) (hcs : cells + 0 ≤ room_1.cells ∧ slots + 0 ≤ room_1.slots) (u : tX6) (v : tX7) (o : tX6 × tX7) (hf : qL_24 (xs (j + 1)) (xs (j + 2)) u v = some o) (hP : va_P D vwCl (wX6 G ad0 b0 u ++ wX7 G ad1 b1 v) H) (hD : va_D A (wX6 G ad0 b0 u ++ wX7 G ad1 b1 v)) (hS : va_S A s.heap H locs) (hl : lv_has ls 4 [(3, .int (nI j)), (2, .ref (ad1 b1)), (1, .ref (ad0 b0)), (0, .ref b)])
    (kk : ∀ (H1 : Heap) (locs1 : List Loc), va_P D vwCl (wX6 G ad0 b0 o.1 ++ wX7 G ad1 b1 o.2) H1 → va_D A (wX6 G ad0 b0 o.1 ++ wX7 G ad1 b1 o.2) → va_S A s.heap H1 locs1 → W p l e room_1 s m #[.ref b] below meth c H1 locs1 cells slots Q (F0 m 758 ls [])) : W p l e room_1 s m #[.ref b] below meth c H locs cells slots Q (F0 m 718 ls []) := by
  obtain ⟨hx, hb, hml, hown, hW, hK, hlocks, hF, hr, hA⟩ := id C0
  unfold qL_24 at hf
  refine lv_aload_n hx hb dL_law_718 rfl (lv_at hl 2 rfl) ?_
  replace hf := zb_s hf
  obtain ⟨r0, h0, hf⟩ := hf
  refine z_Gi (rest := []) C0 kL_112 (c_X6_carryOut l D G ad0 b0 u r0 h0) (List.Perm.refl _) (List.Perm.refl _) (ci := 7) (T := TX6) (N := 5) rfl rfl rfl ⟨Nat.le_of_ble_eq_true rfl, Nat.le_of_ble_eq_true rfl⟩ (Nat.le_of_ble_eq_true rfl) hcs rfl hl.1 hP hD hS dL_law_719 (fun H locs hP hD hS => ?_)
  refine lv_aload_n hx hb dL_law_722 rfl (lv_at hl 1 rfl) ?_
  replace hf := zb_s hf
  obtain ⟨r1, h1, hf⟩ := hf
  refine z_Gi (rest := [.int r0.1]) C0 kL_115 (c_X7_carryOut l D G ad1 b1 v r1 h1) z_pap z_pap (ci := 8) (T := TX7) (N := 11) rfl rfl rfl ⟨Nat.le_of_ble_eq_true rfl, Nat.le_of_ble_eq_true rfl⟩ (Nat.le_of_ble_eq_true rfl) hcs rfl hl.1 hP hD hS dL_law_723 (fun H locs hP hD hS => ?_)
  refine lv_icmp_eq (tgt := 758) hx hb dL_law_726 (by decide) (fun c1 => ?_) (fun c1 => ?_)
  · replace hf := zi_p hf c1
    obtain rfl := zo hf
    exact kk _ _ hP hD hS
  · replace hf := zi_n hf c1
    cases hf
theorem kL_116 : zLkV RL 116 yX6_undo cX6_undo 1 (some .int) 0 := ⟨⟨wd_1072, wd_1073, wd_1074, wd_2, wd_1075⟩, by decide +kernel⟩
theorem kL_119 : zLkV RL 119 yX7_undo cX7_undo 1 (some .int) 0 := ⟨⟨wd_1080, wd_1081, wd_1082, wd_5, wd_1083⟩, by decide +kernel⟩
noncomputable def qL_25 (a1 a2 : Int32) (u : tX6) (v : tX7) : Option (tX6 × tX7) := zb (q_X6_undo u) fun r0 => zb (q_X7_undo v) fun r1 => if r0.1 = r1.1 then some ((r0.2.1, u.2.1, (u.2.2.1.1, u.2.2.1.2.1, r0.2.2), u.2.2.2.1, u.2.2.2.2), (r1.2.1, v.2.1, v.2.2.1, r1.2.2, v.2.2.2.2.1, v.2.2.2.2.2.1, v.2.2.2.2.2.2.1, v.2.2.2.2.2.2.2.1, v.2.2.2.2.2.2.2.2.1, v.2.2.2.2.2.2.2.2.2.1, v.2.2.2.2.2.2.2.2.2.2)) else none
set_option maxRecDepth 100000 in
set_option maxHeartbeats 4000000 in
theorem cL_25 (C0 : zCx p s m #[.ref b] meth c cL_law 4 ret RL D G A) (hX : va_X b L xs s s.heap) (hbl : b < s.heap.size) (hbA : ¬ A b) (hL : L ≤ 1536) {j : Nat} (hj : j + 3 ≤ L) (hcs : cells + 0 ≤ room_1.cells ∧ slots + 0 ≤ room_1.slots) (u : tX6) (v : tX7) (o : tX6 × tX7) (hf : qL_25 (xs (j + 1)) (xs (j + 2)) u v = some o) (hP : va_P D vwCl (wX6 G ad0 b0 u ++ wX7 G ad1 b1 v) H) (hD : va_D A (wX6 G ad0 b0 u ++ wX7 G ad1 b1 v)) (hS : va_S A s.heap H locs) (hl : lv_has ls 4 [(3, .int (nI j)), (2, .ref (ad1 b1)), (1, .ref (ad0 b0)), (0, .ref b)])
    (kk : ∀ (H1 : Heap) (locs1 : List Loc), va_P D vwCl (wX6 G ad0 b0 o.1 ++ wX7 G ad1 b1 o.2) H1 → va_D A (wX6 G ad0 b0 o.1 ++ wX7 G ad1 b1 o.2) → va_S A s.heap H1 locs1 → W p l e room_1 s m #[.ref b] below meth c H1 locs1 cells slots Q (F0 m 758 ls [])) : W p l e room_1 s m #[.ref b] below meth c H locs cells slots Q (F0 m 731 ls []) := by
  obtain ⟨hx, hb, hml, hown, hW, hK, hlocks, hF, hr, hA⟩ := id C0
  unfold qL_25 at hf
  refine lv_aload_n hx hb dL_law_731 rfl (lv_at hl 2 rfl) ?_
  replace hf := zb_s hf
  obtain ⟨r0, h0, hf⟩ := hf
  refine z_Gi (rest := []) C0 kL_116 (c_X6_undo l D G ad0 b0 u r0 h0) (List.Perm.refl _) (List.Perm.refl _) (ci := 7) (T := TX6) (N := 5) rfl rfl rfl ⟨Nat.le_of_ble_eq_true rfl, Nat.le_of_ble_eq_true rfl⟩ (Nat.le_of_ble_eq_true rfl) hcs rfl hl.1 hP hD hS dL_law_732 (fun H locs hP hD hS => ?_)
  refine lv_aload_n hx hb dL_law_735 rfl (lv_at hl 1 rfl) ?_
  replace hf := zb_s hf
  obtain ⟨r1, h1, hf⟩ := hf
  refine z_Gi (rest := [.int r0.1]) C0 kL_119 (c_X7_undo l D G ad1 b1 v r1 h1) z_pap z_pap (ci := 8) (T := TX7) (N := 11) rfl rfl rfl ⟨Nat.le_of_ble_eq_true rfl, Nat.le_of_ble_eq_true rfl⟩ (Nat.le_of_ble_eq_true rfl) hcs rfl hl.1 hP hD hS dL_law_736 (fun H locs hP hD hS => ?_)
  refine lv_icmp_eq (tgt := 758) hx hb dL_law_739 (by decide) (fun c1 => ?_) (fun c1 => ?_)
  · replace hf := zi_p hf c1
    obtain rfl := zo hf
    exact kk _ _ hP hD hS
  · replace hf := zi_n hf c1
    cases hf
theorem kL_120 : zLkV RL 120 yX6_digest cX6_digest 4 (some .long) 0 := ⟨⟨wd_1084, wd_1085, wd_1086, wd_2, wd_1087⟩, by decide +kernel⟩
theorem kL_124 : zLkV RL 124 yX7_digest cX7_digest 5 (some .long) 0 := ⟨⟨wd_1106, wd_1107, wd_1108, wd_5, wd_1109⟩, by decide +kernel⟩
noncomputable def qL_26 (a1 a2 : Int32) (u : tX6) (v : tX7) : Option (tX6 × tX7) := zb (q_X6_digest u) fun r0 => zb (q_X7_digest v) fun r1 => if lg_cmp r0.1 r1 = 0 then some ((u.1, u.2.1, u.2.2.1, u.2.2.2.1, r0.2), v) else none
set_option maxRecDepth 100000 in
set_option maxHeartbeats 4000000 in
theorem cL_26 (C0 : zCx p s m #[.ref b] meth c cL_law 4 ret RL D G A) (hX : va_X b L xs s s.heap) (hbl : b < s.heap.size) (hbA : ¬ A b) (hL : L ≤ 1536) {j : Nat} (hj : j + 3 ≤ L) (hcs : cells + 0 ≤ room_1.cells ∧ slots + 0 ≤ room_1.slots) (u : tX6) (v : tX7) (o : tX6 × tX7) (hf : qL_26 (xs (j + 1)) (xs (j + 2)) u v = some o) (hP : va_P D vwCl (wX6 G ad0 b0 u ++ wX7 G ad1 b1 v) H) (hD : va_D A (wX6 G ad0 b0 u ++ wX7 G ad1 b1 v)) (hS : va_S A s.heap H locs) (hl : lv_has ls 4 [(3, .int (nI j)), (2, .ref (ad1 b1)), (1, .ref (ad0 b0)), (0, .ref b)])
    (kk : ∀ (H1 : Heap) (locs1 : List Loc), va_P D vwCl (wX6 G ad0 b0 o.1 ++ wX7 G ad1 b1 o.2) H1 → va_D A (wX6 G ad0 b0 o.1 ++ wX7 G ad1 b1 o.2) → va_S A s.heap H1 locs1 → W p l e room_1 s m #[.ref b] below meth c H1 locs1 cells slots Q (F0 m 758 ls [])) : W p l e room_1 s m #[.ref b] below meth c H locs cells slots Q (F0 m 744 ls []) := by
  obtain ⟨hx, hb, hml, hown, hW, hK, hlocks, hF, hr, hA⟩ := id C0
  unfold qL_26 at hf
  refine lv_aload_n hx hb dL_law_744 rfl (lv_at hl 2 rfl) ?_
  replace hf := zb_s hf
  obtain ⟨r0, h0, hf⟩ := hf
  refine z_Gl (rest := []) C0 kL_120 (c_X6_digest l D G ad0 b0 u r0 h0) (List.Perm.refl _) (List.Perm.refl _) (ci := 7) (T := TX6) (N := 5) rfl rfl rfl ⟨Nat.le_of_ble_eq_true rfl, Nat.le_of_ble_eq_true rfl⟩ (Nat.le_of_ble_eq_true rfl) hcs rfl hl.1 hP hD hS dL_law_745 (fun H locs hP hD hS => ?_)
  refine lv_aload_n hx hb dL_law_748 rfl (lv_at hl 1 rfl) ?_
  replace hf := zb_s hf
  obtain ⟨r1, h1, hf⟩ := hf
  refine z_Gl (rest := [.long r0.1]) C0 kL_124 (c_X7_digest l D G ad1 b1 v r1 h1) z_pap z_pap (ci := 8) (T := TX7) (N := 11) rfl rfl rfl ⟨Nat.le_of_ble_eq_true rfl, Nat.le_of_ble_eq_true rfl⟩ (Nat.le_of_ble_eq_true rfl) hcs rfl hl.1 hP hD hS dL_law_749 (fun H locs hP hD hS => ?_)
  refine W.lcmp hx hb dL_law_752 ?_
  refine lv_if_eq (tgt := 758) hx hb dL_law_753 (by decide) (fun c1 => ?_) (fun c1 => ?_)
  · replace hf := zi_p hf c1
    obtain rfl := zo hf
    exact kk _ _ hP hD hS
  · replace hf := zi_n hf c1
    cases hf
noncomputable def qL_S (x a1 a2 : Int32) (u : tX6) (v : tX7) : Option (tX6 × tX7) := if x = 0 then qL_0 a1 a2 u v else if x = 1 then qL_1 a1 a2 u v else if x = 2 then qL_2 a1 a2 u v else if x = 3 then qL_3 a1 a2 u v else if x = 4 then qL_4 a1 a2 u v else if x = 5 then qL_5 a1 a2 u v else if x = 6 then qL_6 a1 a2 u v else if x = 7 then qL_7 a1 a2 u v else if x = 8 then qL_8 a1 a2 u v else if x = 9 then qL_9 a1 a2 u v else if x = 10 then qL_10 a1 a2 u v else if x = 11 then qL_11 a1 a2 u v else if x = 12 then qL_12 a1 a2 u v else if x = 13 then qL_13 a1 a2 u v else if x = 14 then qL_14 a1 a2 u v else if x = 15 then qL_15 a1 a2 u v else if x = 16 then qL_16 a1 a2 u v else if x = 17 then qL_17 a1 a2 u v else if x = 18 then qL_18 a1 a2 u v else if x = 19 then qL_19 a1 a2 u v else if x = 20 then qL_20 a1 a2 u v else if x = 21 then qL_21 a1 a2 u v else if x = 22 then qL_22 a1 a2 u v else if x = 23 then qL_23 a1 a2 u v else if x = 24 then qL_24 a1 a2 u v else if x = 25 then qL_25 a1 a2 u v else if x = 26 then qL_26 a1 a2 u v else some (u, v)
noncomputable def qL : Nat → Nat → (Nat → Int32) → Nat → tX6 → tX7 → Option Unit
  | 0, _, _, _, _, _ => none
  | n + 1, L, xs, j, u, v => if j + 3 ≤ L then zb (qL_S (xs j &&& 31) (xs (j + 1)) (xs (j + 2)) u v) fun o => qL n L xs (j + 3) o.1 o.2 else some ()
theorem zL_gt {L j : Nat} (hL : L ≤ 1536) (hj : j ≤ 1540) : (Int32.ofNat L - 3 < nI j) ↔ ¬ j + 3 ≤ L := by
  rw [Int32.lt_iff_toInt_lt, nI_toInt (by omega)]
  by_cases h : L < 3
  · have : (Int32.ofNat L - 3).toInt < 0 := by
      rcases (show L = 0 ∨ L = 1 ∨ L = 2 by omega) with rfl | rfl | rfl <;> decide
    omega
  · obtain ⟨k, rfl⟩ : ∃ k, L = k + 3 := ⟨L - 3, by omega⟩
    have : Int32.ofNat (k + 3) - 3 = nI k := by
      rw [show Int32.ofNat (k + 3) = nI k + 3 from (nI_add k 3).symm]
      exact Int32.add_sub_cancel _ _
    rw [this, nI_toInt (by omega)]
    omega
set_option maxRecDepth 100000 in
set_option maxHeartbeats 4000000 in
theorem cL_S (C0 : zCx p s m #[.ref b] meth c cL_law 4 ret RL D G A) (hX : va_X b L xs s s.heap) (hbl : b < s.heap.size) (hbA : ¬ A b) (hL : L ≤ 1536) (hcs : cells + 0 ≤ room_1.cells ∧ slots + 0 ≤ room_1.slots) {j : Nat} (hj : j + 3 ≤ L) (u : tX6) (v : tX7) (o : tX6 × tX7) (hf : qL_S (xs j &&& 31) (xs (j + 1)) (xs (j + 2)) u v = some o) (hP : va_P D vwCl (wX6 G ad0 b0 u ++ wX7 G ad1 b1 v) H) (hD : va_D A (wX6 G ad0 b0 u ++ wX7 G ad1 b1 v)) (hS : va_S A s.heap H locs) (hl : lv_has ls 4 [(3, .int (nI j)), (2, .ref (ad1 b1)), (1, .ref (ad0 b0)), (0, .ref b)])
    (kk : ∀ (H1 : Heap) (locs1 : List Loc), va_P D vwCl (wX6 G ad0 b0 o.1 ++ wX7 G ad1 b1 o.2) H1 → va_D A (wX6 G ad0 b0 o.1 ++ wX7 G ad1 b1 o.2) → va_S A s.heap H1 locs1 → W p l e room_1 s m #[.ref b] below meth c H1 locs1 cells slots Q (F0 m 758 ls [])) : W p l e room_1 s m #[.ref b] below meth c H locs cells slots Q (F0 m 26 ls []) := by
  obtain ⟨hx, hb, hml, hown, hW, hK, hlocks, hF, hr, hA⟩ := id C0
  unfold qL_S at hf
  refine lv_aload_n hx hb dL_law_26 rfl (lv_at hl 3 rfl) ?_
  refine lv_iload_n hx hb dL_law_27 rfl (lv_at hl 0 rfl) ?_
  refine va_sld hx hb hX hbl hbA hS (vp_in_nI (by omega) (by omega)) dL_law_28 ?_
  rw [nI_clamp (by omega)]
  refine lv_bipush (v := 31) hx hb dL_law_29 (by decide) ?_
  refine lv_iand hx hb dL_law_31 ?_
  generalize hxx : xs j &&& 31 = x at hf ⊢
  refine z_by (c := x = 0) (fun c0 => ?_) (fun n0 => ?_)
  · replace hf := zi_p hf c0
    refine lv_tableIn (off := 124) (tgt := 156) hx hb dL_law_32 (by rw [c0]; decide) (by rw [c0]; decide) (by rw [c0]; decide) (by decide) ?_
    exact cL_0 C0 hX hbl hbA hL hj hcs u v o hf hP hD hS hl kk
  replace hf := zi_n hf n0
  refine z_by (c := x = 1) (fun c1 => ?_) (fun n1 => ?_)
  · replace hf := zi_p hf c1
    refine lv_tableIn (off := 157) (tgt := 189) hx hb dL_law_32 (by rw [c1]; decide) (by rw [c1]; decide) (by rw [c1]; decide) (by decide) ?_
    exact cL_1 C0 hX hbl hbA hL hj hcs u v o hf hP hD hS hl kk
  replace hf := zi_n hf n1
  refine z_by (c := x = 2) (fun c2 => ?_) (fun n2 => ?_)
  · replace hf := zi_p hf c2
    refine lv_tableIn (off := 180) (tgt := 212) hx hb dL_law_32 (by rw [c2]; decide) (by rw [c2]; decide) (by rw [c2]; decide) (by decide) ?_
    exact cL_2 C0 hX hbl hbA hL hj hcs u v o hf hP hD hS hl kk
  replace hf := zi_n hf n2
  refine z_by (c := x = 3) (fun c3 => ?_) (fun n3 => ?_)
  · replace hf := zi_p hf c3
    refine lv_tableIn (off := 203) (tgt := 235) hx hb dL_law_32 (by rw [c3]; decide) (by rw [c3]; decide) (by rw [c3]; decide) (by decide) ?_
    exact cL_3 C0 hX hbl hbA hL hj hcs u v o hf hP hD hS hl kk
  replace hf := zi_n hf n3
  refine z_by (c := x = 4) (fun c4 => ?_) (fun n4 => ?_)
  · replace hf := zi_p hf c4
    refine lv_tableIn (off := 236) (tgt := 268) hx hb dL_law_32 (by rw [c4]; decide) (by rw [c4]; decide) (by rw [c4]; decide) (by decide) ?_
    exact cL_4 C0 hX hbl hbA hL hj hcs u v o hf hP hD hS hl kk
  replace hf := zi_n hf n4
  refine z_by (c := x = 5) (fun c5 => ?_) (fun n5 => ?_)
  · replace hf := zi_p hf c5
    refine lv_tableIn (off := 259) (tgt := 291) hx hb dL_law_32 (by rw [c5]; decide) (by rw [c5]; decide) (by rw [c5]; decide) (by decide) ?_
    exact cL_5 C0 hX hbl hbA hL hj hcs u v o hf hP hD hS hl kk
  replace hf := zi_n hf n5
  refine z_by (c := x = 6) (fun c6 => ?_) (fun n6 => ?_)
  · replace hf := zi_p hf c6
    refine lv_tableIn (off := 282) (tgt := 314) hx hb dL_law_32 (by rw [c6]; decide) (by rw [c6]; decide) (by rw [c6]; decide) (by decide) ?_
    exact cL_6 C0 hX hbl hbA hL hj hcs u v o hf hP hD hS hl kk
  replace hf := zi_n hf n6
  refine z_by (c := x = 7) (fun c7 => ?_) (fun n7 => ?_)
  · replace hf := zi_p hf c7
    refine lv_tableIn (off := 315) (tgt := 347) hx hb dL_law_32 (by rw [c7]; decide) (by rw [c7]; decide) (by rw [c7]; decide) (by decide) ?_
    exact cL_7 C0 hX hbl hbA hL hj hcs u v o hf hP hD hS hl kk
  replace hf := zi_n hf n7
  refine z_by (c := x = 8) (fun c8 => ?_) (fun n8 => ?_)
  · replace hf := zi_p hf c8
    refine lv_tableIn (off := 338) (tgt := 370) hx hb dL_law_32 (by rw [c8]; decide) (by rw [c8]; decide) (by rw [c8]; decide) (by decide) ?_
    exact cL_8 C0 hX hbl hbA hL hj hcs u v o hf hP hD hS hl kk
  replace hf := zi_n hf n8
  refine z_by (c := x = 9) (fun c9 => ?_) (fun n9 => ?_)
  · replace hf := zi_p hf c9
    refine lv_tableIn (off := 351) (tgt := 383) hx hb dL_law_32 (by rw [c9]; decide) (by rw [c9]; decide) (by rw [c9]; decide) (by decide) ?_
    exact cL_9 C0 hX hbl hbA hL hj hcs u v o hf hP hD hS hl kk
  replace hf := zi_n hf n9
  refine z_by (c := x = 10) (fun c10 => ?_) (fun n10 => ?_)
  · replace hf := zi_p hf c10
    refine lv_tableIn (off := 374) (tgt := 406) hx hb dL_law_32 (by rw [c10]; decide) (by rw [c10]; decide) (by rw [c10]; decide) (by decide) ?_
    exact cL_10 C0 hX hbl hbA hL hj hcs u v o hf hP hD hS hl kk
  replace hf := zi_n hf n10
  refine z_by (c := x = 11) (fun c11 => ?_) (fun n11 => ?_)
  · replace hf := zi_p hf c11
    refine lv_tableIn (off := 397) (tgt := 429) hx hb dL_law_32 (by rw [c11]; decide) (by rw [c11]; decide) (by rw [c11]; decide) (by decide) ?_
    exact cL_11 C0 hX hbl hbA hL hj hcs u v o hf hP hD hS hl kk
  replace hf := zi_n hf n11
  refine z_by (c := x = 12) (fun c12 => ?_) (fun n12 => ?_)
  · replace hf := zi_p hf c12
    refine lv_tableIn (off := 430) (tgt := 462) hx hb dL_law_32 (by rw [c12]; decide) (by rw [c12]; decide) (by rw [c12]; decide) (by decide) ?_
    exact cL_12 C0 hX hbl hbA hL hj hcs u v o hf hP hD hS hl kk
  replace hf := zi_n hf n12
  refine z_by (c := x = 13) (fun c13 => ?_) (fun n13 => ?_)
  · replace hf := zi_p hf c13
    refine lv_tableIn (off := 463) (tgt := 495) hx hb dL_law_32 (by rw [c13]; decide) (by rw [c13]; decide) (by rw [c13]; decide) (by decide) ?_
    exact cL_13 C0 hX hbl hbA hL hj hcs u v o hf hP hD hS hl kk
  replace hf := zi_n hf n13
  refine z_by (c := x = 14) (fun c14 => ?_) (fun n14 => ?_)
  · replace hf := zi_p hf c14
    refine lv_tableIn (off := 476) (tgt := 508) hx hb dL_law_32 (by rw [c14]; decide) (by rw [c14]; decide) (by rw [c14]; decide) (by decide) ?_
    exact cL_14 C0 hX hbl hbA hL hj hcs u v o hf hP hD hS hl kk
  replace hf := zi_n hf n14
  refine z_by (c := x = 15) (fun c15 => ?_) (fun n15 => ?_)
  · replace hf := zi_p hf c15
    refine lv_tableIn (off := 509) (tgt := 541) hx hb dL_law_32 (by rw [c15]; decide) (by rw [c15]; decide) (by rw [c15]; decide) (by decide) ?_
    exact cL_15 C0 hX hbl hbA hL hj hcs u v o hf hP hD hS hl kk
  replace hf := zi_n hf n15
  refine z_by (c := x = 16) (fun c16 => ?_) (fun n16 => ?_)
  · replace hf := zi_p hf c16
    refine lv_tableIn (off := 542) (tgt := 574) hx hb dL_law_32 (by rw [c16]; decide) (by rw [c16]; decide) (by rw [c16]; decide) (by decide) ?_
    exact cL_16 C0 hX hbl hbA hL hj hcs u v o hf hP hD hS hl kk
  replace hf := zi_n hf n16
  refine z_by (c := x = 17) (fun c17 => ?_) (fun n17 => ?_)
  · replace hf := zi_p hf c17
    refine lv_tableIn (off := 555) (tgt := 587) hx hb dL_law_32 (by rw [c17]; decide) (by rw [c17]; decide) (by rw [c17]; decide) (by decide) ?_
    exact cL_17 C0 hX hbl hbA hL hj hcs u v o hf hP hD hS hl kk
  replace hf := zi_n hf n17
  refine z_by (c := x = 18) (fun c18 => ?_) (fun n18 => ?_)
  · replace hf := zi_p hf c18
    refine lv_tableIn (off := 568) (tgt := 600) hx hb dL_law_32 (by rw [c18]; decide) (by rw [c18]; decide) (by rw [c18]; decide) (by decide) ?_
    exact cL_18 C0 hX hbl hbA hL hj hcs u v o hf hP hD hS hl kk
  replace hf := zi_n hf n18
  refine z_by (c := x = 19) (fun c19 => ?_) (fun n19 => ?_)
  · replace hf := zi_p hf c19
    refine lv_tableIn (off := 591) (tgt := 623) hx hb dL_law_32 (by rw [c19]; decide) (by rw [c19]; decide) (by rw [c19]; decide) (by decide) ?_
    exact cL_19 C0 hX hbl hbA hL hj hcs u v o hf hP hD hS hl kk
  replace hf := zi_n hf n19
  refine z_by (c := x = 20) (fun c20 => ?_) (fun n20 => ?_)
  · replace hf := zi_p hf c20
    refine lv_tableIn (off := 614) (tgt := 646) hx hb dL_law_32 (by rw [c20]; decide) (by rw [c20]; decide) (by rw [c20]; decide) (by decide) ?_
    exact cL_20 C0 hX hbl hbA hL hj hcs u v o hf hP hD hS hl kk
  replace hf := zi_n hf n20
  refine z_by (c := x = 21) (fun c21 => ?_) (fun n21 => ?_)
  · replace hf := zi_p hf c21
    refine lv_tableIn (off := 637) (tgt := 669) hx hb dL_law_32 (by rw [c21]; decide) (by rw [c21]; decide) (by rw [c21]; decide) (by decide) ?_
    exact cL_21 C0 hX hbl hbA hL hj hcs u v o hf hP hD hS hl kk
  replace hf := zi_n hf n21
  refine z_by (c := x = 22) (fun c22 => ?_) (fun n22 => ?_)
  · replace hf := zi_p hf c22
    refine lv_tableIn (off := 660) (tgt := 692) hx hb dL_law_32 (by rw [c22]; decide) (by rw [c22]; decide) (by rw [c22]; decide) (by decide) ?_
    exact cL_22 C0 hX hbl hbA hL hj hcs u v o hf hP hD hS hl kk
  replace hf := zi_n hf n22
  refine z_by (c := x = 23) (fun c23 => ?_) (fun n23 => ?_)
  · replace hf := zi_p hf c23
    refine lv_tableIn (off := 673) (tgt := 705) hx hb dL_law_32 (by rw [c23]; decide) (by rw [c23]; decide) (by rw [c23]; decide) (by decide) ?_
    exact cL_23 C0 hX hbl hbA hL hj hcs u v o hf hP hD hS hl kk
  replace hf := zi_n hf n23
  refine z_by (c := x = 24) (fun c24 => ?_) (fun n24 => ?_)
  · replace hf := zi_p hf c24
    refine lv_tableIn (off := 686) (tgt := 718) hx hb dL_law_32 (by rw [c24]; decide) (by rw [c24]; decide) (by rw [c24]; decide) (by decide) ?_
    exact cL_24 C0 hX hbl hbA hL hj hcs u v o hf hP hD hS hl kk
  replace hf := zi_n hf n24
  refine z_by (c := x = 25) (fun c25 => ?_) (fun n25 => ?_)
  · replace hf := zi_p hf c25
    refine lv_tableIn (off := 699) (tgt := 731) hx hb dL_law_32 (by rw [c25]; decide) (by rw [c25]; decide) (by rw [c25]; decide) (by decide) ?_
    exact cL_25 C0 hX hbl hbA hL hj hcs u v o hf hP hD hS hl kk
  replace hf := zi_n hf n25
  refine z_by (c := x = 26) (fun c26 => ?_) (fun n26 => ?_)
  · replace hf := zi_p hf c26
    refine lv_tableIn (off := 712) (tgt := 744) hx hb dL_law_32 (by rw [c26]; decide) (by rw [c26]; decide) (by rw [c26]; decide) (by decide) ?_
    exact cL_26 C0 hX hbl hbA hL hj hcs u v o hf hP hD hS hl kk
  replace hf := zi_n hf n26
  refine lv_tableOut (tgt := 758) hx hb dL_law_32 (by have h0 := lv_neT (a := 0) n0 (by decide); have h1 := lv_neT (a := 1) n1 (by decide); have h2 := lv_neT (a := 2) n2 (by decide); have h3 := lv_neT (a := 3) n3 (by decide); have h4 := lv_neT (a := 4) n4 (by decide); have h5 := lv_neT (a := 5) n5 (by decide); have h6 := lv_neT (a := 6) n6 (by decide); have h7 := lv_neT (a := 7) n7 (by decide); have h8 := lv_neT (a := 8) n8 (by decide); have h9 := lv_neT (a := 9) n9 (by decide); have h10 := lv_neT (a := 10) n10 (by decide); have h11 := lv_neT (a := 11) n11 (by decide); have h12 := lv_neT (a := 12) n12 (by decide); have h13 := lv_neT (a := 13) n13 (by decide); have h14 := lv_neT (a := 14) n14 (by decide); have h15 := lv_neT (a := 15) n15 (by decide); have h16 := lv_neT (a := 16) n16 (by decide); have h17 := lv_neT (a := 17) n17 (by decide); have h18 := lv_neT (a := 18) n18 (by decide); have h19 := lv_neT (a := 19) n19 (by decide); have h20 := lv_neT (a := 20) n20 (by decide); have h21 := lv_neT (a := 21) n21 (by decide); have h22 := lv_neT (a := 22) n22 (by decide); have h23 := lv_neT (a := 23) n23 (by decide); have h24 := lv_neT (a := 24) n24 (by decide); have h25 := lv_neT (a := 25) n25 (by decide); have h26 := lv_neT (a := 26) n26 (by decide); omega) (by decide) ?_
  obtain rfl := zo hf
  exact kk _ _ hP hD hS
set_option maxRecDepth 100000 in
set_option maxHeartbeats 4000000 in
theorem cL_loop (C0 : zCx p s m #[.ref b] meth c cL_law 4 ret RL D G A) (hX : va_X b L xs s s.heap) (hbl : b < s.heap.size) (hbA : ¬ A b) (hL : L ≤ 1536) (hcs : cells + 0 ≤ room_1.cells ∧ slots + 0 ≤ room_1.slots) (kend : ∀ (H1 : Heap) (locs1 : List Loc) (ls1 : Array Slot), va_S A s.heap H1 locs1 → W p l e room_1 s m #[.ref b] below meth c H1 locs1 cells slots Q (F0 m 764 ls1 [])) : ∀ (n j : Nat) (u : tX6) (v : tX7) (hf : qL n L xs j u v = some ()) (hj : j ≤ 1540) (H : Heap) (locs : List Loc) (ls : Array Slot) (hP : va_P D vwCl (wX6 G ad0 b0 u ++ wX7 G ad1 b1 v) H) (hD : va_D A (wX6 G ad0 b0 u ++ wX7 G ad1 b1 v)) (hS : va_S A s.heap H locs) (hl : lv_has ls 4 [(3, .int (nI j)), (2, .ref (ad1 b1)), (1, .ref (ad0 b0)), (0, .ref b)]), W p l e room_1 s m #[.ref b] below meth c H locs cells slots Q (F0 m 18 ls []) := by
  obtain ⟨hx, hb, hml, hown, hW, hK, hlocks, hF, hr, hA⟩ := id C0
  intro n
  induction n with
  | zero => intro j u v hf; cases hf
  | succ n ih =>
    intro j u v hf hj H locs ls hP hD hS hl
    unfold qL at hf
    refine lv_iload_n hx hb dL_law_18 rfl (lv_at hl 0 rfl) ?_
    refine lv_aload_n hx hb dL_law_19 rfl (lv_at hl 3 rfl) ?_
    refine va_slen hx hb hX hbl hbA hS dL_law_20 ?_
    refine lv_iconst (v := 3) hx hb dL_law_21 (by decide) ?_
    refine lv_isub hx hb dL_law_22 ?_
    refine lv_icmp_gt (tgt := 764) hx hb dL_law_23 (by decide) (fun c1 => ?_) (fun c1 => ?_)
    · exact kend _ _ _ hS
    · have c2 : j + 3 ≤ L := by
        by_cases h : j + 3 ≤ L
        · exact h
        · exact absurd ((zL_gt hL hj).mpr h) c1
      replace hf := zb_s (zi_p hf c2)
      obtain ⟨o, ho, hf⟩ := hf
      refine cL_S C0 hX hbl hbA hL hcs c2 u v o ho hP hD hS hl (fun H locs hP hD hS => ?_)
      refine lv_iinc (v := nI (j + 3)) (lv' := [(3, .int (nI (j + 3))), (2, .ref (ad1 b1)), (1, .ref (ad0 b0)), (0, .ref b)]) hx hb dL_law_758 hl (k := 0) rfl (nI_add j 3) (by decide) rfl (fun ls hl => ?_)
      refine lv_goto (tgt := 18) hx hb dL_law_761 (by decide) ?_
      exact ih (j + 3) o.1 o.2 hf (by omega) _ _ _ hP hD hS hl
end ZLAW
