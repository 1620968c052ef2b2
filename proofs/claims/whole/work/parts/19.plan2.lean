theorem kX4_56 : zLkV RX4 56 yX4_takeSpan cX4_takeSpan 1 (some .boolean) 0 := ⟨⟨wd_975, wd_976, wd_977, wd_23, wd_978⟩, by decide +kernel⟩
theorem kX4_60 : zLkV RX4 60 yX4_note cX4_note 3 (some .boolean) 2 := ⟨⟨wd_983, wd_984, wd_985, wd_23, wd_986⟩, by decide +kernel⟩
theorem kX4_64 : zLkV RX4 64 yX4_takeNumber cX4_takeNumber 3 (some .boolean) 0 := ⟨⟨wd_987, wd_988, wd_989, wd_23, wd_990⟩, by decide +kernel⟩
theorem kX4_67 : zLkV RX4 67 yX4_noteSecond cX4_noteSecond 2 (some .boolean) 1 := ⟨⟨wd_991, wd_992, wd_993, wd_23, wd_994⟩, by decide +kernel⟩
theorem kX4_82 : zLkV RX4 82 yX4_takeWay cX4_takeWay 1 (some .boolean) 0 := ⟨⟨wd_995, wd_996, wd_997, wd_23, wd_998⟩, by decide +kernel⟩
noncomputable def q_X4_takeCommand (u : tX4) (p1 : Int32) : Option (Int32 × tX4) :=
  zb (q_X4_sign u) fun r1 => (if r1 = 97 then zb (q_X4_takeWord u 8) fun r145 => (if r145.1 = 0 then some (0, (u.1, u.2.1, r145.2, u.2.2.2.1, u.2.2.2.2.1, u.2.2.2.2.2.1, u.2.2.2.2.2.2.1, u.2.2.2.2.2.2.2)) else zb (q_X4_takeSpan (u.1, u.2.1, r145.2, u.2.2.2.1, u.2.2.2.2.1, u.2.2.2.2.2.1, u.2.2.2.2.2.2.1, u.2.2.2.2.2.2.2)) fun r152 => (if r152.1 = 0 then some (0, (u.1, u.2.1, r152.2.1, u.2.2.2.1, u.2.2.2.2.1, u.2.2.2.2.2.1, u.2.2.2.2.2.2.1, r152.2.2)) else zb (q_X4_note (u.1, u.2.1, r152.2.1, u.2.2.2.1, u.2.2.2.2.1, u.2.2.2.2.2.1, u.2.2.2.2.2.2.1, r152.2.2) p1 3) fun r161 => (if r161.1 = 0 then some (0, (u.1, u.2.1, r152.2.1, r161.2.1, r161.2.2, u.2.2.2.2.2.1, u.2.2.2.2.2.2.1, r152.2.2)) else some (1, (u.1, u.2.1, r152.2.1, r161.2.1, r161.2.2, u.2.2.2.2.2.1, u.2.2.2.2.2.2.1, r152.2.2))))) else if r1 = 113 then zb (q_X4_takeWord u 7) fun r114 => (if r114.1 = 0 then some (0, (u.1, u.2.1, r114.2, u.2.2.2.1, u.2.2.2.2.1, u.2.2.2.2.2.1, u.2.2.2.2.2.2.1, u.2.2.2.2.2.2.2)) else zb (q_X4_takeNumber (u.1, u.2.1, r114.2, u.2.2.2.1, u.2.2.2.2.1, u.2.2.2.2.2.1, u.2.2.2.2.2.2.1, u.2.2.2.2.2.2.2)) fun r121 => (if r121.1 = 0 then some (0, (u.1, u.2.1, r121.2.1, u.2.2.2.1, u.2.2.2.2.1, u.2.2.2.2.2.1, u.2.2.2.2.2.2.1, r121.2.2)) else zb (q_X4_note (u.1, u.2.1, r121.2.1, u.2.2.2.1, u.2.2.2.2.1, u.2.2.2.2.2.1, u.2.2.2.2.2.2.1, r121.2.2) p1 2) fun r130 => (if r130.1 = 0 then some (0, (u.1, u.2.1, r121.2.1, r130.2.1, r130.2.2, u.2.2.2.2.2.1, u.2.2.2.2.2.2.1, r121.2.2)) else some (1, (u.1, u.2.1, r121.2.1, r130.2.1, r130.2.2, u.2.2.2.2.2.1, u.2.2.2.2.2.2.1, r121.2.2))))) else if r1 = 114 then zb (q_X4_takeWord u 6) fun r59 => (if r59.1 = 0 then some (0, (u.1, u.2.1, r59.2, u.2.2.2.1, u.2.2.2.2.1, u.2.2.2.2.2.1, u.2.2.2.2.2.2.1, u.2.2.2.2.2.2.2)) else zb (q_X4_takeSpan (u.1, u.2.1, r59.2, u.2.2.2.1, u.2.2.2.2.1, u.2.2.2.2.2.1, u.2.2.2.2.2.2.1, u.2.2.2.2.2.2.2)) fun r66 => (if r66.1 = 0 then some (0, (u.1, u.2.1, r66.2.1, u.2.2.2.1, u.2.2.2.2.1, u.2.2.2.2.2.1, u.2.2.2.2.2.2.1, r66.2.2)) else zb (q_X4_note (u.1, u.2.1, r66.2.1, u.2.2.2.1, u.2.2.2.2.1, u.2.2.2.2.2.1, u.2.2.2.2.2.2.1, r66.2.2) p1 1) fun r75 => (if r75.1 = 0 then some (0, (u.1, u.2.1, r66.2.1, r75.2.1, r75.2.2, u.2.2.2.2.2.1, u.2.2.2.2.2.2.1, r66.2.2)) else zb (q_X4_takeSign (u.1, u.2.1, r66.2.1, r75.2.1, r75.2.2, u.2.2.2.2.2.1, u.2.2.2.2.2.2.1, r66.2.2) 58) fun r84 => (if r84.1 = 0 then some (0, (u.1, u.2.1, r84.2, r75.2.1, r75.2.2, u.2.2.2.2.2.1, u.2.2.2.2.2.2.1, r66.2.2)) else zb (q_X4_takeNumber (u.1, u.2.1, r84.2, r75.2.1, r75.2.2, u.2.2.2.2.2.1, u.2.2.2.2.2.2.1, r66.2.2)) fun r91 => (if r91.1 = 0 then some (0, (u.1, u.2.1, r91.2.1, r75.2.1, r75.2.2, u.2.2.2.2.2.1, u.2.2.2.2.2.2.1, r91.2.2)) else zb (q_X4_noteSecond (u.1, u.2.1, r91.2.1, r75.2.1, r75.2.2, u.2.2.2.2.2.1, u.2.2.2.2.2.2.1, r91.2.2) p1) fun r99 => (if r99.1 = 0 then some (0, (u.1, u.2.1, r91.2.1, r75.2.1, r75.2.2, r99.2, u.2.2.2.2.2.2.1, r91.2.2)) else some (1, (u.1, u.2.1, r91.2.1, r75.2.1, r75.2.2, r99.2, u.2.2.2.2.2.2.1, r91.2.2)))))))) else if r1 = 115 then zb (q_X4_takeWord u 9) fun r176 => (if r176.1 = 0 then some (0, (u.1, u.2.1, r176.2, u.2.2.2.1, u.2.2.2.2.1, u.2.2.2.2.2.1, u.2.2.2.2.2.2.1, u.2.2.2.2.2.2.2)) else zb (q_X4_takeSpan (u.1, u.2.1, r176.2, u.2.2.2.1, u.2.2.2.2.1, u.2.2.2.2.2.1, u.2.2.2.2.2.2.1, u.2.2.2.2.2.2.2)) fun r183 => (if r183.1 = 0 then some (0, (u.1, u.2.1, r183.2.1, u.2.2.2.1, u.2.2.2.2.1, u.2.2.2.2.2.1, u.2.2.2.2.2.2.1, r183.2.2)) else zb (q_X4_note (u.1, u.2.1, r183.2.1, u.2.2.2.1, u.2.2.2.2.1, u.2.2.2.2.2.1, u.2.2.2.2.2.2.1, r183.2.2) p1 4) fun r192 => (if r192.1 = 0 then some (0, (u.1, u.2.1, r183.2.1, r192.2.1, r192.2.2, u.2.2.2.2.2.1, u.2.2.2.2.2.2.1, r183.2.2)) else zb (q_X4_takeSign (u.1, u.2.1, r183.2.1, r192.2.1, r192.2.2, u.2.2.2.2.2.1, u.2.2.2.2.2.2.1, r183.2.2) 58) fun r201 => (if r201.1 = 0 then some (0, (u.1, u.2.1, r201.2, r192.2.1, r192.2.2, u.2.2.2.2.2.1, u.2.2.2.2.2.2.1, r183.2.2)) else zb (q_X4_takeDigit (u.1, u.2.1, r201.2, r192.2.1, r192.2.2, u.2.2.2.2.2.1, u.2.2.2.2.2.2.1, r183.2.2) 49 57) fun r212 => (if r212.1 = 0 then some (0, (u.1, u.2.1, r212.2.1, r192.2.1, r192.2.2, u.2.2.2.2.2.1, u.2.2.2.2.2.2.1, r212.2.2)) else zb (q_X4_noteSecond (u.1, u.2.1, r212.2.1, r192.2.1, r192.2.2, u.2.2.2.2.2.1, u.2.2.2.2.2.2.1, r212.2.2) p1) fun r220 => (if r220.1 = 0 then some (0, (u.1, u.2.1, r212.2.1, r192.2.1, r192.2.2, r220.2, u.2.2.2.2.2.2.1, r212.2.2)) else some (1, (u.1, u.2.1, r212.2.1, r192.2.1, r192.2.2, r220.2, u.2.2.2.2.2.2.1, r212.2.2)))))))) else if r1 = 119 then zb (q_X4_takeWord u 10) fun r235 => (if r235.1 = 0 then some (0, (u.1, u.2.1, r235.2, u.2.2.2.1, u.2.2.2.2.1, u.2.2.2.2.2.1, u.2.2.2.2.2.2.1, u.2.2.2.2.2.2.2)) else zb (q_X4_takeWay (u.1, u.2.1, r235.2, u.2.2.2.1, u.2.2.2.2.1, u.2.2.2.2.2.1, u.2.2.2.2.2.2.1, u.2.2.2.2.2.2.2)) fun r242 => (if r242.1 = 0 then some (0, (u.1, u.2.1, r242.2.1, u.2.2.2.1, u.2.2.2.2.1, u.2.2.2.2.2.1, u.2.2.2.2.2.2.1, r242.2.2)) else zb (q_X4_note (u.1, u.2.1, r242.2.1, u.2.2.2.1, u.2.2.2.2.1, u.2.2.2.2.2.1, u.2.2.2.2.2.2.1, r242.2.2) p1 5) fun r251 => (if r251.1 = 0 then some (0, (u.1, u.2.1, r242.2.1, r251.2.1, r251.2.2, u.2.2.2.2.2.1, u.2.2.2.2.2.2.1, r242.2.2)) else some (1, (u.1, u.2.1, r242.2.1, r251.2.1, r251.2.2, u.2.2.2.2.2.1, u.2.2.2.2.2.2.1, r242.2.2))))) else some (0, u))
set_option maxRecDepth 100000 in
set_option maxHeartbeats 4000000 in
theorem c_X4_takeCommand (l : Launch) (D : va_G) (G : zG) (ad : Nat → Nat) (b : Nat) (u : tX4) (p1 : Int32) (res : Int32 × tX4) (hf : q_X4_takeCommand u p1 = some res) : zMi l yX4_takeCommand cX4_takeCommand 2 (some .boolean) 6 127 D G (wX4 G ad b u) (wX4 G ad b res.2) [.ref (ad b), .int p1] res.1 := by
  refine zs_z (plainFor_of_name (by decide)) (Nat.le_of_ble_eq_true rfl) ?_
  intro p e s m args below meth c A Q H ls C0 hret hP hD hS hl
  obtain ⟨hx, hb, hml, hown, hW, hK, hlocks, hF, hr, hA⟩ := id C0
  replace hl : lv_has ls 2 [(0, .ref (ad b)), (1, .int p1)] := hl
  unfold q_X4_takeCommand at hf
  refine lv_aload_n hx hb dX4_takeCommand_0 rfl (lv_at hl 0 rfl) ?_
  replace hf := zb_s hf
  obtain ⟨r1, hr1, hf⟩ := hf
  refine z_Vi (rest := []) C0 kX4_46 (c_X4_sign l D G ad (b) u r1 hr1) z_pall z_pall.symm (ci := 5) (T := TX4) (N := 8) rfl rfl rfl ⟨Nat.le_of_ble_eq_true rfl, Nat.le_of_ble_eq_true rfl⟩ (Nat.le_of_ble_eq_true rfl) rfl hl.1 hP hD hS dX4_takeCommand_1 (fun H locs hP hD hS => ?_)
  refine z_by (c := r1 = 97) (fun c4_0 => ?_) (fun n4_0 => ?_)
  · replace hf := zi_p hf c4_0
    refine lv_lookup (tgt := 142) (off := 138) hx hb dX4_takeCommand_4 (by decide) (by rw [c4_0]; decide) (by decide) ?_
    refine lv_aload_n hx hb dX4_takeCommand_142 rfl (lv_at hl 0 rfl) ?_
    refine va_ldcS (tx := "ask ") hx hb hown (zF_ref8 hF) dX4_takeCommand_143 ?_
    replace hf := zb_s hf
    obtain ⟨r145, hr145, hf⟩ := hf
    refine z_Vi (rest := []) C0 kX4_52 (c_X4_takeWord l D G ad (b) u 8 r145 hr145) z_pall z_pall.symm (ci := 5) (T := TX4) (N := 8) rfl rfl rfl ⟨Nat.le_of_ble_eq_true rfl, Nat.le_of_ble_eq_true rfl⟩ (Nat.le_of_ble_eq_true rfl) rfl hl.1 hP hD hS dX4_takeCommand_145 (fun H locs hP hD hS => ?_)
    replace hP : va_P D vwCl (wX4 G ad b (u.1, u.2.1, r145.2, u.2.2.2.1, u.2.2.2.2.1, u.2.2.2.2.2.1, u.2.2.2.2.2.2.1, u.2.2.2.2.2.2.2)) H := hP
    replace hD : va_D A (wX4 G ad b (u.1, u.2.1, r145.2, u.2.2.2.1, u.2.2.2.2.1, u.2.2.2.2.2.1, u.2.2.2.2.2.2.1, u.2.2.2.2.2.2.2)) := hD
    refine lv_if_eq (tgt := 171) hx hb dX4_takeCommand_148 (by decide) (fun c148 => ?_) (fun c148 => ?_)
    · replace hf := zi_p hf c148
      refine lv_iconst (v := 0) hx hb dX4_takeCommand_171 (by decide) ?_
      obtain rfl := zo hf
      exact hret _ _ _ _ _ hP hD hS rfl rfl dX4_takeCommand_172
    · replace hf := zi_n hf c148
      refine lv_aload_n hx hb dX4_takeCommand_151 rfl (lv_at hl 0 rfl) ?_
      replace hf := zb_s hf
      obtain ⟨r152, hr152, hf⟩ := hf
      refine z_Vi (rest := []) C0 kX4_56 (c_X4_takeSpan l D G ad (b) (u.1, u.2.1, r145.2, u.2.2.2.1, u.2.2.2.2.1, u.2.2.2.2.2.1, u.2.2.2.2.2.2.1, u.2.2.2.2.2.2.2) r152 hr152) z_pall z_pall.symm (ci := 5) (T := TX4) (N := 8) rfl rfl rfl ⟨Nat.le_of_ble_eq_true rfl, Nat.le_of_ble_eq_true rfl⟩ (Nat.le_of_ble_eq_true rfl) rfl hl.1 hP hD hS dX4_takeCommand_152 (fun H locs hP hD hS => ?_)
      replace hP : va_P D vwCl (wX4 G ad b (u.1, u.2.1, r152.2.1, u.2.2.2.1, u.2.2.2.2.1, u.2.2.2.2.2.1, u.2.2.2.2.2.2.1, r152.2.2)) H := hP
      replace hD : va_D A (wX4 G ad b (u.1, u.2.1, r152.2.1, u.2.2.2.1, u.2.2.2.2.1, u.2.2.2.2.2.1, u.2.2.2.2.2.2.1, r152.2.2)) := hD
      refine lv_if_eq (tgt := 171) hx hb dX4_takeCommand_155 (by decide) (fun c155 => ?_) (fun c155 => ?_)
      · replace hf := zi_p hf c155
        refine lv_iconst (v := 0) hx hb dX4_takeCommand_171 (by decide) ?_
        obtain rfl := zo hf
        exact hret _ _ _ _ _ hP hD hS rfl rfl dX4_takeCommand_172
      · replace hf := zi_n hf c155
        refine lv_aload_n hx hb dX4_takeCommand_158 rfl (lv_at hl 0 rfl) ?_
        refine lv_iload_n hx hb dX4_takeCommand_159 rfl (lv_at hl 1 rfl) ?_
        refine lv_iconst (v := 3) hx hb dX4_takeCommand_160 (by decide) ?_
        replace hf := zb_s hf
        obtain ⟨r161, hr161, hf⟩ := hf
        refine z_Vi (rest := []) C0 kX4_60 (c_X4_note l D G ad (b) (u.1, u.2.1, r152.2.1, u.2.2.2.1, u.2.2.2.2.1, u.2.2.2.2.2.1, u.2.2.2.2.2.2.1, r152.2.2) p1 3 r161 hr161) z_pall z_pall.symm (ci := 5) (T := TX4) (N := 8) rfl rfl rfl ⟨Nat.le_of_ble_eq_true rfl, Nat.le_of_ble_eq_true rfl⟩ (Nat.le_of_ble_eq_true rfl) rfl hl.1 hP hD hS dX4_takeCommand_161 (fun H locs hP hD hS => ?_)
        replace hP : va_P D vwCl (wX4 G ad b (u.1, u.2.1, r152.2.1, r161.2.1, r161.2.2, u.2.2.2.2.2.1, u.2.2.2.2.2.2.1, r152.2.2)) H := hP
        replace hD : va_D A (wX4 G ad b (u.1, u.2.1, r152.2.1, r161.2.1, r161.2.2, u.2.2.2.2.2.1, u.2.2.2.2.2.2.1, r152.2.2)) := hD
        refine lv_if_eq (tgt := 171) hx hb dX4_takeCommand_164 (by decide) (fun c164 => ?_) (fun c164 => ?_)
        · replace hf := zi_p hf c164
          refine lv_iconst (v := 0) hx hb dX4_takeCommand_171 (by decide) ?_
          obtain rfl := zo hf
          exact hret _ _ _ _ _ hP hD hS rfl rfl dX4_takeCommand_172
        · replace hf := zi_n hf c164
          refine lv_iconst (v := 1) hx hb dX4_takeCommand_167 (by decide) ?_
          refine lv_goto (tgt := 172) hx hb dX4_takeCommand_168 (by decide) ?_
          obtain rfl := zo hf
          exact hret _ _ _ _ _ hP hD hS rfl rfl dX4_takeCommand_172
  · replace hf := zi_n hf n4_0
    refine z_by (c := r1 = 113) (fun c4_1 => ?_) (fun n4_1 => ?_)
    · replace hf := zi_p hf c4_1
      refine lv_lookup (tgt := 111) (off := 107) hx hb dX4_takeCommand_4 (by decide) (by rw [c4_1]; decide) (by decide) ?_
      refine lv_aload_n hx hb dX4_takeCommand_111 rfl (lv_at hl 0 rfl) ?_
      refine va_ldcS (tx := "quiet ") hx hb hown (zF_ref7 hF) dX4_takeCommand_112 ?_
      replace hf := zb_s hf
      obtain ⟨r114, hr114, hf⟩ := hf
      refine z_Vi (rest := []) C0 kX4_52 (c_X4_takeWord l D G ad (b) u 7 r114 hr114) z_pall z_pall.symm (ci := 5) (T := TX4) (N := 8) rfl rfl rfl ⟨Nat.le_of_ble_eq_true rfl, Nat.le_of_ble_eq_true rfl⟩ (Nat.le_of_ble_eq_true rfl) rfl hl.1 hP hD hS dX4_takeCommand_114 (fun H locs hP hD hS => ?_)
      replace hP : va_P D vwCl (wX4 G ad b (u.1, u.2.1, r114.2, u.2.2.2.1, u.2.2.2.2.1, u.2.2.2.2.2.1, u.2.2.2.2.2.2.1, u.2.2.2.2.2.2.2)) H := hP
      replace hD : va_D A (wX4 G ad b (u.1, u.2.1, r114.2, u.2.2.2.1, u.2.2.2.2.1, u.2.2.2.2.2.1, u.2.2.2.2.2.2.1, u.2.2.2.2.2.2.2)) := hD
      refine lv_if_eq (tgt := 140) hx hb dX4_takeCommand_117 (by decide) (fun c117 => ?_) (fun c117 => ?_)
      · replace hf := zi_p hf c117
        refine lv_iconst (v := 0) hx hb dX4_takeCommand_140 (by decide) ?_
        obtain rfl := zo hf
        exact hret _ _ _ _ _ hP hD hS rfl rfl dX4_takeCommand_141
      · replace hf := zi_n hf c117
        refine lv_aload_n hx hb dX4_takeCommand_120 rfl (lv_at hl 0 rfl) ?_
        replace hf := zb_s hf
        obtain ⟨r121, hr121, hf⟩ := hf
        refine z_Vi (rest := []) C0 kX4_64 (c_X4_takeNumber l D G ad (b) (u.1, u.2.1, r114.2, u.2.2.2.1, u.2.2.2.2.1, u.2.2.2.2.2.1, u.2.2.2.2.2.2.1, u.2.2.2.2.2.2.2) r121 hr121) z_pall z_pall.symm (ci := 5) (T := TX4) (N := 8) rfl rfl rfl ⟨Nat.le_of_ble_eq_true rfl, Nat.le_of_ble_eq_true rfl⟩ (Nat.le_of_ble_eq_true rfl) rfl hl.1 hP hD hS dX4_takeCommand_121 (fun H locs hP hD hS => ?_)
        replace hP : va_P D vwCl (wX4 G ad b (u.1, u.2.1, r121.2.1, u.2.2.2.1, u.2.2.2.2.1, u.2.2.2.2.2.1, u.2.2.2.2.2.2.1, r121.2.2)) H := hP
        replace hD : va_D A (wX4 G ad b (u.1, u.2.1, r121.2.1, u.2.2.2.1, u.2.2.2.2.1, u.2.2.2.2.2.1, u.2.2.2.2.2.2.1, r121.2.2)) := hD
        refine lv_if_eq (tgt := 140) hx hb dX4_takeCommand_124 (by decide) (fun c124 => ?_) (fun c124 => ?_)
        · replace hf := zi_p hf c124
          refine lv_iconst (v := 0) hx hb dX4_takeCommand_140 (by decide) ?_
          obtain rfl := zo hf
          exact hret _ _ _ _ _ hP hD hS rfl rfl dX4_takeCommand_141
        · replace hf := zi_n hf c124
          refine lv_aload_n hx hb dX4_takeCommand_127 rfl (lv_at hl 0 rfl) ?_
          refine lv_iload_n hx hb dX4_takeCommand_128 rfl (lv_at hl 1 rfl) ?_
          refine lv_iconst (v := 2) hx hb dX4_takeCommand_129 (by decide) ?_
          replace hf := zb_s hf
          obtain ⟨r130, hr130, hf⟩ := hf
          refine z_Vi (rest := []) C0 kX4_60 (c_X4_note l D G ad (b) (u.1, u.2.1, r121.2.1, u.2.2.2.1, u.2.2.2.2.1, u.2.2.2.2.2.1, u.2.2.2.2.2.2.1, r121.2.2) p1 2 r130 hr130) z_pall z_pall.symm (ci := 5) (T := TX4) (N := 8) rfl rfl rfl ⟨Nat.le_of_ble_eq_true rfl, Nat.le_of_ble_eq_true rfl⟩ (Nat.le_of_ble_eq_true rfl) rfl hl.1 hP hD hS dX4_takeCommand_130 (fun H locs hP hD hS => ?_)
          replace hP : va_P D vwCl (wX4 G ad b (u.1, u.2.1, r121.2.1, r130.2.1, r130.2.2, u.2.2.2.2.2.1, u.2.2.2.2.2.2.1, r121.2.2)) H := hP
          replace hD : va_D A (wX4 G ad b (u.1, u.2.1, r121.2.1, r130.2.1, r130.2.2, u.2.2.2.2.2.1, u.2.2.2.2.2.2.1, r121.2.2)) := hD
          refine lv_if_eq (tgt := 140) hx hb dX4_takeCommand_133 (by decide) (fun c133 => ?_) (fun c133 => ?_)
          · replace hf := zi_p hf c133
            refine lv_iconst (v := 0) hx hb dX4_takeCommand_140 (by decide) ?_
            obtain rfl := zo hf
            exact hret _ _ _ _ _ hP hD hS rfl rfl dX4_takeCommand_141
          · replace hf := zi_n hf c133
            refine lv_iconst (v := 1) hx hb dX4_takeCommand_136 (by decide) ?_
            refine lv_goto (tgt := 141) hx hb dX4_takeCommand_137 (by decide) ?_
            obtain rfl := zo hf
            exact hret _ _ _ _ _ hP hD hS rfl rfl dX4_takeCommand_141
    · replace hf := zi_n hf n4_1
      refine z_by (c := r1 = 114) (fun c4_2 => ?_) (fun n4_2 => ?_)
      · replace hf := zi_p hf c4_2
        refine lv_lookup (tgt := 56) (off := 52) hx hb dX4_takeCommand_4 (by decide) (by rw [c4_2]; decide) (by decide) ?_
        refine lv_aload_n hx hb dX4_takeCommand_56 rfl (lv_at hl 0 rfl) ?_
        refine va_ldcS (tx := "read ") hx hb hown (zF_ref6 hF) dX4_takeCommand_57 ?_
        replace hf := zb_s hf
        obtain ⟨r59, hr59, hf⟩ := hf
        refine z_Vi (rest := []) C0 kX4_52 (c_X4_takeWord l D G ad (b) u 6 r59 hr59) z_pall z_pall.symm (ci := 5) (T := TX4) (N := 8) rfl rfl rfl ⟨Nat.le_of_ble_eq_true rfl, Nat.le_of_ble_eq_true rfl⟩ (Nat.le_of_ble_eq_true rfl) rfl hl.1 hP hD hS dX4_takeCommand_59 (fun H locs hP hD hS => ?_)
        replace hP : va_P D vwCl (wX4 G ad b (u.1, u.2.1, r59.2, u.2.2.2.1, u.2.2.2.2.1, u.2.2.2.2.2.1, u.2.2.2.2.2.2.1, u.2.2.2.2.2.2.2)) H := hP
        replace hD : va_D A (wX4 G ad b (u.1, u.2.1, r59.2, u.2.2.2.1, u.2.2.2.2.1, u.2.2.2.2.2.1, u.2.2.2.2.2.2.1, u.2.2.2.2.2.2.2)) := hD
        refine lv_if_eq (tgt := 109) hx hb dX4_takeCommand_62 (by decide) (fun c62 => ?_) (fun c62 => ?_)
        · replace hf := zi_p hf c62
          refine lv_iconst (v := 0) hx hb dX4_takeCommand_109 (by decide) ?_
          obtain rfl := zo hf
          exact hret _ _ _ _ _ hP hD hS rfl rfl dX4_takeCommand_110
        · replace hf := zi_n hf c62
          refine lv_aload_n hx hb dX4_takeCommand_65 rfl (lv_at hl 0 rfl) ?_
          replace hf := zb_s hf
          obtain ⟨r66, hr66, hf⟩ := hf
          refine z_Vi (rest := []) C0 kX4_56 (c_X4_takeSpan l D G ad (b) (u.1, u.2.1, r59.2, u.2.2.2.1, u.2.2.2.2.1, u.2.2.2.2.2.1, u.2.2.2.2.2.2.1, u.2.2.2.2.2.2.2) r66 hr66) z_pall z_pall.symm (ci := 5) (T := TX4) (N := 8) rfl rfl rfl ⟨Nat.le_of_ble_eq_true rfl, Nat.le_of_ble_eq_true rfl⟩ (Nat.le_of_ble_eq_true rfl) rfl hl.1 hP hD hS dX4_takeCommand_66 (fun H locs hP hD hS => ?_)
          replace hP : va_P D vwCl (wX4 G ad b (u.1, u.2.1, r66.2.1, u.2.2.2.1, u.2.2.2.2.1, u.2.2.2.2.2.1, u.2.2.2.2.2.2.1, r66.2.2)) H := hP
          replace hD : va_D A (wX4 G ad b (u.1, u.2.1, r66.2.1, u.2.2.2.1, u.2.2.2.2.1, u.2.2.2.2.2.1, u.2.2.2.2.2.2.1, r66.2.2)) := hD
          refine lv_if_eq (tgt := 109) hx hb dX4_takeCommand_69 (by decide) (fun c69 => ?_) (fun c69 => ?_)
          · replace hf := zi_p hf c69
            refine lv_iconst (v := 0) hx hb dX4_takeCommand_109 (by decide) ?_
            obtain rfl := zo hf
            exact hret _ _ _ _ _ hP hD hS rfl rfl dX4_takeCommand_110
          · replace hf := zi_n hf c69
            refine lv_aload_n hx hb dX4_takeCommand_72 rfl (lv_at hl 0 rfl) ?_
            refine lv_iload_n hx hb dX4_takeCommand_73 rfl (lv_at hl 1 rfl) ?_
            refine lv_iconst (v := 1) hx hb dX4_takeCommand_74 (by decide) ?_
            replace hf := zb_s hf
            obtain ⟨r75, hr75, hf⟩ := hf
            refine z_Vi (rest := []) C0 kX4_60 (c_X4_note l D G ad (b) (u.1, u.2.1, r66.2.1, u.2.2.2.1, u.2.2.2.2.1, u.2.2.2.2.2.1, u.2.2.2.2.2.2.1, r66.2.2) p1 1 r75 hr75) z_pall z_pall.symm (ci := 5) (T := TX4) (N := 8) rfl rfl rfl ⟨Nat.le_of_ble_eq_true rfl, Nat.le_of_ble_eq_true rfl⟩ (Nat.le_of_ble_eq_true rfl) rfl hl.1 hP hD hS dX4_takeCommand_75 (fun H locs hP hD hS => ?_)
            replace hP : va_P D vwCl (wX4 G ad b (u.1, u.2.1, r66.2.1, r75.2.1, r75.2.2, u.2.2.2.2.2.1, u.2.2.2.2.2.2.1, r66.2.2)) H := hP
            replace hD : va_D A (wX4 G ad b (u.1, u.2.1, r66.2.1, r75.2.1, r75.2.2, u.2.2.2.2.2.1, u.2.2.2.2.2.2.1, r66.2.2)) := hD
            refine lv_if_eq (tgt := 109) hx hb dX4_takeCommand_78 (by decide) (fun c78 => ?_) (fun c78 => ?_)
            · replace hf := zi_p hf c78
              refine lv_iconst (v := 0) hx hb dX4_takeCommand_109 (by decide) ?_
              obtain rfl := zo hf
              exact hret _ _ _ _ _ hP hD hS rfl rfl dX4_takeCommand_110
            · replace hf := zi_n hf c78
              refine lv_aload_n hx hb dX4_takeCommand_81 rfl (lv_at hl 0 rfl) ?_
              refine lv_bipush (v := 58) hx hb dX4_takeCommand_82 (by decide) ?_
              replace hf := zb_s hf
              obtain ⟨r84, hr84, hf⟩ := hf
              refine z_Vi (rest := []) C0 kX4_42 (c_X4_takeSign l D G ad (b) (u.1, u.2.1, r66.2.1, r75.2.1, r75.2.2, u.2.2.2.2.2.1, u.2.2.2.2.2.2.1, r66.2.2) 58 r84 hr84) z_pall z_pall.symm (ci := 5) (T := TX4) (N := 8) rfl rfl rfl ⟨Nat.le_of_ble_eq_true rfl, Nat.le_of_ble_eq_true rfl⟩ (Nat.le_of_ble_eq_true rfl) rfl hl.1 hP hD hS dX4_takeCommand_84 (fun H locs hP hD hS => ?_)
              replace hP : va_P D vwCl (wX4 G ad b (u.1, u.2.1, r84.2, r75.2.1, r75.2.2, u.2.2.2.2.2.1, u.2.2.2.2.2.2.1, r66.2.2)) H := hP
              replace hD : va_D A (wX4 G ad b (u.1, u.2.1, r84.2, r75.2.1, r75.2.2, u.2.2.2.2.2.1, u.2.2.2.2.2.2.1, r66.2.2)) := hD
              refine lv_if_eq (tgt := 109) hx hb dX4_takeCommand_87 (by decide) (fun c87 => ?_) (fun c87 => ?_)
              · replace hf := zi_p hf c87
                refine lv_iconst (v := 0) hx hb dX4_takeCommand_109 (by decide) ?_
                obtain rfl := zo hf
                exact hret _ _ _ _ _ hP hD hS rfl rfl dX4_takeCommand_110
              · replace hf := zi_n hf c87
                refine lv_aload_n hx hb dX4_takeCommand_90 rfl (lv_at hl 0 rfl) ?_
                replace hf := zb_s hf
                obtain ⟨r91, hr91, hf⟩ := hf
                refine z_Vi (rest := []) C0 kX4_64 (c_X4_takeNumber l D G ad (b) (u.1, u.2.1, r84.2, r75.2.1, r75.2.2, u.2.2.2.2.2.1, u.2.2.2.2.2.2.1, r66.2.2) r91 hr91) z_pall z_pall.symm (ci := 5) (T := TX4) (N := 8) rfl rfl rfl ⟨Nat.le_of_ble_eq_true rfl, Nat.le_of_ble_eq_true rfl⟩ (Nat.le_of_ble_eq_true rfl) rfl hl.1 hP hD hS dX4_takeCommand_91 (fun H locs hP hD hS => ?_)
                replace hP : va_P D vwCl (wX4 G ad b (u.1, u.2.1, r91.2.1, r75.2.1, r75.2.2, u.2.2.2.2.2.1, u.2.2.2.2.2.2.1, r91.2.2)) H := hP
                replace hD : va_D A (wX4 G ad b (u.1, u.2.1, r91.2.1, r75.2.1, r75.2.2, u.2.2.2.2.2.1, u.2.2.2.2.2.2.1, r91.2.2)) := hD
                refine lv_if_eq (tgt := 109) hx hb dX4_takeCommand_94 (by decide) (fun c94 => ?_) (fun c94 => ?_)
                · replace hf := zi_p hf c94
                  refine lv_iconst (v := 0) hx hb dX4_takeCommand_109 (by decide) ?_
                  obtain rfl := zo hf
                  exact hret _ _ _ _ _ hP hD hS rfl rfl dX4_takeCommand_110
                · replace hf := zi_n hf c94
                  refine lv_aload_n hx hb dX4_takeCommand_97 rfl (lv_at hl 0 rfl) ?_
                  refine lv_iload_n hx hb dX4_takeCommand_98 rfl (lv_at hl 1 rfl) ?_
                  replace hf := zb_s hf
                  obtain ⟨r99, hr99, hf⟩ := hf
                  refine z_Vi (rest := []) C0 kX4_67 (c_X4_noteSecond l D G ad (b) (u.1, u.2.1, r91.2.1, r75.2.1, r75.2.2, u.2.2.2.2.2.1, u.2.2.2.2.2.2.1, r91.2.2) p1 r99 hr99) z_pall z_pall.symm (ci := 5) (T := TX4) (N := 8) rfl rfl rfl ⟨Nat.le_of_ble_eq_true rfl, Nat.le_of_ble_eq_true rfl⟩ (Nat.le_of_ble_eq_true rfl) rfl hl.1 hP hD hS dX4_takeCommand_99 (fun H locs hP hD hS => ?_)
                  replace hP : va_P D vwCl (wX4 G ad b (u.1, u.2.1, r91.2.1, r75.2.1, r75.2.2, r99.2, u.2.2.2.2.2.2.1, r91.2.2)) H := hP
                  replace hD : va_D A (wX4 G ad b (u.1, u.2.1, r91.2.1, r75.2.1, r75.2.2, r99.2, u.2.2.2.2.2.2.1, r91.2.2)) := hD
                  refine lv_if_eq (tgt := 109) hx hb dX4_takeCommand_102 (by decide) (fun c102 => ?_) (fun c102 => ?_)
                  · replace hf := zi_p hf c102
                    refine lv_iconst (v := 0) hx hb dX4_takeCommand_109 (by decide) ?_
                    obtain rfl := zo hf
                    exact hret _ _ _ _ _ hP hD hS rfl rfl dX4_takeCommand_110
                  · replace hf := zi_n hf c102
                    refine lv_iconst (v := 1) hx hb dX4_takeCommand_105 (by decide) ?_
                    refine lv_goto (tgt := 110) hx hb dX4_takeCommand_106 (by decide) ?_
                    obtain rfl := zo hf
                    exact hret _ _ _ _ _ hP hD hS rfl rfl dX4_takeCommand_110
      · replace hf := zi_n hf n4_2
        refine z_by (c := r1 = 115) (fun c4_3 => ?_) (fun n4_3 => ?_)
        · replace hf := zi_p hf c4_3
          refine lv_lookup (tgt := 173) (off := 169) hx hb dX4_takeCommand_4 (by decide) (by rw [c4_3]; decide) (by decide) ?_
          refine lv_aload_n hx hb dX4_takeCommand_173 rfl (lv_at hl 0 rfl) ?_
          refine va_ldcS (tx := "spot ") hx hb hown (zF_ref9 hF) dX4_takeCommand_174 ?_
          replace hf := zb_s hf
          obtain ⟨r176, hr176, hf⟩ := hf
          refine z_Vi (rest := []) C0 kX4_52 (c_X4_takeWord l D G ad (b) u 9 r176 hr176) z_pall z_pall.symm (ci := 5) (T := TX4) (N := 8) rfl rfl rfl ⟨Nat.le_of_ble_eq_true rfl, Nat.le_of_ble_eq_true rfl⟩ (Nat.le_of_ble_eq_true rfl) rfl hl.1 hP hD hS dX4_takeCommand_176 (fun H locs hP hD hS => ?_)
          replace hP : va_P D vwCl (wX4 G ad b (u.1, u.2.1, r176.2, u.2.2.2.1, u.2.2.2.2.1, u.2.2.2.2.2.1, u.2.2.2.2.2.2.1, u.2.2.2.2.2.2.2)) H := hP
          replace hD : va_D A (wX4 G ad b (u.1, u.2.1, r176.2, u.2.2.2.1, u.2.2.2.2.1, u.2.2.2.2.2.1, u.2.2.2.2.2.2.1, u.2.2.2.2.2.2.2)) := hD
          refine lv_if_eq (tgt := 230) hx hb dX4_takeCommand_179 (by decide) (fun c179 => ?_) (fun c179 => ?_)
          · replace hf := zi_p hf c179
            refine lv_iconst (v := 0) hx hb dX4_takeCommand_230 (by decide) ?_
            obtain rfl := zo hf
            exact hret _ _ _ _ _ hP hD hS rfl rfl dX4_takeCommand_231
          · replace hf := zi_n hf c179
            refine lv_aload_n hx hb dX4_takeCommand_182 rfl (lv_at hl 0 rfl) ?_
            replace hf := zb_s hf
            obtain ⟨r183, hr183, hf⟩ := hf
            refine z_Vi (rest := []) C0 kX4_56 (c_X4_takeSpan l D G ad (b) (u.1, u.2.1, r176.2, u.2.2.2.1, u.2.2.2.2.1, u.2.2.2.2.2.1, u.2.2.2.2.2.2.1, u.2.2.2.2.2.2.2) r183 hr183) z_pall z_pall.symm (ci := 5) (T := TX4) (N := 8) rfl rfl rfl ⟨Nat.le_of_ble_eq_true rfl, Nat.le_of_ble_eq_true rfl⟩ (Nat.le_of_ble_eq_true rfl) rfl hl.1 hP hD hS dX4_takeCommand_183 (fun H locs hP hD hS => ?_)
            replace hP : va_P D vwCl (wX4 G ad b (u.1, u.2.1, r183.2.1, u.2.2.2.1, u.2.2.2.2.1, u.2.2.2.2.2.1, u.2.2.2.2.2.2.1, r183.2.2)) H := hP
            replace hD : va_D A (wX4 G ad b (u.1, u.2.1, r183.2.1, u.2.2.2.1, u.2.2.2.2.1, u.2.2.2.2.2.1, u.2.2.2.2.2.2.1, r183.2.2)) := hD
            refine lv_if_eq (tgt := 230) hx hb dX4_takeCommand_186 (by decide) (fun c186 => ?_) (fun c186 => ?_)
            · replace hf := zi_p hf c186
              refine lv_iconst (v := 0) hx hb dX4_takeCommand_230 (by decide) ?_
              obtain rfl := zo hf
              exact hret _ _ _ _ _ hP hD hS rfl rfl dX4_takeCommand_231
            · replace hf := zi_n hf c186
              refine lv_aload_n hx hb dX4_takeCommand_189 rfl (lv_at hl 0 rfl) ?_
              refine lv_iload_n hx hb dX4_takeCommand_190 rfl (lv_at hl 1 rfl) ?_
              refine lv_iconst (v := 4) hx hb dX4_takeCommand_191 (by decide) ?_
              replace hf := zb_s hf
              obtain ⟨r192, hr192, hf⟩ := hf
              refine z_Vi (rest := []) C0 kX4_60 (c_X4_note l D G ad (b) (u.1, u.2.1, r183.2.1, u.2.2.2.1, u.2.2.2.2.1, u.2.2.2.2.2.1, u.2.2.2.2.2.2.1, r183.2.2) p1 4 r192 hr192) z_pall z_pall.symm (ci := 5) (T := TX4) (N := 8) rfl rfl rfl ⟨Nat.le_of_ble_eq_true rfl, Nat.le_of_ble_eq_true rfl⟩ (Nat.le_of_ble_eq_true rfl) rfl hl.1 hP hD hS dX4_takeCommand_192 (fun H locs hP hD hS => ?_)
              replace hP : va_P D vwCl (wX4 G ad b (u.1, u.2.1, r183.2.1, r192.2.1, r192.2.2, u.2.2.2.2.2.1, u.2.2.2.2.2.2.1, r183.2.2)) H := hP
              replace hD : va_D A (wX4 G ad b (u.1, u.2.1, r183.2.1, r192.2.1, r192.2.2, u.2.2.2.2.2.1, u.2.2.2.2.2.2.1, r183.2.2)) := hD
              refine lv_if_eq (tgt := 230) hx hb dX4_takeCommand_195 (by decide) (fun c195 => ?_) (fun c195 => ?_)
              · replace hf := zi_p hf c195
                refine lv_iconst (v := 0) hx hb dX4_takeCommand_230 (by decide) ?_
                obtain rfl := zo hf
                exact hret _ _ _ _ _ hP hD hS rfl rfl dX4_takeCommand_231
              · replace hf := zi_n hf c195
                refine lv_aload_n hx hb dX4_takeCommand_198 rfl (lv_at hl 0 rfl) ?_
                refine lv_bipush (v := 58) hx hb dX4_takeCommand_199 (by decide) ?_
                replace hf := zb_s hf
                obtain ⟨r201, hr201, hf⟩ := hf
                refine z_Vi (rest := []) C0 kX4_42 (c_X4_takeSign l D G ad (b) (u.1, u.2.1, r183.2.1, r192.2.1, r192.2.2, u.2.2.2.2.2.1, u.2.2.2.2.2.2.1, r183.2.2) 58 r201 hr201) z_pall z_pall.symm (ci := 5) (T := TX4) (N := 8) rfl rfl rfl ⟨Nat.le_of_ble_eq_true rfl, Nat.le_of_ble_eq_true rfl⟩ (Nat.le_of_ble_eq_true rfl) rfl hl.1 hP hD hS dX4_takeCommand_201 (fun H locs hP hD hS => ?_)
                replace hP : va_P D vwCl (wX4 G ad b (u.1, u.2.1, r201.2, r192.2.1, r192.2.2, u.2.2.2.2.2.1, u.2.2.2.2.2.2.1, r183.2.2)) H := hP
                replace hD : va_D A (wX4 G ad b (u.1, u.2.1, r201.2, r192.2.1, r192.2.2, u.2.2.2.2.2.1, u.2.2.2.2.2.2.1, r183.2.2)) := hD
                refine lv_if_eq (tgt := 230) hx hb dX4_takeCommand_204 (by decide) (fun c204 => ?_) (fun c204 => ?_)
                · replace hf := zi_p hf c204
                  refine lv_iconst (v := 0) hx hb dX4_takeCommand_230 (by decide) ?_
                  obtain rfl := zo hf
                  exact hret _ _ _ _ _ hP hD hS rfl rfl dX4_takeCommand_231
                · replace hf := zi_n hf c204
                  refine lv_aload_n hx hb dX4_takeCommand_207 rfl (lv_at hl 0 rfl) ?_
                  refine lv_bipush (v := 49) hx hb dX4_takeCommand_208 (by decide) ?_
                  refine lv_bipush (v := 57) hx hb dX4_takeCommand_210 (by decide) ?_
                  replace hf := zb_s hf
                  obtain ⟨r212, hr212, hf⟩ := hf
                  refine z_Vi (rest := []) C0 kX4_76 (c_X4_takeDigit l D G ad (b) (u.1, u.2.1, r201.2, r192.2.1, r192.2.2, u.2.2.2.2.2.1, u.2.2.2.2.2.2.1, r183.2.2) 49 57 r212 hr212) z_pall z_pall.symm (ci := 5) (T := TX4) (N := 8) rfl rfl rfl ⟨Nat.le_of_ble_eq_true rfl, Nat.le_of_ble_eq_true rfl⟩ (Nat.le_of_ble_eq_true rfl) rfl hl.1 hP hD hS dX4_takeCommand_212 (fun H locs hP hD hS => ?_)
                  replace hP : va_P D vwCl (wX4 G ad b (u.1, u.2.1, r212.2.1, r192.2.1, r192.2.2, u.2.2.2.2.2.1, u.2.2.2.2.2.2.1, r212.2.2)) H := hP
                  replace hD : va_D A (wX4 G ad b (u.1, u.2.1, r212.2.1, r192.2.1, r192.2.2, u.2.2.2.2.2.1, u.2.2.2.2.2.2.1, r212.2.2)) := hD
                  refine lv_if_eq (tgt := 230) hx hb dX4_takeCommand_215 (by decide) (fun c215 => ?_) (fun c215 => ?_)
                  · replace hf := zi_p hf c215
                    refine lv_iconst (v := 0) hx hb dX4_takeCommand_230 (by decide) ?_
                    obtain rfl := zo hf
                    exact hret _ _ _ _ _ hP hD hS rfl rfl dX4_takeCommand_231
                  · replace hf := zi_n hf c215
                    refine lv_aload_n hx hb dX4_takeCommand_218 rfl (lv_at hl 0 rfl) ?_
                    refine lv_iload_n hx hb dX4_takeCommand_219 rfl (lv_at hl 1 rfl) ?_
                    replace hf := zb_s hf
                    obtain ⟨r220, hr220, hf⟩ := hf
                    refine z_Vi (rest := []) C0 kX4_67 (c_X4_noteSecond l D G ad (b) (u.1, u.2.1, r212.2.1, r192.2.1, r192.2.2, u.2.2.2.2.2.1, u.2.2.2.2.2.2.1, r212.2.2) p1 r220 hr220) z_pall z_pall.symm (ci := 5) (T := TX4) (N := 8) rfl rfl rfl ⟨Nat.le_of_ble_eq_true rfl, Nat.le_of_ble_eq_true rfl⟩ (Nat.le_of_ble_eq_true rfl) rfl hl.1 hP hD hS dX4_takeCommand_220 (fun H locs hP hD hS => ?_)
                    replace hP : va_P D vwCl (wX4 G ad b (u.1, u.2.1, r212.2.1, r192.2.1, r192.2.2, r220.2, u.2.2.2.2.2.2.1, r212.2.2)) H := hP
                    replace hD : va_D A (wX4 G ad b (u.1, u.2.1, r212.2.1, r192.2.1, r192.2.2, r220.2, u.2.2.2.2.2.2.1, r212.2.2)) := hD
                    refine lv_if_eq (tgt := 230) hx hb dX4_takeCommand_223 (by decide) (fun c223 => ?_) (fun c223 => ?_)
                    · replace hf := zi_p hf c223
                      refine lv_iconst (v := 0) hx hb dX4_takeCommand_230 (by decide) ?_
                      obtain rfl := zo hf
                      exact hret _ _ _ _ _ hP hD hS rfl rfl dX4_takeCommand_231
                    · replace hf := zi_n hf c223
                      refine lv_iconst (v := 1) hx hb dX4_takeCommand_226 (by decide) ?_
                      refine lv_goto (tgt := 231) hx hb dX4_takeCommand_227 (by decide) ?_
                      obtain rfl := zo hf
                      exact hret _ _ _ _ _ hP hD hS rfl rfl dX4_takeCommand_231
        · replace hf := zi_n hf n4_3
          refine z_by (c := r1 = 119) (fun c4_4 => ?_) (fun n4_4 => ?_)
          · replace hf := zi_p hf c4_4
            refine lv_lookup (tgt := 232) (off := 228) hx hb dX4_takeCommand_4 (by decide) (by rw [c4_4]; decide) (by decide) ?_
            refine lv_aload_n hx hb dX4_takeCommand_232 rfl (lv_at hl 0 rfl) ?_
            refine va_ldcS (tx := "way ") hx hb hown (zF_ref10 hF) dX4_takeCommand_233 ?_
            replace hf := zb_s hf
            obtain ⟨r235, hr235, hf⟩ := hf
            refine z_Vi (rest := []) C0 kX4_52 (c_X4_takeWord l D G ad (b) u 10 r235 hr235) z_pall z_pall.symm (ci := 5) (T := TX4) (N := 8) rfl rfl rfl ⟨Nat.le_of_ble_eq_true rfl, Nat.le_of_ble_eq_true rfl⟩ (Nat.le_of_ble_eq_true rfl) rfl hl.1 hP hD hS dX4_takeCommand_235 (fun H locs hP hD hS => ?_)
            replace hP : va_P D vwCl (wX4 G ad b (u.1, u.2.1, r235.2, u.2.2.2.1, u.2.2.2.2.1, u.2.2.2.2.2.1, u.2.2.2.2.2.2.1, u.2.2.2.2.2.2.2)) H := hP
            replace hD : va_D A (wX4 G ad b (u.1, u.2.1, r235.2, u.2.2.2.1, u.2.2.2.2.1, u.2.2.2.2.2.1, u.2.2.2.2.2.2.1, u.2.2.2.2.2.2.2)) := hD
            refine lv_if_eq (tgt := 261) hx hb dX4_takeCommand_238 (by decide) (fun c238 => ?_) (fun c238 => ?_)
            · replace hf := zi_p hf c238
              refine lv_iconst (v := 0) hx hb dX4_takeCommand_261 (by decide) ?_
              obtain rfl := zo hf
              exact hret _ _ _ _ _ hP hD hS rfl rfl dX4_takeCommand_262
            · replace hf := zi_n hf c238
              refine lv_aload_n hx hb dX4_takeCommand_241 rfl (lv_at hl 0 rfl) ?_
              replace hf := zb_s hf
              obtain ⟨r242, hr242, hf⟩ := hf
              refine z_Vi (rest := []) C0 kX4_82 (c_X4_takeWay l D G ad (b) (u.1, u.2.1, r235.2, u.2.2.2.1, u.2.2.2.2.1, u.2.2.2.2.2.1, u.2.2.2.2.2.2.1, u.2.2.2.2.2.2.2) r242 hr242) z_pall z_pall.symm (ci := 5) (T := TX4) (N := 8) rfl rfl rfl ⟨Nat.le_of_ble_eq_true rfl, Nat.le_of_ble_eq_true rfl⟩ (Nat.le_of_ble_eq_true rfl) rfl hl.1 hP hD hS dX4_takeCommand_242 (fun H locs hP hD hS => ?_)
              replace hP : va_P D vwCl (wX4 G ad b (u.1, u.2.1, r242.2.1, u.2.2.2.1, u.2.2.2.2.1, u.2.2.2.2.2.1, u.2.2.2.2.2.2.1, r242.2.2)) H := hP
              replace hD : va_D A (wX4 G ad b (u.1, u.2.1, r242.2.1, u.2.2.2.1, u.2.2.2.2.1, u.2.2.2.2.2.1, u.2.2.2.2.2.2.1, r242.2.2)) := hD
              refine lv_if_eq (tgt := 261) hx hb dX4_takeCommand_245 (by decide) (fun c245 => ?_) (fun c245 => ?_)
              · replace hf := zi_p hf c245
                refine lv_iconst (v := 0) hx hb dX4_takeCommand_261 (by decide) ?_
                obtain rfl := zo hf
                exact hret _ _ _ _ _ hP hD hS rfl rfl dX4_takeCommand_262
              · replace hf := zi_n hf c245
                refine lv_aload_n hx hb dX4_takeCommand_248 rfl (lv_at hl 0 rfl) ?_
                refine lv_iload_n hx hb dX4_takeCommand_249 rfl (lv_at hl 1 rfl) ?_
                refine lv_iconst (v := 5) hx hb dX4_takeCommand_250 (by decide) ?_
                replace hf := zb_s hf
                obtain ⟨r251, hr251, hf⟩ := hf
                refine z_Vi (rest := []) C0 kX4_60 (c_X4_note l D G ad (b) (u.1, u.2.1, r242.2.1, u.2.2.2.1, u.2.2.2.2.1, u.2.2.2.2.2.1, u.2.2.2.2.2.2.1, r242.2.2) p1 5 r251 hr251) z_pall z_pall.symm (ci := 5) (T := TX4) (N := 8) rfl rfl rfl ⟨Nat.le_of_ble_eq_true rfl, Nat.le_of_ble_eq_true rfl⟩ (Nat.le_of_ble_eq_true rfl) rfl hl.1 hP hD hS dX4_takeCommand_251 (fun H locs hP hD hS => ?_)
                replace hP : va_P D vwCl (wX4 G ad b (u.1, u.2.1, r242.2.1, r251.2.1, r251.2.2, u.2.2.2.2.2.1, u.2.2.2.2.2.2.1, r242.2.2)) H := hP
                replace hD : va_D A (wX4 G ad b (u.1, u.2.1, r242.2.1, r251.2.1, r251.2.2, u.2.2.2.2.2.1, u.2.2.2.2.2.2.1, r242.2.2)) := hD
                refine lv_if_eq (tgt := 261) hx hb dX4_takeCommand_254 (by decide) (fun c254 => ?_) (fun c254 => ?_)
                · replace hf := zi_p hf c254
                  refine lv_iconst (v := 0) hx hb dX4_takeCommand_261 (by decide) ?_
                  obtain rfl := zo hf
                  exact hret _ _ _ _ _ hP hD hS rfl rfl dX4_takeCommand_262
                · replace hf := zi_n hf c254
                  refine lv_iconst (v := 1) hx hb dX4_takeCommand_257 (by decide) ?_
                  refine lv_goto (tgt := 262) hx hb dX4_takeCommand_258 (by decide) ?_
                  obtain rfl := zo hf
                  exact hret _ _ _ _ _ hP hD hS rfl rfl dX4_takeCommand_262
          · replace hf := zi_n hf n4_4
            refine lv_lookup (tgt := 263) (off := 259) hx hb dX4_takeCommand_4 (by decide) ((lv_osw n4_0 rfl).trans ((lv_osw n4_1 rfl).trans ((lv_osw n4_2 rfl).trans ((lv_osw n4_3 rfl).trans ((lv_osw n4_4 rfl).trans (rfl)))))) (by decide) ?_
            refine lv_iconst (v := 0) hx hb dX4_takeCommand_263 (by decide) ?_
            obtain rfl := zo hf
            exact hret _ _ _ _ _ hP hD hS rfl rfl dX4_takeCommand_264
theorem kX4_38 : zLkV RX4 38 yX4_takeCommand cX4_takeCommand 2 (some .boolean) 1 := ⟨⟨wd_942, wd_943, wd_944, wd_23, wd_945⟩, by decide +kernel⟩
noncomputable def q_X4_findError_L10  (v10 : tX4) : Option ((tX4) ⊕ (((tX4) ⊕ ((tX4) ⊕ ((tX4) ⊕ ((tX4))))))) :=
  (if 16 ≤ v10.2.2.2.2.2.2.1 then some (Sum.inr (Sum.inl (v10))) else zb (q_X4_takeCommand v10 v10.2.2.2.2.2.2.1) fun r24 => (if r24.1 = 0 then some (Sum.inr (Sum.inr (Sum.inl (r24.2)))) else zn (r24.2.2.2.2.2.2.2.1 + 1) fun k42 => (if r24.2.2.2.1 = r24.2.2.1 then some (Sum.inr (Sum.inr (Sum.inr (Sum.inl ((r24.2.1, r24.2.2.1, r24.2.2.2.1, r24.2.2.2.2.1, r24.2.2.2.2.2.1, r24.2.2.2.2.2.2.1, k42, r24.2.2.2.2.2.2.2.2)))))) else zb (q_X4_takeSign (r24.2.1, r24.2.2.1, r24.2.2.2.1, r24.2.2.2.2.1, r24.2.2.2.2.2.1, r24.2.2.2.2.2.2.1, k42, r24.2.2.2.2.2.2.2.2) 59) fun r62 => (if r62.1 = 0 then some (Sum.inr (Sum.inr (Sum.inr (Sum.inr ((r24.2.1, r24.2.2.1, r62.2, r24.2.2.2.2.1, r24.2.2.2.2.2.1, r24.2.2.2.2.2.2.1, k42, r24.2.2.2.2.2.2.2.2)))))) else some (Sum.inl ((r24.2.1, r24.2.2.1, r62.2, r24.2.2.2.2.1, r24.2.2.2.2.2.1, r24.2.2.2.2.2.2.1, k42, r24.2.2.2.2.2.2.2.2)))))))
noncomputable def q_X4_findError (u : tX4) : Option (Int32 × tX4) :=
  zb (zl 1000000 q_X4_findError_L10 ((u.1, u.2.1, 0, u.2.2.2.1, u.2.2.2.2.1, u.2.2.2.2.2.1, 0, u.2.2.2.2.2.2.2))) (zm (fun e10_0 => some (e10_0.2.2.1, e10_0)) (zm (fun e10_1 => some (e10_1.2.2.1, e10_1)) (zm (fun e10_2 => some ((-6), e10_2)) (fun e10_3 => some (e10_3.2.2.1, e10_3)))))
set_option maxRecDepth 100000 in
set_option maxHeartbeats 4000000 in
theorem c_X4_findError (l : Launch) (D : va_G) (G : zG) (ad : Nat → Nat) (b : Nat) (u : tX4) (res : Int32 × tX4) (hf : q_X4_findError u = some res) : zMi l yX4_findError cX4_findError 1 (some .int) 7 148 D G (wX4 G ad b u) (wX4 G ad b res.2) [.ref (ad b)] res.1 := by
  refine zs_i (plainFor_of_name (by decide)) (Nat.le_of_ble_eq_true rfl) ?_
  intro p e s m args below meth c A Q H ls C0 hret hP hD hS hl
  obtain ⟨hx, hb, hml, hown, hW, hK, hlocks, hF, hr, hA⟩ := id C0
  replace hl : lv_has ls 1 [(0, .ref (ad b))] := hl
  unfold q_X4_findError at hf
  refine lv_aload_n hx hb dX4_findError_0 rfl (lv_at hl 0 rfl) ?_
  refine lv_iconst (v := 0) hx hb dX4_findError_1 (by decide) ?_
  refine z_put (ws' := wX4 G ad b (u.1, u.2.1, 0, u.2.2.2.1, u.2.2.2.2.1, u.2.2.2.2.2.1, u.2.2.2.2.2.2.1, u.2.2.2.2.2.2.2)) (ci := 5) (C := RX4) (T := TX4) (N := 8) hx hb hW inlX4 tyX4 tyX4_ok nmX4 hown hK hP hD hS 0 rfl rfl 2 (by decide) (hW _ wd_97) rfl rfl (Nat.le_of_ble_eq_true rfl) rfl dX4_findError_2 (fun H locs hP hD hS => ?_)
  refine lv_aload_n hx hb dX4_findError_5 rfl (lv_at hl 0 rfl) ?_
  refine lv_iconst (v := 0) hx hb dX4_findError_6 (by decide) ?_
  refine z_put (ws' := wX4 G ad b (u.1, u.2.1, 0, u.2.2.2.1, u.2.2.2.2.1, u.2.2.2.2.2.1, 0, u.2.2.2.2.2.2.2)) (ci := 5) (C := RX4) (T := TX4) (N := 8) hx hb hW inlX4 tyX4 tyX4_ok nmX4 hown hK hP hD hS 0 rfl rfl 6 (by decide) (hW _ wd_101) rfl rfl (Nat.le_of_ble_eq_true rfl) rfl dX4_findError_7 (fun H locs hP hD hS => ?_)
  replace hf := zb_s hf
  obtain ⟨b10, hz10, hk10⟩ := hf
  have L10 : ∀ (n10 : Nat) (v10 : tX4) (hz10 : zl n10 q_X4_findError_L10 v10 = some b10) (H : Heap) (locs : List Loc) (hP : va_P D vwCl (wX4 G ad b v10) H) (hD : va_D A (wX4 G ad b v10)) (hS : va_S A s.heap H locs) (ls : Array Slot) (hl : lv_has ls 1 [(0, .ref (ad b))]), W p l e (zRm 7 148) s m args below meth c H locs 0 0 Q (F0 m 10 ls []) := by
    intro n10
    induction n10 with
    | zero => intro v10 hz10; exact (zl_0 hz10).elim
    | succ n10 ih10 =>
      intro v10 hz10 H locs hP hD hS ls hl
      obtain ⟨o10, hf, hz10⟩ := zl_s hz10
      unfold q_X4_findError_L10 at hf
      refine lv_aload_n hx hb dX4_findError_10 rfl (lv_at hl 0 rfl) ?_
      refine va_get (D := D) (ci := 5) (v := .int v10.2.2.2.2.2.2.1) (C := RX4) (T := TX4) (N := 8) hx hb hW inlX4 hown hK hP 0 rfl rfl 6 (by decide) (hW _ wd_101) (fun _ h9 => h9) rfl dX4_findError_11 ?_
      refine lv_bipush (v := 16) hx hb dX4_findError_14 (by decide) ?_
      refine lv_icmp_ge (tgt := 73) hx hb dX4_findError_16 (by decide) (fun c16 => ?_) (fun c16 => ?_)
      · replace hf := zi_p hf c16
        have hb10 := zk_r hf hz10
        subst hb10
        replace hf := (zm_l hk10)
        refine lv_aload_n hx hb dX4_findError_73 rfl (lv_at hl 0 rfl) ?_
        refine va_get (D := D) (ci := 5) (v := .int v10.2.2.1) (C := RX4) (T := TX4) (N := 8) hx hb hW inlX4 hown hK hP 0 rfl rfl 2 (by decide) (hW _ wd_97) (fun _ h9 => h9) rfl dX4_findError_74 ?_
        obtain rfl := zo hf
        exact hret _ _ _ _ _ hP hD hS rfl dX4_findError_77
      · replace hf := zi_n hf c16
        refine lv_aload_n hx hb dX4_findError_19 rfl (lv_at hl 0 rfl) ?_
        refine lv_aload_n hx hb dX4_findError_20 rfl (lv_at hl 0 rfl) ?_
        refine va_get (D := D) (ci := 5) (v := .int v10.2.2.2.2.2.2.1) (C := RX4) (T := TX4) (N := 8) hx hb hW inlX4 hown hK hP 0 rfl rfl 6 (by decide) (hW _ wd_101) (fun _ h9 => h9) rfl dX4_findError_21 ?_
        replace hf := zb_s hf
        obtain ⟨r24, hr24, hf⟩ := hf
        refine z_Vi (rest := []) C0 kX4_38 (c_X4_takeCommand l D G ad (b) v10 v10.2.2.2.2.2.2.1 r24 hr24) z_pall z_pall.symm (ci := 5) (T := TX4) (N := 8) rfl rfl rfl ⟨Nat.le_of_ble_eq_true rfl, Nat.le_of_ble_eq_true rfl⟩ (Nat.le_of_ble_eq_true rfl) rfl hl.1 hP hD hS dX4_findError_24 (fun H locs hP hD hS => ?_)
        replace hP : va_P D vwCl (wX4 G ad b r24.2) H := hP
        replace hD : va_D A (wX4 G ad b r24.2) := hD
        refine lv_if_ne (tgt := 35) hx hb dX4_findError_27 (by decide) (fun c27 => ?_) (fun c27 => ?_)
        · replace hf := zi_n hf c27
          refine lv_aload_n hx hb dX4_findError_35 rfl (lv_at hl 0 rfl) ?_
          refine lv_dup hx hb dX4_findError_36 rfl ?_
          refine va_get (D := D) (ci := 5) (v := .int r24.2.2.2.2.2.2.2.1) (C := RX4) (T := TX4) (N := 8) hx hb hW inlX4 hown hK hP 0 rfl rfl 6 (by decide) (hW _ wd_101) (fun _ h9 => h9) rfl dX4_findError_37 ?_
          refine lv_iconst (v := 1) hx hb dX4_findError_40 (by decide) ?_
          refine lv_iadd hx hb dX4_findError_41 ?_
          replace hf := zn_s hf
          obtain ⟨k42, ek42, hf⟩ := hf
          refine z_top ek42 ?_
          refine z_put (ws' := wX4 G ad b (r24.2.1, r24.2.2.1, r24.2.2.2.1, r24.2.2.2.2.1, r24.2.2.2.2.2.1, r24.2.2.2.2.2.2.1, k42, r24.2.2.2.2.2.2.2.2)) (ci := 5) (C := RX4) (T := TX4) (N := 8) hx hb hW inlX4 tyX4 tyX4_ok nmX4 hown hK hP hD hS 0 rfl rfl 6 (by decide) (hW _ wd_101) rfl rfl (Nat.le_of_ble_eq_true rfl) rfl dX4_findError_42 (fun H locs hP hD hS => ?_)
          refine lv_aload_n hx hb dX4_findError_45 rfl (lv_at hl 0 rfl) ?_
          refine va_get (D := D) (ci := 5) (v := .int r24.2.2.2.1) (C := RX4) (T := TX4) (N := 8) hx hb hW inlX4 hown hK hP 0 rfl rfl 2 (by decide) (hW _ wd_97) (fun _ h9 => h9) rfl dX4_findError_46 ?_
          refine lv_aload_n hx hb dX4_findError_49 rfl (lv_at hl 0 rfl) ?_
          refine va_get (D := D) (ci := 5) (v := .int r24.2.2.1) (C := RX4) (T := TX4) (N := 8) hx hb hW inlX4 hown hK hP 0 rfl rfl 1 (by decide) (hW _ wd_96) (fun _ h9 => h9) rfl dX4_findError_50 ?_
          refine lv_icmp_ne (tgt := 59) hx hb dX4_findError_53 (by decide) (fun c53 => ?_) (fun c53 => ?_)
          · replace hf := zi_n hf c53
            refine lv_aload_n hx hb dX4_findError_59 rfl (lv_at hl 0 rfl) ?_
            refine lv_bipush (v := 59) hx hb dX4_findError_60 (by decide) ?_
            replace hf := zb_s hf
            obtain ⟨r62, hr62, hf⟩ := hf
            refine z_Vi (rest := []) C0 kX4_42 (c_X4_takeSign l D G ad (b) (r24.2.1, r24.2.2.1, r24.2.2.2.1, r24.2.2.2.2.1, r24.2.2.2.2.2.1, r24.2.2.2.2.2.2.1, k42, r24.2.2.2.2.2.2.2.2) 59 r62 hr62) z_pall z_pall.symm (ci := 5) (T := TX4) (N := 8) rfl rfl rfl ⟨Nat.le_of_ble_eq_true rfl, Nat.le_of_ble_eq_true rfl⟩ (Nat.le_of_ble_eq_true rfl) rfl hl.1 hP hD hS dX4_findError_62 (fun H locs hP hD hS => ?_)
            replace hP : va_P D vwCl (wX4 G ad b (r24.2.1, r24.2.2.1, r62.2, r24.2.2.2.2.1, r24.2.2.2.2.2.1, r24.2.2.2.2.2.2.1, k42, r24.2.2.2.2.2.2.2.2)) H := hP
            replace hD : va_D A (wX4 G ad b (r24.2.1, r24.2.2.1, r62.2, r24.2.2.2.2.1, r24.2.2.2.2.2.1, r24.2.2.2.2.2.2.1, k42, r24.2.2.2.2.2.2.2.2)) := hD
            refine lv_if_ne (tgt := 10) hx hb dX4_findError_65 (by decide) (fun c65 => ?_) (fun c65 => ?_)
            · replace hf := zi_n hf c65
              exact ih10 _ (zk_l hf hz10) _ _ hP hD hS _ (lv_sub hl [0] rfl)
            · replace hf := zi_p hf c65
              have hb10 := zk_r hf hz10
              subst hb10
              replace hf := (zm_r (zm_r (zm_r hk10)))
              refine lv_aload_n hx hb dX4_findError_68 rfl (lv_at hl 0 rfl) ?_
              refine va_get (D := D) (ci := 5) (v := .int r62.2) (C := RX4) (T := TX4) (N := 8) hx hb hW inlX4 hown hK hP 0 rfl rfl 2 (by decide) (hW _ wd_97) (fun _ h9 => h9) rfl dX4_findError_69 ?_
              obtain rfl := zo hf
              exact hret _ _ _ _ _ hP hD hS rfl dX4_findError_72
          · replace hf := zi_p hf c53
            have hb10 := zk_r hf hz10
            subst hb10
            replace hf := (zm_l (zm_r (zm_r hk10)))
            refine lv_bipush (v := (-6)) hx hb dX4_findError_56 (by decide) ?_
            obtain rfl := zo hf
            exact hret _ _ _ _ _ hP hD hS rfl dX4_findError_58
        · replace hf := zi_p hf c27
          have hb10 := zk_r hf hz10
          subst hb10
          replace hf := (zm_l (zm_r hk10))
          refine lv_aload_n hx hb dX4_findError_30 rfl (lv_at hl 0 rfl) ?_
          refine va_get (D := D) (ci := 5) (v := .int r24.2.2.2.1) (C := RX4) (T := TX4) (N := 8) hx hb hW inlX4 hown hK hP 0 rfl rfl 2 (by decide) (hW _ wd_97) (fun _ h9 => h9) rfl dX4_findError_31 ?_
          obtain rfl := zo hf
          exact hret _ _ _ _ _ hP hD hS rfl dX4_findError_34
  exact L10 _ _ hz10 _ _ hP hD hS _ (lv_sub hl [0] rfl)
