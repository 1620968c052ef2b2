/-! HISTORY by hand: the rows' addresses belong to its state -/
abbrev tX2 : Type := (Nat → Nat → Nat) × (Nat → tX1) × Int32
def wRows (G : zG) (ar : Nat → Nat → Nat) (r : Nat → tX1) : va_W := wX1 G (ar 0) 0 (r 0) ++ (wX1 G (ar 1) 0 (r 1) ++ (wX1 G (ar 2) 0 (r 2) ++ (wX1 G (ar 3) 0 (r 3) ++ (wX1 G (ar 4) 0 (r 4) ++ (wX1 G (ar 5) 0 (r 5) ++ wX1 G (ar 6) 0 (r 6))))))
def wX2 (G : zG) (ad : Nat → Nat) (b : Nat) (u : tX2) : va_W := [(ad b, .inr (3, [.ref (ad (b + 1)), .int u.2.2])), (ad (b + 1), .inl (G.1.2.2.2, 7, .inr (.inr (.inr (.inr (fun i => some (u.1 i 0)))))))] ++ wRows G u.1 u.2.1
def zrow (G : zG) (ar : Nat → Nat → Nat) (r : Nat → tX1) (k : Nat) : va_W := wX1 G (ar k) 0 (r k)
theorem wRows_eq (G : zG) (ar : Nat → Nat → Nat) (r : Nat → tX1) : wRows G ar r = ([0, 1, 2, 3, 4, 5, 6].map (zrow G ar r)).flatten := by
  simp only [wRows, List.map_cons, List.map_nil, List.flatten_cons, List.flatten_nil, List.append_nil, zrow]
def wRest (G : zG) (ar : Nat → Nat → Nat) (r : Nat → tX1) (k : Nat) : va_W := ((([0, 1, 2, 3, 4, 5, 6] : List Nat).erase k).map (zrow G ar r)).flatten
theorem pmRows (G : zG) (ar : Nat → Nat → Nat) (r : Nat → tX1) {k : Nat} (hk : k < 7) : (wRows G ar r).Perm (wX1 G (ar k) 0 (r k) ++ wRest G ar r k) := by
  rw [wRows_eq]
  have h : ([0, 1, 2, 3, 4, 5, 6] : List Nat).Perm (k :: ([0, 1, 2, 3, 4, 5, 6] : List Nat).erase k) := List.perm_cons_erase (by
    rcases (show k = 0 ∨ k = 1 ∨ k = 2 ∨ k = 3 ∨ k = 4 ∨ k = 5 ∨ k = 6 by omega) with rfl | rfl | rfl | rfl | rfl | rfl | rfl <;> decide)
  exact (h.map (zrow G ar r)).flatten
theorem wRest_up (G : zG) (ar : Nat → Nat → Nat) (r : Nat → tX1) (k : Nat) (v : tX1) : wRest G ar (va_up r k v) k = wRest G ar r k := by
  unfold wRest
  congr 1
  apply List.map_congr_left
  intro j hj
  have hn : ([0, 1, 2, 3, 4, 5, 6] : List Nat).Nodup := by decide
  have hjk : j ≠ k := (hn.mem_erase_iff.mp hj).1
  unfold zrow
  rw [va_up_ne r v hjk]
theorem pnRows (G : zG) (ar : Nat → Nat → Nat) (r : Nat → tX1) {k : Nat} (hk : k < 7) (v : tX1) : (wX1 G (ar k) 0 v ++ wRest G ar r k).Perm (wRows G ar (va_up r k v)) := by
  have h := (pmRows G ar (va_up r k v) hk).symm
  rw [wRest_up, va_up_self] at h
  exact h
def wHead (G : zG) (ad : Nat → Nat) (b : Nat) (u : tX2) : va_W := [(ad b, .inr (3, [.ref (ad (b + 1)), .int u.2.2])), (ad (b + 1), .inl (G.1.2.2.2, 7, .inr (.inr (.inr (.inr (fun i => some (u.1 i 0)))))))]
theorem pmX2_row (G : zG) (ad : Nat → Nat) (b : Nat) (u : tX2) {k : Nat} (hk : k < 7) : (wX2 G ad b u).Perm (wX1 G (u.1 k) 0 (u.2.1 k) ++ (wHead G ad b u ++ wRest G u.1 u.2.1 k)) :=
  (List.Perm.append_left (wHead G ad b u) (pmRows G u.1 u.2.1 hk)).trans (z_pmid (X := wHead G ad b u))
theorem pnX2_row (G : zG) (ad : Nat → Nat) (b : Nat) (u : tX2) {k : Nat} (hk : k < 7) (v : tX1) : (wX1 G (u.1 k) 0 v ++ (wHead G ad b u ++ wRest G u.1 u.2.1 k)).Perm (wX2 G ad b (u.1, va_up u.2.1 k v, u.2.2)) :=
  (z_pmid (X := wHead G ad b u)).symm.trans (List.Perm.append_left (wHead G ad b u) (pnRows G u.1 u.2.1 hk v))
set_option maxRecDepth 100000 in
set_option maxHeartbeats 4000000 in
theorem c_X2_rowAt (l : Launch) (D : va_G) (G : zG) (ad : Nat → Nat) (b : Nat) (u : tX2) (p1 : Int32) (h0 : ¬ p1 < 0) (h7 : ¬ 7 ≤ p1.toNatClampNeg) : zMq l yX2_rowAt cX2_rowAt 2 (some (.object "QuietChecks$Disk")) 0 0 D G (wX2 G ad b u) (wX2 G ad b u) [.ref (ad b), .int p1] (u.1 p1.toNatClampNeg 0) := by
  refine zs_q (Or.inl ⟨_, rfl⟩) (plainFor_of_name (by decide)) (Nat.le_of_ble_eq_true rfl) ?_
  intro p e s m args below meth c A Q H ls C0 hret hP hD hS hl
  obtain ⟨hx, hb, hml, hown, hW, hK, hlocks, hF, hr, hA⟩ := id C0
  replace hl : lv_has ls 2 [(0, .ref (ad b)), (1, .int p1)] := hl
  refine lv_iload_n hx hb dX2_rowAt_0 rfl (lv_at hl 1 rfl) ?_
  refine lv_if_lt (tgt := 22) hx hb dX2_rowAt_1 (by decide) (fun c => absurd c h0) (fun c1 => ?_)
  refine lv_iload_n hx hb dX2_rowAt_4 rfl (lv_at hl 1 rfl) ?_
  refine lv_aload_n hx hb dX2_rowAt_5 rfl (lv_at hl 0 rfl) ?_
  refine va_get (D := D) (ci := 3) (v := .ref (ad (b + 1))) (C := RX2) (T := TX2) (N := 2) hx hb hW inlX2 hown hK hP 0 rfl rfl 0 (by decide) (hW _ wd_85) (fun _ h9 => h9) rfl dX2_rowAt_6 ?_
  refine va_alen (v := 7) hx hb hK hP 1 3 rfl rfl rfl dX2_rowAt_9 ?_
  refine lv_icmp_ge (tgt := 22) hx hb dX2_rowAt_10 (by decide) (fun c => absurd c (fun c => h7 ?_)) (fun c1 => ?_)
  · obtain ⟨j, hj, rfl⟩ := nI_of h0
    have := (nI_leI (by decide) hj).mp (show nI 7 ≤ nI j from c)
    rw [nI_clamp hj]
    exact this
  refine lv_aload_n hx hb dX2_rowAt_13 rfl (lv_at hl 0 rfl) ?_
  refine va_get (D := D) (ci := 3) (v := .ref (ad (b + 1))) (C := RX2) (T := TX2) (N := 2) hx hb hW inlX2 hown hK hP 0 rfl rfl 0 (by decide) (hW _ wd_85) (fun _ h9 => h9) rfl dX2_rowAt_14 ?_
  refine lv_iload_n hx hb dX2_rowAt_17 rfl (lv_at hl 1 rfl) ?_
  refine va_aldq hx hb hK hP 1 3 rfl rfl (fun q => q.elim h0 h7) dX2_rowAt_18 ?_
  refine lv_goto (tgt := 23) hx hb dX2_rowAt_19 (by decide) ?_
  exact hret _ _ _ _ _ hP hD hS rfl dX2_rowAt_23
theorem kX2_22 : zLkV RX2 22 yX2_rowAt cX2_rowAt 2 (some (.object "QuietChecks$Disk")) 1 := ⟨⟨wd_138, wd_139, wd_140, wd_17, wd_141⟩, by decide +kernel⟩
theorem kX2_26 : zLkV RX2 26 yX1_copyFrom cX1_copyFrom 2 none 1 := ⟨⟨wd_142, wd_143, wd_144, wd_12, wd_145⟩, by decide +kernel⟩
theorem kX2_30 : zLkV RX2 30 yX2_discardOldest cX2_discardOldest 3 none 0 := ⟨⟨wd_179, wd_180, wd_181, wd_17, wd_182⟩, by decide +kernel⟩
noncomputable def q_X2_draft (u : tX2) (u1 : tX1) : Option (Nat → tX1) :=
  if u.2.2 < 0 then none else if 7 ≤ u.2.2.toNatClampNeg then none else zb (q_X1_copyFrom (u.2.1 u.2.2.toNatClampNeg) u1) fun r15 => some (va_up u.2.1 u.2.2.toNatClampNeg r15)
set_option maxRecDepth 100000 in
set_option maxHeartbeats 4000000 in
theorem c_X2_draft (l : Launch) (D : va_G) (G : zG) (ad : Nat → Nat) (b : Nat) (ad1 : Nat → Nat) (b1 : Nat) (u : tX2) (u1 : tX1) (res : Nat → tX1) (hf : q_X2_draft u u1 = some res) : zMv l yX2_draft cX2_draft 3 none 3 68 D G (wX2 G ad b u ++ wX1 G ad1 b1 u1) (wX2 G ad b (u.1, res, u.2.2) ++ wX1 G ad1 b1 u1) [.ref (ad b), .ref (ad1 b1)] := by
  refine zs_v (plainFor_of_name (by decide)) (Nat.le_of_ble_eq_true rfl) ?_
  intro p e s m args below meth c A Q H ls C0 hret hP hD hS hl
  obtain ⟨hx, hb, hml, hown, hW, hK, hlocks, hF, hr, hA⟩ := id C0
  replace hl : lv_has ls 3 [(0, .ref (ad b)), (1, .ref (ad1 b1))] := hl
  unfold q_X2_draft at hf
  by_cases h0 : u.2.2 < 0
  · rw [if_pos h0] at hf; cases hf
  rw [if_neg h0] at hf
  by_cases h7 : 7 ≤ u.2.2.toNatClampNeg
  · rw [if_pos h7] at hf; cases hf
  rw [if_neg h7] at hf
  have hk : u.2.2.toNatClampNeg < 7 := Nat.lt_of_not_le h7
  replace hf := zb_s hf
  obtain ⟨r15, hr15, hf⟩ := hf
  refine lv_aload_n hx hb dX2_draft_0 rfl (lv_at hl 0 rfl) ?_
  refine lv_aload_n hx hb dX2_draft_1 rfl (lv_at hl 0 rfl) ?_
  refine va_get (D := D) (ci := 3) (v := .int u.2.2) (C := RX2) (T := TX2) (N := 2) hx hb hW inlX2 hown hK hP 0 rfl rfl 1 (by decide) (hW _ wd_86) (fun _ h9 => h9) rfl dX2_draft_2 ?_
  refine z_Vq (rest := []) C0 kX2_22 (c_X2_rowAt l D G ad b u u.2.2 h0 h7) (List.Perm.refl _) (List.Perm.refl _) (ci := 3) (T := TX2) (N := 2) rfl rfl rfl ⟨Nat.le_of_ble_eq_true rfl, Nat.le_of_ble_eq_true rfl⟩ (Nat.le_of_ble_eq_true rfl) rfl hl.1 hP hD hS dX2_draft_5 (fun H locs hP hD hS => ?_)
  refine lv_astore_n (lv' := [(2, .ref (u.1 u.2.2.toNatClampNeg 0)), (0, .ref (ad b)), (1, .ref (ad1 b1))]) hx hb dX2_draft_8 rfl hl (by decide) rfl (fun ls hl => ?_)
  refine lv_aload_n hx hb dX2_draft_9 rfl (lv_at hl 0 rfl) ?_
  refine lv_ifnull hx hb dX2_draft_10 ?_
  refine lv_aload_n hx hb dX2_draft_13 rfl (lv_at hl 0 rfl) ?_
  refine lv_aload_n hx hb dX2_draft_14 rfl (lv_at hl 2 rfl) ?_
  refine z_Vv (rest := []) C0 kX2_26 (c_X1_copyFrom l D G (u.1 u.2.2.toNatClampNeg) 0 ad1 b1 (u.2.1 u.2.2.toNatClampNeg) u1 r15 hr15) (z_p2 (pmX2_row G ad b u hk) z_pall) (z_p2b (pnX2_row G ad b u hk r15) z_pall.symm) (ci := 2) (T := TX1) (N := 17) rfl rfl rfl ⟨Nat.le_of_ble_eq_true rfl, Nat.le_of_ble_eq_true rfl⟩ (Nat.le_of_ble_eq_true rfl) rfl hl.1 hP hD hS dX2_draft_15 (fun H locs hP hD hS => ?_)
  obtain rfl := zo hf
  exact hret _ _ _ _ hP hD hS dX2_draft_18
theorem z_swap2 {a b c d : va_W} (h : (a ++ b).Perm ((c ++ d))) : (a ++ b).Perm (d ++ c) := h.trans List.perm_append_comm
theorem z_px {w0 w1 s0 r0 : va_W} (h0 : w0.Perm (s0 ++ r0)) : (w0 ++ w1).Perm ((w1 ++ s0) ++ r0) := by
  refine List.perm_append_comm.trans ?_
  rw [List.append_assoc]
  exact List.Perm.append_left w1 h0
theorem z_pxb {w0 w1 s0 r0 : va_W} (h0 : (s0 ++ r0).Perm w0) : ((w1 ++ s0) ++ r0).Perm (w0 ++ w1) := (z_px h0.symm).symm
def zrot {α : Type} (f : Nat → α) : Nat → α := fun i => if i < 6 then f (i + 1) else if i = 6 then f 0 else f i
theorem wRows_rot (G : zG) (ar : Nat → Nat → Nat) (r : Nat → tX1) : (wRows G ar r).Perm (wRows G (zrot ar) (zrot r)) := by
  have e : wRows G (zrot ar) (zrot r) = ([1, 2, 3, 4, 5, 6, 0].map (zrow G ar r)).flatten := by
    simp only [wRows, List.map_cons, List.map_nil, List.flatten_cons, List.flatten_nil, List.append_nil, zrow]
    rfl
  rw [e, wRows_eq]
  have h : ([0, 1, 2, 3, 4, 5, 6] : List Nat).Perm [1, 2, 3, 4, 5, 6, 0] := by decide
  exact (h.map (zrow G ar r)).flatten
def wX2f (G : zG) (ad : Nat → Nat) (b : Nat) (u : tX2) (f : Nat → Option Nat) : va_W := [(ad b, .inr (3, [.ref (ad (b + 1)), .int u.2.2])), (ad (b + 1), .inl (G.1.2.2.2, 7, .inr (.inr (.inr (.inr f)))))] ++ wRows G u.1 u.2.1
theorem wX2f_rot (G : zG) (ad : Nat → Nat) (b : Nat) (u : tX2) : (wX2f G ad b u (fun i => some (zrot u.1 i 0))).Perm (wX2 G ad b (zrot u.1, zrot u.2.1, u.2.2)) := List.Perm.append_left _ (wRows_rot G u.1 u.2.1)
noncomputable def q_X2_keep (u : tX2) (p1 : Int32) : Option (Int32 × tX2) :=
  if 0 ≤ p1 then (if 6 ≤ u.2.2 then some (p1, (zrot u.1, zrot u.2.1, u.2.2)) else some (p1, (u.1, u.2.1, u.2.2 + 1))) else some (p1, u)
theorem zrot_f (ar : Nat → Nat → Nat) : (va_up (va_up (va_up (va_up (va_up (va_up (va_up (fun i => some (ar i 0)) 0 (some (ar 1 0))) 1 (some (ar 2 0))) 2 (some (ar 3 0))) 3 (some (ar 4 0))) 4 (some (ar 5 0))) 5 (some (ar 6 0))) 6 (some (ar 0 0))) = fun i => some (zrot ar i 0) := by
  funext i
  rcases (show i = 0 ∨ i = 1 ∨ i = 2 ∨ i = 3 ∨ i = 4 ∨ i = 5 ∨ i = 6 ∨ 7 ≤ i by omega) with rfl | rfl | rfl | rfl | rfl | rfl | rfl | h
  · rfl
  · rfl
  · rfl
  · rfl
  · rfl
  · rfl
  · rfl
  · unfold zrot va_up
    simp only [show ¬ i = 0 by omega, show ¬ i = 1 by omega, show ¬ i = 2 by omega, show ¬ i = 3 by omega, show ¬ i = 4 by omega, show ¬ i = 5 by omega, show ¬ i = 6 by omega, show ¬ i < 6 by omega, if_false]
set_option maxRecDepth 100000 in
set_option maxHeartbeats 4000000 in
theorem c_X2_discardOldest (l : Launch) (D : va_G) (G : zG) (ad : Nat → Nat) (b : Nat) (u : tX2) : zMv l yX2_discardOldest cX2_discardOldest 3 none 0 0 D G (wX2 G ad b u) (wX2 G ad b (zrot u.1, zrot u.2.1, u.2.2)) [.ref (ad b)] := by
  refine zs_v (plainFor_of_name (by decide)) (Nat.le_of_ble_eq_true rfl) ?_
  intro p e s m args below meth c A Q H ls C0 hret hP hD hS hl
  obtain ⟨hx, hb, hml, hown, hW, hK, hlocks, hF, hr, hA⟩ := id C0
  replace hl : lv_has ls 3 [(0, .ref (ad b))] := hl
  replace hP : va_P D vwCl (wX2f G ad b u (fun i => some (u.1 i 0))) H := hP
  replace hD : va_D A (wX2f G ad b u (fun i => some (u.1 i 0))) := hD
  refine lv_aload_n hx hb dX2_discardOldest_0 rfl (lv_at hl 0 rfl) ?_
  refine va_get (D := D) (ci := 3) (v := .ref (ad (b + 1))) (C := RX2) (T := TX2) (N := 2) hx hb hW inlX2 hown hK hP 0 rfl rfl 0 (by decide) (hW _ wd_85) (fun _ h9 => h9) rfl dX2_discardOldest_1 ?_
  refine lv_iconst (v := 0) hx hb dX2_discardOldest_4 (by decide) ?_
  refine z_aldq (v := u.1 0 0) hx hb hK hP 1 3 rfl rfl (z_in rfl) rfl dX2_discardOldest_5 ?_
  refine lv_astore_n (lv' := [(1, .ref (u.1 0 0)), (0, .ref (ad b))]) hx hb dX2_discardOldest_6 rfl hl (by decide) rfl (fun ls hl => ?_)
  refine lv_iconst (v := 1) hx hb dX2_discardOldest_7 (by decide) ?_
  refine lv_istore_n (lv' := [(2, .int 1), (1, .ref (u.1 0 0)), (0, .ref (ad b))]) hx hb dX2_discardOldest_8 rfl hl (by decide) rfl (fun ls hl => ?_)
  refine lv_iload_n hx hb dX2_discardOldest_9 rfl (lv_at hl 0 rfl) ?_
  refine lv_aload_n hx hb dX2_discardOldest_10 rfl (lv_at hl 2 rfl) ?_
  refine va_get (D := D) (ci := 3) (v := .ref (ad (b + 1))) (C := RX2) (T := TX2) (N := 2) hx hb hW inlX2 hown hK hP 0 rfl rfl 0 (by decide) (hW _ wd_85) (fun _ h9 => h9) rfl dX2_discardOldest_11 ?_
  refine va_alen (v := 7) hx hb hK hP 1 3 rfl rfl rfl dX2_discardOldest_14 ?_
  refine lv_icmp_ge (tgt := 38) hx hb dX2_discardOldest_15 (by decide) (fun c => absurd c (by decide)) (fun _ => ?_)
  refine lv_aload_n hx hb dX2_discardOldest_18 rfl (lv_at hl 2 rfl) ?_
  refine va_get (D := D) (ci := 3) (v := .ref (ad (b + 1))) (C := RX2) (T := TX2) (N := 2) hx hb hW inlX2 hown hK hP 0 rfl rfl 0 (by decide) (hW _ wd_85) (fun _ h9 => h9) rfl dX2_discardOldest_19 ?_
  refine lv_iload_n hx hb dX2_discardOldest_22 rfl (lv_at hl 0 rfl) ?_
  refine lv_iconst (v := 1) hx hb dX2_discardOldest_23 (by decide) ?_
  refine lv_isub hx hb dX2_discardOldest_24 ?_
  refine lv_aload_n hx hb dX2_discardOldest_25 rfl (lv_at hl 2 rfl) ?_
  refine va_get (D := D) (ci := 3) (v := .ref (ad (b + 1))) (C := RX2) (T := TX2) (N := 2) hx hb hW inlX2 hown hK hP 0 rfl rfl 0 (by decide) (hW _ wd_85) (fun _ h9 => h9) rfl dX2_discardOldest_26 ?_
  refine lv_iload_n hx hb dX2_discardOldest_29 rfl (lv_at hl 0 rfl) ?_
  refine z_aldq (v := u.1 1 0) hx hb hK hP 1 3 rfl rfl (z_in rfl) rfl dX2_discardOldest_30 ?_
  refine z_astq (ws' := wX2f G ad b u (va_up (fun i => some (u.1 i 0)) 0 (some (u.1 1 0)))) (k := 0) hx hb hK hP hD hS 1 3 14 2 rfl rfl rfl rfl (z_in rfl) (by decide) rfl dX2_discardOldest_31 (fun H locs hP hD hS => ?_)
  refine lv_iinc (v := 2) (lv' := [(2, .int 2), (1, .ref (u.1 0 0)), (0, .ref (ad b))]) hx hb dX2_discardOldest_32 hl (k := 0) rfl (by decide) (by decide) rfl (fun ls hl => ?_)
  refine lv_goto (tgt := 9) hx hb dX2_discardOldest_35 (by decide) ?_
  refine lv_iload_n hx hb dX2_discardOldest_9 rfl (lv_at hl 0 rfl) ?_
  refine lv_aload_n hx hb dX2_discardOldest_10 rfl (lv_at hl 2 rfl) ?_
  refine va_get (D := D) (ci := 3) (v := .ref (ad (b + 1))) (C := RX2) (T := TX2) (N := 2) hx hb hW inlX2 hown hK hP 0 rfl rfl 0 (by decide) (hW _ wd_85) (fun _ h9 => h9) rfl dX2_discardOldest_11 ?_
  refine va_alen (v := 7) hx hb hK hP 1 3 rfl rfl rfl dX2_discardOldest_14 ?_
  refine lv_icmp_ge (tgt := 38) hx hb dX2_discardOldest_15 (by decide) (fun c => absurd c (by decide)) (fun _ => ?_)
  refine lv_aload_n hx hb dX2_discardOldest_18 rfl (lv_at hl 2 rfl) ?_
  refine va_get (D := D) (ci := 3) (v := .ref (ad (b + 1))) (C := RX2) (T := TX2) (N := 2) hx hb hW inlX2 hown hK hP 0 rfl rfl 0 (by decide) (hW _ wd_85) (fun _ h9 => h9) rfl dX2_discardOldest_19 ?_
  refine lv_iload_n hx hb dX2_discardOldest_22 rfl (lv_at hl 0 rfl) ?_
  refine lv_iconst (v := 1) hx hb dX2_discardOldest_23 (by decide) ?_
  refine lv_isub hx hb dX2_discardOldest_24 ?_
  refine lv_aload_n hx hb dX2_discardOldest_25 rfl (lv_at hl 2 rfl) ?_
  refine va_get (D := D) (ci := 3) (v := .ref (ad (b + 1))) (C := RX2) (T := TX2) (N := 2) hx hb hW inlX2 hown hK hP 0 rfl rfl 0 (by decide) (hW _ wd_85) (fun _ h9 => h9) rfl dX2_discardOldest_26 ?_
  refine lv_iload_n hx hb dX2_discardOldest_29 rfl (lv_at hl 0 rfl) ?_
  refine z_aldq (v := u.1 2 0) hx hb hK hP 1 3 rfl rfl (z_in rfl) rfl dX2_discardOldest_30 ?_
  refine z_astq (ws' := wX2f G ad b u (va_up (va_up (fun i => some (u.1 i 0)) 0 (some (u.1 1 0))) 1 (some (u.1 2 0)))) (k := 1) hx hb hK hP hD hS 1 3 26 2 rfl rfl rfl rfl (z_in rfl) (by decide) rfl dX2_discardOldest_31 (fun H locs hP hD hS => ?_)
  refine lv_iinc (v := 3) (lv' := [(2, .int 3), (1, .ref (u.1 0 0)), (0, .ref (ad b))]) hx hb dX2_discardOldest_32 hl (k := 0) rfl (by decide) (by decide) rfl (fun ls hl => ?_)
  refine lv_goto (tgt := 9) hx hb dX2_discardOldest_35 (by decide) ?_
  refine lv_iload_n hx hb dX2_discardOldest_9 rfl (lv_at hl 0 rfl) ?_
  refine lv_aload_n hx hb dX2_discardOldest_10 rfl (lv_at hl 2 rfl) ?_
  refine va_get (D := D) (ci := 3) (v := .ref (ad (b + 1))) (C := RX2) (T := TX2) (N := 2) hx hb hW inlX2 hown hK hP 0 rfl rfl 0 (by decide) (hW _ wd_85) (fun _ h9 => h9) rfl dX2_discardOldest_11 ?_
  refine va_alen (v := 7) hx hb hK hP 1 3 rfl rfl rfl dX2_discardOldest_14 ?_
  refine lv_icmp_ge (tgt := 38) hx hb dX2_discardOldest_15 (by decide) (fun c => absurd c (by decide)) (fun _ => ?_)
  refine lv_aload_n hx hb dX2_discardOldest_18 rfl (lv_at hl 2 rfl) ?_
  refine va_get (D := D) (ci := 3) (v := .ref (ad (b + 1))) (C := RX2) (T := TX2) (N := 2) hx hb hW inlX2 hown hK hP 0 rfl rfl 0 (by decide) (hW _ wd_85) (fun _ h9 => h9) rfl dX2_discardOldest_19 ?_
  refine lv_iload_n hx hb dX2_discardOldest_22 rfl (lv_at hl 0 rfl) ?_
  refine lv_iconst (v := 1) hx hb dX2_discardOldest_23 (by decide) ?_
  refine lv_isub hx hb dX2_discardOldest_24 ?_
  refine lv_aload_n hx hb dX2_discardOldest_25 rfl (lv_at hl 2 rfl) ?_
  refine va_get (D := D) (ci := 3) (v := .ref (ad (b + 1))) (C := RX2) (T := TX2) (N := 2) hx hb hW inlX2 hown hK hP 0 rfl rfl 0 (by decide) (hW _ wd_85) (fun _ h9 => h9) rfl dX2_discardOldest_26 ?_
  refine lv_iload_n hx hb dX2_discardOldest_29 rfl (lv_at hl 0 rfl) ?_
  refine z_aldq (v := u.1 3 0) hx hb hK hP 1 3 rfl rfl (z_in rfl) rfl dX2_discardOldest_30 ?_
  refine z_astq (ws' := wX2f G ad b u (va_up (va_up (va_up (fun i => some (u.1 i 0)) 0 (some (u.1 1 0))) 1 (some (u.1 2 0))) 2 (some (u.1 3 0)))) (k := 2) hx hb hK hP hD hS 1 3 38 2 rfl rfl rfl rfl (z_in rfl) (by decide) rfl dX2_discardOldest_31 (fun H locs hP hD hS => ?_)
  refine lv_iinc (v := 4) (lv' := [(2, .int 4), (1, .ref (u.1 0 0)), (0, .ref (ad b))]) hx hb dX2_discardOldest_32 hl (k := 0) rfl (by decide) (by decide) rfl (fun ls hl => ?_)
  refine lv_goto (tgt := 9) hx hb dX2_discardOldest_35 (by decide) ?_
  refine lv_iload_n hx hb dX2_discardOldest_9 rfl (lv_at hl 0 rfl) ?_
  refine lv_aload_n hx hb dX2_discardOldest_10 rfl (lv_at hl 2 rfl) ?_
  refine va_get (D := D) (ci := 3) (v := .ref (ad (b + 1))) (C := RX2) (T := TX2) (N := 2) hx hb hW inlX2 hown hK hP 0 rfl rfl 0 (by decide) (hW _ wd_85) (fun _ h9 => h9) rfl dX2_discardOldest_11 ?_
  refine va_alen (v := 7) hx hb hK hP 1 3 rfl rfl rfl dX2_discardOldest_14 ?_
  refine lv_icmp_ge (tgt := 38) hx hb dX2_discardOldest_15 (by decide) (fun c => absurd c (by decide)) (fun _ => ?_)
  refine lv_aload_n hx hb dX2_discardOldest_18 rfl (lv_at hl 2 rfl) ?_
  refine va_get (D := D) (ci := 3) (v := .ref (ad (b + 1))) (C := RX2) (T := TX2) (N := 2) hx hb hW inlX2 hown hK hP 0 rfl rfl 0 (by decide) (hW _ wd_85) (fun _ h9 => h9) rfl dX2_discardOldest_19 ?_
  refine lv_iload_n hx hb dX2_discardOldest_22 rfl (lv_at hl 0 rfl) ?_
  refine lv_iconst (v := 1) hx hb dX2_discardOldest_23 (by decide) ?_
  refine lv_isub hx hb dX2_discardOldest_24 ?_
  refine lv_aload_n hx hb dX2_discardOldest_25 rfl (lv_at hl 2 rfl) ?_
  refine va_get (D := D) (ci := 3) (v := .ref (ad (b + 1))) (C := RX2) (T := TX2) (N := 2) hx hb hW inlX2 hown hK hP 0 rfl rfl 0 (by decide) (hW _ wd_85) (fun _ h9 => h9) rfl dX2_discardOldest_26 ?_
  refine lv_iload_n hx hb dX2_discardOldest_29 rfl (lv_at hl 0 rfl) ?_
  refine z_aldq (v := u.1 4 0) hx hb hK hP 1 3 rfl rfl (z_in rfl) rfl dX2_discardOldest_30 ?_
  refine z_astq (ws' := wX2f G ad b u (va_up (va_up (va_up (va_up (fun i => some (u.1 i 0)) 0 (some (u.1 1 0))) 1 (some (u.1 2 0))) 2 (some (u.1 3 0))) 3 (some (u.1 4 0)))) (k := 3) hx hb hK hP hD hS 1 3 50 2 rfl rfl rfl rfl (z_in rfl) (by decide) rfl dX2_discardOldest_31 (fun H locs hP hD hS => ?_)
  refine lv_iinc (v := 5) (lv' := [(2, .int 5), (1, .ref (u.1 0 0)), (0, .ref (ad b))]) hx hb dX2_discardOldest_32 hl (k := 0) rfl (by decide) (by decide) rfl (fun ls hl => ?_)
  refine lv_goto (tgt := 9) hx hb dX2_discardOldest_35 (by decide) ?_
  refine lv_iload_n hx hb dX2_discardOldest_9 rfl (lv_at hl 0 rfl) ?_
  refine lv_aload_n hx hb dX2_discardOldest_10 rfl (lv_at hl 2 rfl) ?_
  refine va_get (D := D) (ci := 3) (v := .ref (ad (b + 1))) (C := RX2) (T := TX2) (N := 2) hx hb hW inlX2 hown hK hP 0 rfl rfl 0 (by decide) (hW _ wd_85) (fun _ h9 => h9) rfl dX2_discardOldest_11 ?_
  refine va_alen (v := 7) hx hb hK hP 1 3 rfl rfl rfl dX2_discardOldest_14 ?_
  refine lv_icmp_ge (tgt := 38) hx hb dX2_discardOldest_15 (by decide) (fun c => absurd c (by decide)) (fun _ => ?_)
  refine lv_aload_n hx hb dX2_discardOldest_18 rfl (lv_at hl 2 rfl) ?_
  refine va_get (D := D) (ci := 3) (v := .ref (ad (b + 1))) (C := RX2) (T := TX2) (N := 2) hx hb hW inlX2 hown hK hP 0 rfl rfl 0 (by decide) (hW _ wd_85) (fun _ h9 => h9) rfl dX2_discardOldest_19 ?_
  refine lv_iload_n hx hb dX2_discardOldest_22 rfl (lv_at hl 0 rfl) ?_
  refine lv_iconst (v := 1) hx hb dX2_discardOldest_23 (by decide) ?_
  refine lv_isub hx hb dX2_discardOldest_24 ?_
  refine lv_aload_n hx hb dX2_discardOldest_25 rfl (lv_at hl 2 rfl) ?_
  refine va_get (D := D) (ci := 3) (v := .ref (ad (b + 1))) (C := RX2) (T := TX2) (N := 2) hx hb hW inlX2 hown hK hP 0 rfl rfl 0 (by decide) (hW _ wd_85) (fun _ h9 => h9) rfl dX2_discardOldest_26 ?_
  refine lv_iload_n hx hb dX2_discardOldest_29 rfl (lv_at hl 0 rfl) ?_
  refine z_aldq (v := u.1 5 0) hx hb hK hP 1 3 rfl rfl (z_in rfl) rfl dX2_discardOldest_30 ?_
  refine z_astq (ws' := wX2f G ad b u (va_up (va_up (va_up (va_up (va_up (fun i => some (u.1 i 0)) 0 (some (u.1 1 0))) 1 (some (u.1 2 0))) 2 (some (u.1 3 0))) 3 (some (u.1 4 0))) 4 (some (u.1 5 0)))) (k := 4) hx hb hK hP hD hS 1 3 62 2 rfl rfl rfl rfl (z_in rfl) (by decide) rfl dX2_discardOldest_31 (fun H locs hP hD hS => ?_)
  refine lv_iinc (v := 6) (lv' := [(2, .int 6), (1, .ref (u.1 0 0)), (0, .ref (ad b))]) hx hb dX2_discardOldest_32 hl (k := 0) rfl (by decide) (by decide) rfl (fun ls hl => ?_)
  refine lv_goto (tgt := 9) hx hb dX2_discardOldest_35 (by decide) ?_
  refine lv_iload_n hx hb dX2_discardOldest_9 rfl (lv_at hl 0 rfl) ?_
  refine lv_aload_n hx hb dX2_discardOldest_10 rfl (lv_at hl 2 rfl) ?_
  refine va_get (D := D) (ci := 3) (v := .ref (ad (b + 1))) (C := RX2) (T := TX2) (N := 2) hx hb hW inlX2 hown hK hP 0 rfl rfl 0 (by decide) (hW _ wd_85) (fun _ h9 => h9) rfl dX2_discardOldest_11 ?_
  refine va_alen (v := 7) hx hb hK hP 1 3 rfl rfl rfl dX2_discardOldest_14 ?_
  refine lv_icmp_ge (tgt := 38) hx hb dX2_discardOldest_15 (by decide) (fun c => absurd c (by decide)) (fun _ => ?_)
  refine lv_aload_n hx hb dX2_discardOldest_18 rfl (lv_at hl 2 rfl) ?_
  refine va_get (D := D) (ci := 3) (v := .ref (ad (b + 1))) (C := RX2) (T := TX2) (N := 2) hx hb hW inlX2 hown hK hP 0 rfl rfl 0 (by decide) (hW _ wd_85) (fun _ h9 => h9) rfl dX2_discardOldest_19 ?_
  refine lv_iload_n hx hb dX2_discardOldest_22 rfl (lv_at hl 0 rfl) ?_
  refine lv_iconst (v := 1) hx hb dX2_discardOldest_23 (by decide) ?_
  refine lv_isub hx hb dX2_discardOldest_24 ?_
  refine lv_aload_n hx hb dX2_discardOldest_25 rfl (lv_at hl 2 rfl) ?_
  refine va_get (D := D) (ci := 3) (v := .ref (ad (b + 1))) (C := RX2) (T := TX2) (N := 2) hx hb hW inlX2 hown hK hP 0 rfl rfl 0 (by decide) (hW _ wd_85) (fun _ h9 => h9) rfl dX2_discardOldest_26 ?_
  refine lv_iload_n hx hb dX2_discardOldest_29 rfl (lv_at hl 0 rfl) ?_
  refine z_aldq (v := u.1 6 0) hx hb hK hP 1 3 rfl rfl (z_in rfl) rfl dX2_discardOldest_30 ?_
  refine z_astq (ws' := wX2f G ad b u (va_up (va_up (va_up (va_up (va_up (va_up (fun i => some (u.1 i 0)) 0 (some (u.1 1 0))) 1 (some (u.1 2 0))) 2 (some (u.1 3 0))) 3 (some (u.1 4 0))) 4 (some (u.1 5 0))) 5 (some (u.1 6 0)))) (k := 5) hx hb hK hP hD hS 1 3 74 2 rfl rfl rfl rfl (z_in rfl) (by decide) rfl dX2_discardOldest_31 (fun H locs hP hD hS => ?_)
  refine lv_iinc (v := 7) (lv' := [(2, .int 7), (1, .ref (u.1 0 0)), (0, .ref (ad b))]) hx hb dX2_discardOldest_32 hl (k := 0) rfl (by decide) (by decide) rfl (fun ls hl => ?_)
  refine lv_goto (tgt := 9) hx hb dX2_discardOldest_35 (by decide) ?_
  refine lv_iload_n hx hb dX2_discardOldest_9 rfl (lv_at hl 0 rfl) ?_
  refine lv_aload_n hx hb dX2_discardOldest_10 rfl (lv_at hl 2 rfl) ?_
  refine va_get (D := D) (ci := 3) (v := .ref (ad (b + 1))) (C := RX2) (T := TX2) (N := 2) hx hb hW inlX2 hown hK hP 0 rfl rfl 0 (by decide) (hW _ wd_85) (fun _ h9 => h9) rfl dX2_discardOldest_11 ?_
  refine va_alen (v := 7) hx hb hK hP 1 3 rfl rfl rfl dX2_discardOldest_14 ?_
  refine lv_icmp_ge (tgt := 38) hx hb dX2_discardOldest_15 (by decide) (fun _ => ?_) (fun c => absurd (by decide) c)
  refine lv_aload_n hx hb dX2_discardOldest_38 rfl (lv_at hl 2 rfl) ?_
  refine va_get (D := D) (ci := 3) (v := .ref (ad (b + 1))) (C := RX2) (T := TX2) (N := 2) hx hb hW inlX2 hown hK hP 0 rfl rfl 0 (by decide) (hW _ wd_85) (fun _ h9 => h9) rfl dX2_discardOldest_39 ?_
  refine lv_aload_n hx hb dX2_discardOldest_42 rfl (lv_at hl 2 rfl) ?_
  refine va_get (D := D) (ci := 3) (v := .ref (ad (b + 1))) (C := RX2) (T := TX2) (N := 2) hx hb hW inlX2 hown hK hP 0 rfl rfl 0 (by decide) (hW _ wd_85) (fun _ h9 => h9) rfl dX2_discardOldest_43 ?_
  refine va_alen (v := 7) hx hb hK hP 1 3 rfl rfl rfl dX2_discardOldest_46 ?_
  refine lv_iconst (v := 1) hx hb dX2_discardOldest_47 (by decide) ?_
  refine lv_isub hx hb dX2_discardOldest_48 ?_
  refine lv_aload_n hx hb dX2_discardOldest_49 rfl (lv_at hl 1 rfl) ?_
  refine z_astq (ws' := wX2f G ad b u (va_up (va_up (va_up (va_up (va_up (va_up (va_up (fun i => some (u.1 i 0)) 0 (some (u.1 1 0))) 1 (some (u.1 2 0))) 2 (some (u.1 3 0))) 3 (some (u.1 4 0))) 4 (some (u.1 5 0))) 5 (some (u.1 6 0))) 6 (some (u.1 0 0)))) (k := 6) hx hb hK hP hD hS 1 3 2 2 rfl rfl rfl rfl (z_in rfl) (by decide) rfl dX2_discardOldest_50 (fun H locs hP hD hS => ?_)
  rw [zrot_f] at hP hD
  exact hret _ _ _ _ (zP_perm (wX2f_rot G ad b u) hP) (zD_perm (wX2f_rot G ad b u) hD) hS dX2_discardOldest_51
set_option maxRecDepth 100000 in
set_option maxHeartbeats 4000000 in
theorem c_X2_keep (l : Launch) (D : va_G) (G : zG) (ad : Nat → Nat) (b : Nat) (u : tX2) (p1 : Int32) (res : Int32 × tX2) (hf : q_X2_keep u p1 = some res) : zMi l yX2_keep cX2_keep 2 (some .int) 1 22 D G (wX2 G ad b u) (wX2 G ad b res.2) [.ref (ad b), .int p1] res.1 := by
  refine zs_i (plainFor_of_name (by decide)) (Nat.le_of_ble_eq_true rfl) ?_
  intro p e s m args below meth c A Q H ls C0 hret hP hD hS hl
  obtain ⟨hx, hb, hml, hown, hW, hK, hlocks, hF, hr, hA⟩ := id C0
  replace hl : lv_has ls 2 [(0, .ref (ad b)), (1, .int p1)] := hl
  unfold q_X2_keep at hf
  refine lv_iload_n hx hb dX2_keep_0 rfl (lv_at hl 1 rfl) ?_
  refine lv_if_ge (tgt := 6) hx hb dX2_keep_1 (by decide) (fun c1 => ?_) (fun c1 => ?_)
  · replace hf := zi_p hf c1
    refine lv_aload_n hx hb dX2_keep_6 rfl (lv_at hl 0 rfl) ?_
    refine va_get (D := D) (ci := 3) (v := .int u.2.2) (C := RX2) (T := TX2) (N := 2) hx hb hW inlX2 hown hK hP 0 rfl rfl 1 (by decide) (hW _ wd_86) (fun _ h9 => h9) rfl dX2_keep_7 ?_
    refine lv_bipush (v := 6) hx hb dX2_keep_10 (by decide) ?_
    refine lv_icmp_ge (tgt := 28) hx hb dX2_keep_12 (by decide) (fun c2 => ?_) (fun c2 => ?_)
    · replace hf := zi_p hf c2
      refine lv_aload_n hx hb dX2_keep_28 rfl (lv_at hl 0 rfl) ?_
      refine z_Vv (rest := []) C0 kX2_30 (c_X2_discardOldest l D G ad b u) z_pall z_pall.symm (ci := 3) (T := TX2) (N := 2) rfl rfl rfl ⟨Nat.le_of_ble_eq_true rfl, Nat.le_of_ble_eq_true rfl⟩ (Nat.le_of_ble_eq_true rfl) rfl hl.1 hP hD hS dX2_keep_29 (fun H locs hP hD hS => ?_)
      refine lv_iload_n hx hb dX2_keep_32 rfl (lv_at hl 1 rfl) ?_
      obtain rfl := zo hf
      exact hret _ _ _ _ _ hP hD hS rfl dX2_keep_33
    · replace hf := zi_n hf c2
      refine lv_aload_n hx hb dX2_keep_15 rfl (lv_at hl 0 rfl) ?_
      refine lv_dup hx hb dX2_keep_16 rfl ?_
      refine va_get (D := D) (ci := 3) (v := .int u.2.2) (C := RX2) (T := TX2) (N := 2) hx hb hW inlX2 hown hK hP 0 rfl rfl 1 (by decide) (hW _ wd_86) (fun _ h9 => h9) rfl dX2_keep_17 ?_
      refine lv_iconst (v := 1) hx hb dX2_keep_20 (by decide) ?_
      refine lv_iadd hx hb dX2_keep_21 ?_
      refine z_put (ws' := wX2 G ad b (u.1, u.2.1, u.2.2 + 1)) (ci := 3) (C := RX2) (T := TX2) (N := 2) hx hb hW inlX2 tyX2 tyX2_ok nmX2 hown hK hP hD hS 0 rfl rfl 1 (by decide) (hW _ wd_86) rfl rfl (Nat.le_of_ble_eq_true rfl) rfl dX2_keep_22 (fun H locs hP hD hS => ?_)
      refine lv_goto (tgt := 32) hx hb dX2_keep_25 (by decide) ?_
      refine lv_iload_n hx hb dX2_keep_32 rfl (lv_at hl 1 rfl) ?_
      obtain rfl := zo hf
      exact hret _ _ _ _ _ hP hD hS rfl dX2_keep_33
  · replace hf := zi_n hf c1
    refine lv_iload_n hx hb dX2_keep_4 rfl (lv_at hl 1 rfl) ?_
    obtain rfl := zo hf
    exact hret _ _ _ _ _ hP hD hS rfl dX2_keep_5
