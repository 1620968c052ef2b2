/-! calls of inherited methods, of the super class, on String constants; methods that answer their receiver -/
def zQq (D : va_G) (G : zG) (ws ws' : va_W) (q : Nat) (sz : Nat) : Array Value → State → Outcome → State → Prop := va_Qr (fun (_ : Unit) => True) (fun _ a t => a = q ∧ zPost D G sz ws ws' t) (va_A ws sz)
def zMq (l : Launch) (y : MethodName) (cc : ByteArray) (n : Nat) (ret : Option FieldType) (f L : Nat) (D : va_G) (G : zG) (ws ws' : va_W) (av : List Value) (q : Nat) : Prop := ∀ sz, Met l y (zW y cc n ret) (zRm f L) (va_Pc av (zPre D G sz ws)) (zQq D G ws ws' q sz) 0 0 (va_A ws sz)
def zSL (k : Nat) : Nat := (zStr.map (fun q => q.2.2.2.length)).getD k 0
def zSB (k j : Nat) : Int32 := ((zStr.map (fun q => q.2.2.2)).getD k []).getD j 0
theorem zF_str {G : zG} {A : Nat → Prop} {s : State} {H : Heap} (hF : zF G A s H) {k : Nat} (hk : k < 6) : va_O "java/lang/String" (G.2.2.2.1 k) A s H ∧ va_OF "java/lang/String" "coder" "B" (.int 0) (G.2.2.2.1 k) A s H ∧ va_OF "java/lang/String" "value" "[B" (.ref (G.2.2.2.2 k)) (G.2.2.2.1 k) A s H ∧ va_T .byte (G.2.2.2.2 k) (zSL k) (fun j => .int (zSB k j)) A s H := hF.2.2.2.2.2.2.2.2.1.1 k hk
def zLowI (k : Nat) : Int32 := ([0, 1, 1, 2, 50] : List Int32).getD k 0
def zHighI (k : Nat) : Int32 := ([50, 40, 9, 9, 2000] : List Int32).getD k 0
def zFirstI (k : Nat) : Int32 := ([5, 10, 3, 5, 400] : List Int32).getD k 0
def zOnesI (k : Nat) : Int32 := nI (48 + k % 10)
def zTensI (k : Nat) : Int32 := nI (48 + k / 10)
/-- an inherited method of the class C -/
def zLkU (own : String) (idx : Nat) (C : String) (x y : MethodName) (cy : ByteArray) (ny : Nat) (rety : Option FieldType) (n : Nat) : Prop :=
  (Cond.methodLink own idx x ∈ wsL_law ∧ Cond.sameMethod x.cls y.cls x.name x.desc ∈ wsL_law ∧ Cond.selects C x y ∈ wsL_law ∧ Cond.instanceMethod y ∈ wsL_law ∧ Cond.initialized y.cls ∈ wsL_law ∧ Cond.code y cy ny rety ∈ wsL_law) ∧ y = ⟨y.cls, x.name, x.desc⟩ ∧ y.cls ≠ "java/lang/invoke/MethodHandle" ∧ y.cls ≠ "java/lang/invoke/VarHandle" ∧ (parseMethodDescriptor x.desc).map (fun d => d.parameters.length) = some n
theorem z_goodU {own C : String} {idx : Nat} {x y : MethodName} {cy : ByteArray} {ny : Nat} {rety : Option FieldType} {n : Nat} (k : zLkU own idx C x y cy ny rety n) : GoodIn wsL_law (va_wsU own idx C y.cls x y (zW y cy ny rety)) := fun w hw => by
  obtain ⟨⟨h1, h2, h3, h4, h5, h6⟩, -⟩ := k
  have hm : w ∈ wsL_law := by
    unfold va_wsU at hw
    rcases List.mem_append.mp hw with hw | hw
    · simp only [List.mem_cons, List.not_mem_nil, or_false] at hw
      rcases hw with rfl | rfl | rfl | rfl | rfl
      · exact h1
      · exact h2
      · exact h3
      · exact h4
      · exact h5
    · exact (zW_sub h6 w hw).1
  exact ⟨hm, zW_good w hm⟩
/-- a method of the super class -/
def zLkP (own : String) (idx : Nat) (y : MethodName) (cy : ByteArray) (ny : Nat) (rety : Option FieldType) (n : Nat) : Prop :=
  (Cond.methodLink own idx y ∈ wsL_law ∧ Cond.sameMethod y.cls y.cls y.name y.desc ∈ wsL_law ∧ Cond.superclass own y.cls ∈ wsL_law ∧ Cond.instanceMethod y ∈ wsL_law ∧ Cond.initialized y.cls ∈ wsL_law ∧ Cond.code y cy ny rety ∈ wsL_law) ∧ y.name ≠ "<init>" ∧ (parseMethodDescriptor y.desc).map (fun d => d.parameters.length) = some n
theorem z_goodP {own : String} {idx : Nat} {y : MethodName} {cy : ByteArray} {ny : Nat} {rety : Option FieldType} {n : Nat} (k : zLkP own idx y cy ny rety n) : GoodIn wsL_law (va_wsSU own idx y (zW y cy ny rety)) := fun w hw => by
  obtain ⟨⟨h1, h2, h3, h4, h5, h6⟩, -⟩ := k
  have hm : w ∈ wsL_law := by
    unfold va_wsSU at hw
    rcases List.mem_append.mp hw with hw | hw
    · simp only [List.mem_cons, List.not_mem_nil, or_false] at hw
      rcases hw with rfl | rfl | rfl | rfl | rfl
      · exact h1
      · exact h2
      · exact h3
      · exact h4
      · exact h5
    · exact (zW_sub h6 w hw).1
  exact ⟨hm, zW_good w hm⟩
section ZR3
variable {p : Program} {l : Launch} {e : Env} {R : Room} {s : State} {m : MethodId} {args : Array Value} {below : List Frame} {meth : Method} {c : Code} {H : Heap} {locs : List Loc} {Q : State → Prop} {cc : ByteArray} {nL : Nat} {ret : Option FieldType} {own : String} {D : va_G} {G : zG} {A : Nat → Prop} {pc : Nat} {ls : Array Slot} {ws wc wc' wr ws' : va_W}
theorem z_qret {q a : Nat} {ty : FieldType} (C0 : zCx p s m args meth c cc nL (some ty) own D G (va_A ws s.heap.size)) (hty : (∃ n, ty = .object n) ∨ ∃ t, ty = .array t) (hP : va_P D vwCl ws' H) (hD : va_D (va_A ws s.heap.size) ws') (hS : va_S (va_A ws s.heap.size) s.heap H locs) (hv : a = q) (hdg : decode cc pc = .ok (.areturn, 1)) :
    W p l e R s m args below meth c H locs 0 0 (MQ below (zQq D G ws ws' q s.heap.size) args s 0 0 (va_A ws s.heap.size)) (F0 m pc ls [.ref a]) := by
  obtain ⟨hx, hb, hml, hown, hW, hK, hlocks, hF, hr, hA⟩ := C0
  exact W.aret (v := .ref a) hx hb hr hty (Or.inr ⟨a, rfl⟩) (fun t ht hW => ⟨⟨(), a, rfl, trivial, hv, by rw [ht]; exact hP, va_K.moved hW.alike hK, hD⟩, hS.F ht⟩) hS.2.2 hdg hlocks
theorem z_Ui {y : MethodName} {cy : ByteArray} {ny fy Ly idx ci n bq N : Nat} {rety : Option FieldType} {As rest st0 fs : List Value} {T : u_T} {r : Int32} {C : String} {x : MethodName} (C0 : zCx p s m args meth c cc nL ret own D G A) (k : zLkU own idx C x y cy ny rety n) (hM : zMi l y cy ny rety fy Ly D G wc wc' (.ref bq :: As) r)
    (hp1 : ws.Perm (wc ++ wr)) (hp2 : (wc' ++ wr).Perm ws') (hq0 : wc[0]? = some (bq, .inr (ci, fs))) (hci : vwCl[ci]? = some (C, T, N)) (hn : As.length = n) (hR : fy + 1 ≤ R.frames ∧ 8 + (ny + 11) + Ly ≤ R.locals) (hrm : (rest.map fun v => v.category).sum ≤ 8) (hst : st0 = As.reverse ++ .ref bq :: rest) (hls : ls.size = nL)
    (hP : va_P D vwCl ws H) (hD : va_D A ws) (hS : va_S A s.heap H locs) (hdg : decode cc pc = .ok (.invokevirtual idx, 3))
    (kk : ∀ (H1 : Heap) (locs1 : List Loc), va_P D vwCl ws' H1 → va_D A ws' → va_S A s.heap H1 locs1 → W p l e R s m args below meth c H1 locs1 0 0 Q (F0 m (pc + 3) ls (.int r :: rest))) : W p l e R s m args below meth c H locs 0 0 Q (F0 m pc ls st0) := by
  obtain ⟨hx, hb, hml, hown, hW, hK, hlocks, hF, hr, hA⟩ := C0
  subst hst
  have hPc := zP_perm hp1 hP
  have hDc := zD_perm hp1 hD
  have hFc := z_free hDc hS hA
  refine va_calli (va_runU (As := As) (rest := rest) ⟨hx, hb, hml, hown, hW⟩ (hM H.size) (va_cwU n hW (z_goodU k) rfl rfl rfl k.2.1 k.2.2 hR) ⟨zPre_blind, va_recv hK (zP_left hPc) hci hq0, z_pre hF hK hPc hDc hS hFc⟩ rfl hn hls rfl (lv_room hrm) hdg ⟨Nat.zero_le _, Nat.zero_le _⟩) hS (fun q _ h => hFc q h) hFc (fun x u t H1 locs1 ht hvm hw hB hz1 hk1 hS1 => ?_)
  obtain ⟨h1, h2⟩ := z_backW hPc hDc hFc ht hB hk1 hp2
  subst hw
  exact kk H1 locs1 h1 h2 hS1
theorem z_Uv {y : MethodName} {cy : ByteArray} {ny fy Ly idx ci n bq N : Nat} {rety : Option FieldType} {As rest st0 fs : List Value} {T : u_T} {C : String} {x : MethodName} (C0 : zCx p s m args meth c cc nL ret own D G A) (k : zLkU own idx C x y cy ny rety n) (hM : zMv l y cy ny rety fy Ly D G wc wc' (.ref bq :: As))
    (hp1 : ws.Perm (wc ++ wr)) (hp2 : (wc' ++ wr).Perm ws') (hq0 : wc[0]? = some (bq, .inr (ci, fs))) (hci : vwCl[ci]? = some (C, T, N)) (hn : As.length = n) (hR : fy + 1 ≤ R.frames ∧ 8 + (ny + 11) + Ly ≤ R.locals) (hrm : (rest.map fun v => v.category).sum ≤ 8) (hst : st0 = As.reverse ++ .ref bq :: rest) (hls : ls.size = nL)
    (hP : va_P D vwCl ws H) (hD : va_D A ws) (hS : va_S A s.heap H locs) (hdg : decode cc pc = .ok (.invokevirtual idx, 3))
    (kk : ∀ (H1 : Heap) (locs1 : List Loc), va_P D vwCl ws' H1 → va_D A ws' → va_S A s.heap H1 locs1 → W p l e R s m args below meth c H1 locs1 0 0 Q (F0 m (pc + 3) ls (rest))) : W p l e R s m args below meth c H locs 0 0 Q (F0 m pc ls st0) := by
  obtain ⟨hx, hb, hml, hown, hW, hK, hlocks, hF, hr, hA⟩ := C0
  subst hst
  have hPc := zP_perm hp1 hP
  have hDc := zD_perm hp1 hD
  have hFc := z_free hDc hS hA
  refine va_callv (va_runU (As := As) (rest := rest) ⟨hx, hb, hml, hown, hW⟩ (hM H.size) (va_cwU n hW (z_goodU k) rfl rfl rfl k.2.1 k.2.2 hR) ⟨zPre_blind, va_recv hK (zP_left hPc) hci hq0, z_pre hF hK hPc hDc hS hFc⟩ rfl hn hls rfl (lv_room hrm) hdg ⟨Nat.zero_le _, Nat.zero_le _⟩) hS (fun q _ h => hFc q h) hFc (fun u t H1 locs1 ht hvm hw hB hz1 hk1 hS1 => ?_)
  obtain ⟨h1, h2⟩ := z_backW hPc hDc hFc ht hB hk1 hp2
  exact kk H1 locs1 h1 h2 hS1
theorem z_Pi {y : MethodName} {cy : ByteArray} {ny fy Ly idx ci n bq N : Nat} {rety : Option FieldType} {As rest st0 fs : List Value} {T : u_T} {r : Int32} {C : String} (C0 : zCx p s m args meth c cc nL ret own D G A) (k : zLkP own idx y cy ny rety n) (hM : zMi l y cy ny rety fy Ly D G wc wc' (.ref bq :: As) r)
    (hp1 : ws.Perm (wc ++ wr)) (hp2 : (wc' ++ wr).Perm ws') (hq0 : wc[0]? = some (bq, .inr (ci, fs))) (hci : vwCl[ci]? = some (C, T, N)) (hn : As.length = n) (hR : fy + 1 ≤ R.frames ∧ 8 + (ny + 11) + Ly ≤ R.locals) (hrm : (rest.map fun v => v.category).sum ≤ 8) (hst : st0 = As.reverse ++ .ref bq :: rest) (hls : ls.size = nL)
    (hP : va_P D vwCl ws H) (hD : va_D A ws) (hS : va_S A s.heap H locs) (hdg : decode cc pc = .ok (.invokespecial idx, 3))
    (kk : ∀ (H1 : Heap) (locs1 : List Loc), va_P D vwCl ws' H1 → va_D A ws' → va_S A s.heap H1 locs1 → W p l e R s m args below meth c H1 locs1 0 0 Q (F0 m (pc + 3) ls (.int r :: rest))) : W p l e R s m args below meth c H locs 0 0 Q (F0 m pc ls st0) := by
  obtain ⟨hx, hb, hml, hown, hW, hK, hlocks, hF, hr, hA⟩ := C0
  subst hst
  have hPc := zP_perm hp1 hP
  have hDc := zD_perm hp1 hD
  have hFc := z_free hDc hS hA
  refine va_calli (va_runSU (C := C) (cC := D.1 ci) (hK.1 ci _ hci).2 (As := As) (rest := rest) ⟨hx, hb, hml, hown, hW⟩ (hM H.size) (va_cwSU n hW (z_goodP k) rfl rfl rfl k.2 hR) ⟨zPre_blind, va_recv hK (zP_left hPc) hci hq0, z_pre hF hK hPc hDc hS hFc⟩ rfl hn hls rfl (lv_room hrm) hdg ⟨Nat.zero_le _, Nat.zero_le _⟩) hS (fun q _ h => hFc q h) hFc (fun x u t H1 locs1 ht hvm hw hB hz1 hk1 hS1 => ?_)
  obtain ⟨h1, h2⟩ := z_backW hPc hDc hFc ht hB hk1 hp2
  subst hw
  exact kk H1 locs1 h1 h2 hS1
theorem z_Pv {y : MethodName} {cy : ByteArray} {ny fy Ly idx ci n bq N : Nat} {rety : Option FieldType} {As rest st0 fs : List Value} {T : u_T} {C : String} (C0 : zCx p s m args meth c cc nL ret own D G A) (k : zLkP own idx y cy ny rety n) (hM : zMv l y cy ny rety fy Ly D G wc wc' (.ref bq :: As))
    (hp1 : ws.Perm (wc ++ wr)) (hp2 : (wc' ++ wr).Perm ws') (hq0 : wc[0]? = some (bq, .inr (ci, fs))) (hci : vwCl[ci]? = some (C, T, N)) (hn : As.length = n) (hR : fy + 1 ≤ R.frames ∧ 8 + (ny + 11) + Ly ≤ R.locals) (hrm : (rest.map fun v => v.category).sum ≤ 8) (hst : st0 = As.reverse ++ .ref bq :: rest) (hls : ls.size = nL)
    (hP : va_P D vwCl ws H) (hD : va_D A ws) (hS : va_S A s.heap H locs) (hdg : decode cc pc = .ok (.invokespecial idx, 3))
    (kk : ∀ (H1 : Heap) (locs1 : List Loc), va_P D vwCl ws' H1 → va_D A ws' → va_S A s.heap H1 locs1 → W p l e R s m args below meth c H1 locs1 0 0 Q (F0 m (pc + 3) ls (rest))) : W p l e R s m args below meth c H locs 0 0 Q (F0 m pc ls st0) := by
  obtain ⟨hx, hb, hml, hown, hW, hK, hlocks, hF, hr, hA⟩ := C0
  subst hst
  have hPc := zP_perm hp1 hP
  have hDc := zD_perm hp1 hD
  have hFc := z_free hDc hS hA
  refine va_callv (va_runSU (C := C) (cC := D.1 ci) (hK.1 ci _ hci).2 (As := As) (rest := rest) ⟨hx, hb, hml, hown, hW⟩ (hM H.size) (va_cwSU n hW (z_goodP k) rfl rfl rfl k.2 hR) ⟨zPre_blind, va_recv hK (zP_left hPc) hci hq0, z_pre hF hK hPc hDc hS hFc⟩ rfl hn hls rfl (lv_room hrm) hdg ⟨Nat.zero_le _, Nat.zero_le _⟩) hS (fun q _ h => hFc q h) hFc (fun u t H1 locs1 ht hvm hw hB hz1 hk1 hS1 => ?_)
  obtain ⟨h1, h2⟩ := z_backW hPc hDc hFc ht hB hk1 hp2
  exact kk H1 locs1 h1 h2 hS1
theorem z_Pq {y : MethodName} {cy : ByteArray} {ny fy Ly idx ci n bq N : Nat} {rety : Option FieldType} {As rest st0 fs : List Value} {T : u_T} {r : Nat} {C : String} (C0 : zCx p s m args meth c cc nL ret own D G A) (k : zLkP own idx y cy ny rety n) (hM : zMq l y cy ny rety fy Ly D G wc wc' (.ref bq :: As) r)
    (hp1 : ws.Perm (wc ++ wr)) (hp2 : (wc' ++ wr).Perm ws') (hq0 : wc[0]? = some (bq, .inr (ci, fs))) (hci : vwCl[ci]? = some (C, T, N)) (hn : As.length = n) (hR : fy + 1 ≤ R.frames ∧ 8 + (ny + 11) + Ly ≤ R.locals) (hrm : (rest.map fun v => v.category).sum ≤ 8) (hst : st0 = As.reverse ++ .ref bq :: rest) (hls : ls.size = nL)
    (hP : va_P D vwCl ws H) (hD : va_D A ws) (hS : va_S A s.heap H locs) (hdg : decode cc pc = .ok (.invokespecial idx, 3))
    (kk : ∀ (H1 : Heap) (locs1 : List Loc), va_P D vwCl ws' H1 → va_D A ws' → va_S A s.heap H1 locs1 → W p l e R s m args below meth c H1 locs1 0 0 Q (F0 m (pc + 3) ls (.ref r :: rest))) : W p l e R s m args below meth c H locs 0 0 Q (F0 m pc ls st0) := by
  obtain ⟨hx, hb, hml, hown, hW, hK, hlocks, hF, hr, hA⟩ := C0
  subst hst
  have hPc := zP_perm hp1 hP
  have hDc := zD_perm hp1 hD
  have hFc := z_free hDc hS hA
  refine va_callr (va_runSU (C := C) (cC := D.1 ci) (hK.1 ci _ hci).2 (As := As) (rest := rest) ⟨hx, hb, hml, hown, hW⟩ (hM H.size) (va_cwSU n hW (z_goodP k) rfl rfl rfl k.2 hR) ⟨zPre_blind, va_recv hK (zP_left hPc) hci hq0, z_pre hF hK hPc hDc hS hFc⟩ rfl hn hls rfl (lv_room hrm) hdg ⟨Nat.zero_le _, Nat.zero_le _⟩) hS (fun q _ h => hFc q h) hFc (fun u x t H1 locs1 ht hvm hw hB hz1 hk1 hS1 => ?_)
  obtain ⟨hq, hB⟩ := hB
  obtain ⟨h1, h2⟩ := z_backW hPc hDc hFc ht hB hk1 hp2
  subst hq
  exact kk H1 locs1 h1 h2 hS1
theorem z_Vq {y : MethodName} {cy : ByteArray} {ny fy Ly idx ci n bq N : Nat} {rety : Option FieldType} {As rest st0 fs : List Value} {T : u_T} {r : Nat} (C0 : zCx p s m args meth c cc nL ret own D G A) (k : zLkV own idx y cy ny rety n) (hM : zMq l y cy ny rety fy Ly D G wc wc' (.ref bq :: As) r)
    (hp1 : ws.Perm (wc ++ wr)) (hp2 : (wc' ++ wr).Perm ws') (hq0 : wc[0]? = some (bq, .inr (ci, fs))) (hci : vwCl[ci]? = some (y.cls, T, N)) (hn : As.length = n) (hR : fy + 1 ≤ R.frames ∧ 8 + (ny + 11) + Ly ≤ R.locals) (hrm : (rest.map fun v => v.category).sum ≤ 8) (hst : st0 = As.reverse ++ .ref bq :: rest) (hls : ls.size = nL)
    (hP : va_P D vwCl ws H) (hD : va_D A ws) (hS : va_S A s.heap H locs) (hdg : decode cc pc = .ok (.invokevirtual idx, 3))
    (kk : ∀ (H1 : Heap) (locs1 : List Loc), va_P D vwCl ws' H1 → va_D A ws' → va_S A s.heap H1 locs1 → W p l e R s m args below meth c H1 locs1 0 0 Q (F0 m (pc + 3) ls (.ref r :: rest))) : W p l e R s m args below meth c H locs 0 0 Q (F0 m pc ls st0) := by
  obtain ⟨hx, hb, hml, hown, hW, hK, hlocks, hF, hr, hA⟩ := C0
  subst hst
  have hPc := zP_perm hp1 hP
  have hDc := zD_perm hp1 hD
  have hFc := z_free hDc hS hA
  refine va_callr (va_runV (As := As) (rest := rest) ⟨hx, hb, hml, hown, hW⟩ (hM H.size) (cwV n hW (z_goodV k) rfl rfl rfl ⟨rfl, k.2⟩ hR) ⟨zPre_blind, va_recv hK (zP_left hPc) hci hq0, z_pre hF hK hPc hDc hS hFc⟩ rfl hn hls rfl (lv_room hrm) hdg ⟨Nat.zero_le _, Nat.zero_le _⟩) hS (fun q _ h => hFc q h) hFc (fun u x t H1 locs1 ht hvm hw hB hz1 hk1 hS1 => ?_)
  obtain ⟨hq, hB⟩ := hB
  obtain ⟨h1, h2⟩ := z_backW hPc hDc hFc ht hB hk1 hp2
  subst hq
  exact kk H1 locs1 h1 h2 hS1
theorem z_Ti {y : MethodName} {cy : ByteArray} {ny fy Ly idx n : Nat} {rety : Option FieldType} {As rest st0 : List Value} {r : Int32} {kS : Nat} (C0 : zCx p s m args meth c cc nL ret own D G A) (k : zLkV own idx y cy ny rety n) (hM : zMi l y cy ny rety fy Ly D G wc wc' (.ref (G.2.2.2.1 kS) :: As) r)
    (hp1 : ws.Perm (wc ++ wr)) (hp2 : (wc' ++ wr).Perm ws') (hkS : kS < 6) (hyc : y.cls = "java/lang/String") (hn : As.length = n) (hR : fy + 1 ≤ R.frames ∧ 8 + (ny + 11) + Ly ≤ R.locals) (hrm : (rest.map fun v => v.category).sum ≤ 8) (hst : st0 = As.reverse ++ .ref (G.2.2.2.1 kS) :: rest) (hls : ls.size = nL)
    (hP : va_P D vwCl ws H) (hD : va_D A ws) (hS : va_S A s.heap H locs) (hdg : decode cc pc = .ok (.invokevirtual idx, 3))
    (kk : ∀ (H1 : Heap) (locs1 : List Loc), va_P D vwCl ws' H1 → va_D A ws' → va_S A s.heap H1 locs1 → W p l e R s m args below meth c H1 locs1 0 0 Q (F0 m (pc + 3) ls (.int r :: rest))) : W p l e R s m args below meth c H locs 0 0 Q (F0 m pc ls st0) := by
  obtain ⟨hx, hb, hml, hown, hW, hK, hlocks, hF, hr, hA⟩ := C0
  subst hst
  have hPc := zP_perm hp1 hP
  have hDc := zD_perm hp1 hD
  have hFc := z_free hDc hS hA
  refine va_calli (va_runV (As := As) (rest := rest) ⟨hx, hb, hml, hown, hW⟩ (hM H.size) (cwV n hW (z_goodV k) rfl rfl rfl ⟨rfl, k.2⟩ hR) ⟨zPre_blind, by rw [hyc]; exact vk_recv hF.2.2.2.2.2.2.2.2.1 hkS hS, z_pre hF hK hPc hDc hS hFc⟩ rfl hn hls rfl (lv_room hrm) hdg ⟨Nat.zero_le _, Nat.zero_le _⟩) hS (fun q _ h => hFc q h) hFc (fun x u t H1 locs1 ht hvm hw hB hz1 hk1 hS1 => ?_)
  obtain ⟨h1, h2⟩ := z_backW hPc hDc hFc ht hB hk1 hp2
  subst hw
  exact kk H1 locs1 h1 h2 hS1
theorem z_Tv {y : MethodName} {cy : ByteArray} {ny fy Ly idx n : Nat} {rety : Option FieldType} {As rest st0 : List Value} {kS : Nat} (C0 : zCx p s m args meth c cc nL ret own D G A) (k : zLkV own idx y cy ny rety n) (hM : zMv l y cy ny rety fy Ly D G wc wc' (.ref (G.2.2.2.1 kS) :: As))
    (hp1 : ws.Perm (wc ++ wr)) (hp2 : (wc' ++ wr).Perm ws') (hkS : kS < 6) (hyc : y.cls = "java/lang/String") (hn : As.length = n) (hR : fy + 1 ≤ R.frames ∧ 8 + (ny + 11) + Ly ≤ R.locals) (hrm : (rest.map fun v => v.category).sum ≤ 8) (hst : st0 = As.reverse ++ .ref (G.2.2.2.1 kS) :: rest) (hls : ls.size = nL)
    (hP : va_P D vwCl ws H) (hD : va_D A ws) (hS : va_S A s.heap H locs) (hdg : decode cc pc = .ok (.invokevirtual idx, 3))
    (kk : ∀ (H1 : Heap) (locs1 : List Loc), va_P D vwCl ws' H1 → va_D A ws' → va_S A s.heap H1 locs1 → W p l e R s m args below meth c H1 locs1 0 0 Q (F0 m (pc + 3) ls (rest))) : W p l e R s m args below meth c H locs 0 0 Q (F0 m pc ls st0) := by
  obtain ⟨hx, hb, hml, hown, hW, hK, hlocks, hF, hr, hA⟩ := C0
  subst hst
  have hPc := zP_perm hp1 hP
  have hDc := zD_perm hp1 hD
  have hFc := z_free hDc hS hA
  refine va_callv (va_runV (As := As) (rest := rest) ⟨hx, hb, hml, hown, hW⟩ (hM H.size) (cwV n hW (z_goodV k) rfl rfl rfl ⟨rfl, k.2⟩ hR) ⟨zPre_blind, by rw [hyc]; exact vk_recv hF.2.2.2.2.2.2.2.2.1 hkS hS, z_pre hF hK hPc hDc hS hFc⟩ rfl hn hls rfl (lv_room hrm) hdg ⟨Nat.zero_le _, Nat.zero_le _⟩) hS (fun q _ h => hFc q h) hFc (fun u t H1 locs1 ht hvm hw hB hz1 hk1 hS1 => ?_)
  obtain ⟨h1, h2⟩ := z_backW hPc hDc hFc ht hB hk1 hp2
  exact kk H1 locs1 h1 h2 hS1
theorem z_Sq {y : MethodName} {cy : ByteArray} {ny fy Ly idx n r : Nat} {rety : Option FieldType} {As rest st0 : List Value} (C0 : zCx p s m args meth c cc nL ret own D G A) (k : zLkS own idx y cy ny rety n) (hM : zMq l y cy ny rety fy Ly D G wc wc' As r)
    (hp1 : ws.Perm (wc ++ wr)) (hp2 : (wc' ++ wr).Perm ws') (hn : As.length = n) (hR : fy + 1 ≤ R.frames ∧ 8 + (ny + 11) + Ly ≤ R.locals) (hrm : (rest.map fun v => v.category).sum ≤ 8) (hst : st0 = As.reverse ++ rest) (hls : ls.size = nL)
    (hP : va_P D vwCl ws H) (hD : va_D A ws) (hS : va_S A s.heap H locs) (hdg : decode cc pc = .ok (.invokestatic idx, 3))
    (kk : ∀ (H1 : Heap) (locs1 : List Loc), va_P D vwCl ws' H1 → va_D A ws' → va_S A s.heap H1 locs1 → W p l e R s m args below meth c H1 locs1 0 0 Q (F0 m (pc + 3) ls (.ref r :: rest))) : W p l e R s m args below meth c H locs 0 0 Q (F0 m pc ls st0) := by
  obtain ⟨hx, hb, hml, hown, hW, hK, hlocks, hF, hr, hA⟩ := C0
  subst hst
  have hPc := zP_perm hp1 hP
  have hDc := zD_perm hp1 hD
  have hFc := z_free hDc hS hA
  refine va_callr (va_runS (As := As) (rest := rest) ⟨hx, hb, hml, hown, hW⟩ (hM H.size) (va_cwS n hW (z_goodS k) rfl rfl rfl k.2 hR) ⟨zPre_blind, z_pre hF hK hPc hDc hS hFc⟩ rfl hn hls rfl (lv_room hrm) hdg ⟨Nat.zero_le _, Nat.zero_le _⟩) hS (fun q _ h => hFc q h) hFc (fun u x t H1 locs1 ht hvm hw hB hz1 hk1 hS1 => ?_)
  obtain ⟨hq, hB⟩ := hB
  obtain ⟨h1, h2⟩ := z_backW hPc hDc hFc ht hB hk1 hp2
  subst hq
  exact kk H1 locs1 h1 h2 hS1
end ZR3
theorem zs_q {l : Launch} {y : MethodName} {cc : ByteArray} {n f L : Nat} {D : va_G} {G : zG} {ws ws' : va_W} {av : List Value} {q : Nat} {ty : FieldType} (hty : (∃ n, ty = .object n) ∨ ∃ t, ty = .array t) (hy : plainFor y = true) (hn : (lg_sl av).length ≤ n)
    (body : ∀ (p : Program) (e : Env) (s : State) (m : MethodId) (args : Array Value) (below : List Frame) (meth : Method) (c : Code) (A : Nat → Prop) (Q : State → Prop) (H : Heap) (ls : Array Slot), zCx p s m args meth c cc n (some ty) y.cls D G A →
      (∀ (H : Heap) (locs : List Loc) (pc : Nat) (ls : Array Slot) (a : Nat), va_P D vwCl ws' H → va_D A ws' → va_S A s.heap H locs → a = q → decode cc pc = .ok (.areturn, 1) → W p l e (zRm f L) s m args below meth c H locs 0 0 Q (F0 m pc ls [.ref a])) →
      va_P D vwCl ws H → va_D A ws → va_S A s.heap H [] → lv_has ls n (lv_args 0 av) → W p l e (zRm f L) s m args below meth c H [] 0 0 Q (F0 m 0 ls [])) : zMq l y cc n (some ty) f L D G ws ws' av q :=
  z_start hy hn (fun p e s m below meth c H ls C0 hP hD hS hl => body p e s m av.toArray below meth c _ _ H ls C0 (fun H locs pc ls v h1 h2 h3 h4 h5 => z_qret C0 hty h1 h2 h3 h4 h5) hP hD hS hl)
section ZR4
variable {p : Program} {l : Launch} {e : Env} {R : Room} {s : State} {m : MethodId} {args : Array Value} {below : List Frame} {meth : Method} {c : Code} {H : Heap} {locs : List Loc} {cells slots : Nat} {Q : State → Prop} {cc : ByteArray} {D : va_G} {A : Nat → Prop} {pc a : Nat} {ls : Array Slot} {rest : List Value} {ws ws' : va_W} {tys : List (ClassId × FieldType)} {H0 : Heap} {cl : List vw_C}
theorem z_bast (hexec : p.tables.exec = Jvm.exec) (hb : c.code = cc) (hK : va_K D cl tys s) (hP : va_P D cl ws H) (hD : va_D A ws) (hS : va_S A H0 H locs) (q0 t0 : Nat) {cA : ClassId} {n : Nat} {f g : Nat → Int32} (ha : ws[q0]? = some (a, .inl (cA, n, .inl f))) (ht : tys[t0]? = some (cA, .byte)) {i x : Int32} (hin : vp_in i n) (ev : g = upd f i.toNatClampNeg (vp_nar .byte x)) (hws : ws.set q0 (a, .inl (cA, n, .inl g)) = ws') (hdg : decode cc pc = .ok (.bastore, 1))
    (kk : ∀ (H1 : Heap) (locs1 : List Loc), va_P D cl ws' H1 → va_D A ws' → va_S A H0 H1 locs1 → W p l e R s m args below meth c H1 locs1 cells slots Q (F0 m (pc + 1) ls rest)) : W p l e R s m args below meth c H locs cells slots Q (F0 m pc ls (.int x :: .int i :: .ref a :: rest)) := by
  subst hws; subst ev
  exact va_bast hexec hb hK hP hD hS q0 t0 ha ht hin hdg kk
theorem z_ti {t N : Nat} {f : Nat → Int32} (hexec : p.tables.exec = Jvm.exec) (hb : c.code = cc) (hT : va_T .int t N (fun j => .int (f j)) A s s.heap) (hS : va_S A s.heap H locs) {i v : Int32} (hin : vp_in i N) (ev : v = f i.toNatClampNeg) (hdg : decode cc pc = .ok (.iaload, 1)) (kk : W p l e R s m args below meth c H locs cells slots Q (F0 m (pc + 1) ls (.int v :: rest))) : W p l e R s m args below meth c H locs cells slots Q (F0 m pc ls (.int i :: .ref t :: rest)) := by
  subst ev
  exact va_ti hexec hb hT hS hin rfl hdg kk
theorem z_tb {t N : Nat} {f : Nat → Int32} (hexec : p.tables.exec = Jvm.exec) (hb : c.code = cc) (hT : va_T .byte t N (fun j => .int (f j)) A s s.heap) (hS : va_S A s.heap H locs) {i v : Int32} (hin : vp_in i N) (ev : v = f i.toNatClampNeg) (hdg : decode cc pc = .ok (.baload, 1)) (kk : W p l e R s m args below meth c H locs cells slots Q (F0 m (pc + 1) ls (.int v :: rest))) : W p l e R s m args below meth c H locs cells slots Q (F0 m pc ls (.int i :: .ref t :: rest)) := by
  subst ev
  exact va_tb hexec hb hT hS hin rfl hdg kk
/-- arraycopy of a row's first k ints into another row -/
theorem z_copyi (hexec : p.tables.exec = Jvm.exec) (hb : c.code = cc) (hml : c.maxLocals = ls.size) {own : String} {index : Nat} (hown : s.vm.findClass own = some m.cls) (hlink : (Cond.methodLink own index arraycopyName).before args s = true) (hnat : (Cond.native arraycopyName).before args s = true) (hstat : (Cond.static arraycopyName).before args s = true) (hini : (Cond.initialized "java/lang/System").before args s = true)
    (hK : va_K D cl tys s) (hP : va_P D cl ws H) (hD : va_D A ws) (hS : va_S A H0 H locs) (q0 q1 t0 : Nat) {a0 : Nat} {c0 : ClassId} {n0 n1 k : Nat} {f g g' : Nat → Int32} (ha0 : ws[q0]? = some (a0, .inl (c0, n0, .inl f))) (ha1 : ws[q1]? = some (a, .inl (c0, n1, .inl g))) (ht0 : tys[t0]? = some (c0, .int)) {n : Int32} (h3 : ¬ n < 0) (hk : n.toNatClampNeg = k) (h4 : k ≤ n0) (h5 : k ≤ n1) (ev : g' = va_cpy f g 0 0 k) (hws : ws.set q1 (a, .inl (c0, n1, .inl g')) = ws')
    (hframes : 1 ≤ R.frames) (hlocals : (rest.map fun v => v.category).sum + (nativeFrameWords "java/lang/System" "arraycopy" 5 + 11) ≤ R.locals) (hdg : decode cc pc = .ok (.invokestatic index, 3))
    (kk : ∀ (H1 : Heap) (locs1 : List Loc), va_P D cl ws' H1 → va_D A ws' → va_S A H0 H1 locs1 → W p l e R s m args below meth c H1 locs1 cells slots Q (F0 m (pc + 3) ls rest)) : W p l e R s m args below meth c H locs cells slots Q (F0 m pc ls (.int n :: .int 0 :: .ref a :: .int 0 :: .ref a0 :: rest)) := by
  subst hk; subst ev; subst hws
  have h0 : (0 : Int32).toNatClampNeg = 0 := by decide
  exact va_copyi hexec hb hml hown hlink hnat hstat hini hK hP hD hS q0 q1 t0 t0 ha0 ha1 ht0 ht0 rfl (by decide) (by decide) h3 (by rw [h0]; omega) (by rw [h0]; omega) (fun _ _ => rfl) hframes hlocals hdg (by rw [h0]; exact kk)
theorem z_sbfit (k i : Nat) : fits .byte (.int (zSB k i)) = true := by
  have h : ∀ k, k < 6 → ∀ b ∈ (zStr.map (fun q => q.2.2.2)).getD k [], fits .byte (.int b) = true := by decide +kernel
  unfold zSB
  by_cases hk : k < 6
  · by_cases hi : i < ((zStr.map (fun q => q.2.2.2)).getD k []).length
    · rw [List.getD_eq_getElem?_getD, List.getElem?_eq_getElem hi]
      exact h k hk _ (List.getElem_mem hi)
    · rw [List.getD_eq_getElem?_getD, List.getElem?_eq_none (by omega)]
      rfl
  · have e : (zStr.map (fun q => q.2.2.2)).getD k [] = [] := by
      rw [List.getD_eq_getElem?_getD, List.getElem?_eq_none (by simp only [List.length_map]; show 6 ≤ k; omega)]
      rfl
    rw [e]
    rfl
theorem z_slen (k : Nat) : zSL k < 16 := by
  have h : ∀ k, k < 6 → (zStr.map (fun q => q.2.2.2.length)).getD k 0 < 16 := by decide +kernel
  unfold zSL
  by_cases hk : k < 6
  · exact h k hk
  · rw [List.getD_eq_getElem?_getD, List.getElem?_eq_none (by simp only [List.length_map]; show 6 ≤ k; omega)]
    decide
/-- arraycopy of a String constant's bytes into a row -/
theorem z_copys (hexec : p.tables.exec = Jvm.exec) (hb : c.code = cc) (hml : c.maxLocals = ls.size) {own : String} {index : Nat} (hown : s.vm.findClass own = some m.cls) (hlink : (Cond.methodLink own index arraycopyName).before args s = true) (hnat : (Cond.native arraycopyName).before args s = true) (hstat : (Cond.static arraycopyName).before args s = true) (hini : (Cond.initialized "java/lang/System").before args s = true)
    (hK : va_K D cl tys s) (hP : va_P D cl ws H) (hD : va_D A ws) (hS : va_S A s.heap H locs) {b0 k : Nat} (hX : va_T .byte b0 (zSL k) (fun j => .int (zSB k j)) A s s.heap) (hk14 : k < 6) (q1 t0 : Nat) {c0 : ClassId} {n1 : Nat} {g g' : Nat → Int32} (ha1 : ws[q1]? = some (a, .inl (c0, n1, .inl g))) (ht0 : tys[t0]? = some (c0, .byte)) {dp : Int32} (h2 : ¬ dp < 0) (h5 : dp.toNatClampNeg + zSL k ≤ n1) (ev : g' = va_cpy (zSB k) g 0 dp.toNatClampNeg (zSL k)) (hws : ws.set q1 (a, .inl (c0, n1, .inl g')) = ws')
    (hframes : 1 ≤ R.frames) (hlocals : (rest.map fun v => v.category).sum + (nativeFrameWords "java/lang/System" "arraycopy" 5 + 11) ≤ R.locals) (hdg : decode cc pc = .ok (.invokestatic index, 3))
    (kk : ∀ (H1 : Heap) (locs1 : List Loc), va_P D cl ws' H1 → va_D A ws' → va_S A s.heap H1 locs1 → W p l e R s m args below meth c H1 locs1 cells slots Q (F0 m (pc + 3) ls rest)) : W p l e R s m args below meth c H locs cells slots Q (F0 m pc ls (.int (nI (zSL k)) :: .int dp :: .ref a :: .int 0 :: .ref b0 :: rest)) := by
  subst ev; subst hws
  have h0 : (0 : Int32).toNatClampNeg = 0 := by decide
  have hl : (nI (zSL k)).toNatClampNeg = zSL k := nI_clamp (Nat.lt_trans (z_slen k) (by decide))
  refine vk_copyt hexec hb hml hown hlink hnat hstat hini hK hP hD hS hX q1 t0 ha1 ht0 (by decide) h2 (nI_pos (Nat.lt_trans (z_slen k) (by decide))) (by rw [h0, hl]; omega) (by rw [hl]; exact h5) (fun _ _ => z_sbfit k _) hframes hlocals hdg ?_
  rw [h0, hl]
  exact kk
theorem z_putZ (hexec : p.tables.exec = Jvm.exec) (hb : c.code = cc) {own C : String} {T : u_T} {N ci index : Nat} {Ts : List Cond} (hts : ∀ w ∈ Ts, w.before args s = true) (hin : ∀ w ∈ u_ws C T N, w ∈ Ts) (ty0 : Nat → FieldType) (hty : ∀ k, k < N → parseFieldDescriptor (T k).2.2.1 = some (ty0 k)) (hnm : ∀ a, a < N → ∀ b, b < N → a ≠ b → (T a).2.1 ≠ (T b).2.1) (hown : s.vm.findClass own = some m.cls) (hK : va_K D cl tys s) (hP : va_P D cl ws H) (hD : va_D A ws) (hS0 : va_S A H0 H locs) (q0 : Nat) {fs : List Value} (he : ws[q0]? = some (a, .inr (ci, fs))) (hc : cl[ci]? = some (C, T, N)) (k : Nat) (hk : k < N) (hlink : (Cond.fieldLink own index (T k).1 (T k).2.1 (T k).2.2.1).before args s = true) (hfin : (T k).2.2.2 = false) {v : Int32} (hd : (T k).2.2.1 = "Z") (hv : v = 0 ∨ v = 1) (hl : k < fs.length) (hws : ws.set q0 (a, .inr (ci, fs.set k (.int v))) = ws')
    (hdg : decode cc pc = .ok (.putfield index, 3)) (kk : ∀ (H1 : Heap) (locs1 : List Loc), va_P D cl ws' H1 → va_D A ws' → va_S A H0 H1 locs1 → W p l e R s m args below meth c H1 locs1 cells slots Q (F0 m (pc + 3) ls rest)) : W p l e R s m args below meth c H locs cells slots Q (F0 m pc ls (.int v :: .ref a :: rest)) := by
  subst hws
  exact va_put (ty := .boolean) hexec hb hts hin ty0 hty hnm hown hK hP hD hS0 q0 he hc k hk hlink (fun _ h9 => h9) hfin (by rw [hd]; decide +kernel) (by rcases hv with rfl | rfl <;> rfl) (by rcases hv with rfl | rfl <;> rfl) hl hdg kk
end ZR4
theorem z_p2 {w0 w1 s0 s1 r0 r1 : va_W} (h0 : w0.Perm (s0 ++ r0)) (h1 : w1.Perm (s1 ++ r1)) : (w0 ++ w1).Perm ((s0 ++ s1) ++ (r0 ++ r1)) := by
  refine (h0.append h1).trans ?_
  rw [List.append_assoc, List.append_assoc, ← List.append_assoc r0, ← List.append_assoc s1]
  exact List.Perm.append_left s0 (List.Perm.append_right r1 List.perm_append_comm)
theorem z_p2b {w0 w1 s0 s1 r0 r1 : va_W} (h0 : (s0 ++ r0).Perm w0) (h1 : (s1 ++ r1).Perm w1) : ((s0 ++ s1) ++ (r0 ++ r1)).Perm (w0 ++ w1) := (z_p2 h0.symm h1.symm).symm
theorem zF_ref0 {G : zG} {A : Nat → Prop} {s : State} {H : Heap} (hF : zF G A s H) : vk_R RX6 233 "begins" (G.2.2.2.1 0) s := hF.2.2.2.2.2.2.2.2.2.1 0 ("QuietChecks", 233, "begins", [98, 101, 103, 105, 110, 115]) rfl
theorem zF_ref1 {G : zG} {A : Nat → Prop} {s : State} {H : Heap} (hF : zF G A s H) : vk_R RX6 235 "pauses" (G.2.2.2.1 1) s := hF.2.2.2.2.2.2.2.2.2.1 1 ("QuietChecks", 235, "pauses", [112, 97, 117, 115, 101, 115]) rfl
theorem zF_ref2 {G : zG} {A : Nat → Prop} {s : State} {H : Heap} (hF : zF G A s H) : vk_R RX6 237 "ends" (G.2.2.2.1 2) s := hF.2.2.2.2.2.2.2.2.2.1 2 ("QuietChecks", 237, "ends", [101, 110, 100, 115]) rfl
theorem zF_ref3 {G : zG} {A : Nat → Prop} {s : State} {H : Heap} (hF : zF G A s H) : vk_R RX6 239 "replaced" (G.2.2.2.1 3) s := hF.2.2.2.2.2.2.2.2.2.1 3 ("QuietChecks", 239, "replaced", [114, 101, 112, 108, 97, 99, 101, 100]) rfl
theorem zF_ref4 {G : zG} {A : Nat → Prop} {s : State} {H : Heap} (hF : zF G A s H) : vk_R RX6 241 "stays" (G.2.2.2.1 4) s := hF.2.2.2.2.2.2.2.2.2.1 4 ("QuietChecks", 241, "stays", [115, 116, 97, 121, 115]) rfl
theorem zF_ref5 {G : zG} {A : Nat → Prop} {s : State} {H : Heap} (hF : zF G A s H) : vk_R RX6 243 "slow" (G.2.2.2.1 5) s := hF.2.2.2.2.2.2.2.2.2.1 5 ("QuietChecks", 243, "slow", [115, 108, 111, 119]) rfl
section ZR5
variable {p : Program} {l : Launch} {e : Env} {R : Room} {s : State} {m : MethodId} {args : Array Value} {below : List Frame} {meth : Method} {c : Code} {H : Heap} {locs : List Loc} {cells slots : Nat} {Q : State → Prop} {cc : ByteArray} {D : va_G} {A : Nat → Prop} {pc a : Nat} {ls : Array Slot} {rest : List Value} {ws ws' : va_W} {tys : List (ClassId × FieldType)} {H0 : Heap} {cl : List vw_C}
theorem z_aldq (hexec : p.tables.exec = Jvm.exec) (hb : c.code = cc) (hK : va_K D cl tys s) (hP : va_P D cl ws H) (q0 t0 : Nat) {cA : ClassId} {C : String} {n : Nat} {f : Nat → Option Nat} (ha : ws[q0]? = some (a, .inl (cA, n, .inr (.inr (.inr (.inr f)))))) (ht : tys[t0]? = some (cA, .object C)) {i : Int32} {v : Nat} (hin : vp_in i n) (ev : f i.toNatClampNeg = some v) (hdg : decode cc pc = .ok (.aaload, 1)) (kk : W p l e R s m args below meth c H locs cells slots Q (F0 m (pc + 1) ls (.ref v :: rest))) : W p l e R s m args below meth c H locs cells slots Q (F0 m pc ls (.int i :: .ref a :: rest)) := by
  refine va_aldq hexec hb hK hP q0 t0 ha ht hin hdg ?_
  rw [ev]
  exact kk
theorem z_astq (hexec : p.tables.exec = Jvm.exec) (hb : c.code = cc) (hK : va_K D cl tys s) (hP : va_P D cl ws H) (hD : va_D A ws) (hS : va_S A H0 H locs) (q0 t0 qk ci : Nat) {cA : ClassId} {r : vw_C} {n v k : Nat} {vs : List Value} {f : Nat → Option Nat} (ha : ws[q0]? = some (a, .inl (cA, n, .inr (.inr (.inr (.inr f)))))) (ht : tys[t0]? = some (cA, .object r.1)) (hv : ws[qk]? = some (v, .inr (ci, vs))) (hc : cl[ci]? = some r) {i : Int32} (hin : vp_in i n) (hk : i.toNatClampNeg = k) (hws : ws.set q0 (a, .inl (cA, n, .inr (.inr (.inr (.inr (va_up f k (some v))))))) = ws') (hdg : decode cc pc = .ok (.aastore, 1)) (kk : ∀ (H1 : Heap) (locs1 : List Loc), va_P D cl ws' H1 → va_D A ws' → va_S A H0 H1 locs1 → W p l e R s m args below meth c H1 locs1 cells slots Q (F0 m (pc + 1) ls rest)) : W p l e R s m args below meth c H locs cells slots Q (F0 m pc ls (.ref v :: .int i :: .ref a :: rest)) := by
  subst hk; subst hws
  exact va_astq hexec hb hK hP hD hS q0 t0 qk ci ha ht hv hc hin hdg kk
theorem z_copyT (hexec : p.tables.exec = Jvm.exec) (hb : c.code = cc) (hml : c.maxLocals = ls.size) {own : String} {index : Nat} (hown : s.vm.findClass own = some m.cls) (hlink : (Cond.methodLink own index arraycopyName).before args s = true) (hnat : (Cond.native arraycopyName).before args s = true) (hstat : (Cond.static arraycopyName).before args s = true) (hini : (Cond.initialized "java/lang/System").before args s = true)
    (hK : va_K D cl tys s) (hP : va_P D cl ws H) (hD : va_D A ws) (hS : va_S A s.heap H locs) {b0 n0 : Nat} {f : Nat → Int32} (hX : va_T .int b0 n0 (fun j => .int (f j)) A s s.heap) (q1 t1 : Nat) {c1 : ClassId} {n1 k : Nat} {g g' : Nat → Int32} (ha1 : ws[q1]? = some (a, .inl (c1, n1, .inl g))) (ht1 : tys[t1]? = some (c1, .int)) {n : Int32} (h3 : ¬ n < 0) (hk : n.toNatClampNeg = k) (h4 : k ≤ n0) (h5 : k ≤ n1) (ev : g' = va_cpy f g 0 0 k) (hws : ws.set q1 (a, .inl (c1, n1, .inl g')) = ws')
    (hframes : 1 ≤ R.frames) (hlocals : (rest.map fun v => v.category).sum + (nativeFrameWords "java/lang/System" "arraycopy" 5 + 11) ≤ R.locals) (hdg : decode cc pc = .ok (.invokestatic index, 3))
    (kk : ∀ (H1 : Heap) (locs1 : List Loc), va_P D cl ws' H1 → va_D A ws' → va_S A s.heap H1 locs1 → W p l e R s m args below meth c H1 locs1 cells slots Q (F0 m (pc + 3) ls rest)) : W p l e R s m args below meth c H locs cells slots Q (F0 m pc ls (.int n :: .int 0 :: .ref a :: .int 0 :: .ref b0 :: rest)) := by
  subst hk; subst ev; subst hws
  have h0 : (0 : Int32).toNatClampNeg = 0 := by decide
  have nn : ∀ z : Int32, ¬ z < 0 → z.toInt = (z.toNatClampNeg : Int) := by
    intro z hz
    have hz0 : (0 : Int) ≤ z.toInt := by
      have := Int32.not_lt.mp hz
      simpa using Int32.le_iff_toInt_le.mp this
    show z.toInt = ((z.toInt.toNat : Nat) : Int)
    omega
  intro T hT X
  obtain ⟨scr, hs1, ⟨hs6, k0, hk0, cm0, hkk0⟩, hs3, hs4, -, hs5, hs7⟩ := hX
  have hc0 : H[b0]? = some scr := (hS.2.1 b0 (Array.getElem?_eq_some_iff.mp hs1).1 hs7).trans hs1
  have hc1 : H[a]? = some (vp_cell c1 (n1, .inl g)) := hP q1 _ ha1
  obtain ⟨-, k1, hk1, cm1, hkk1⟩ := (hK.2 t1 _ ht1).1 n1 (fun j => .int (g j))
  have key := X.arraycopy hexec hown hlink hnat hstat hini (src := b0) (dst := a) (cs := scr) (cd := vp_cell c1 (n1, .inl g)) (srcPos := 0) (destPos := 0) (n := n) (by rw [hT]; exact hc0) (by rw [hT]; exact hc1)
    hs6 (fun _ h => by cases h) hs3 (fun h => by cases h) hk0 hk1 hkk0 hkk1 (by simp [refKind]) (by decide) (by decide) h3
    (by rw [nn 0 (by decide), nn n h3, h0]; omega)
    (by rw [nn 0 (by decide), nn n h3, h0]; show ¬ _ > ((arrV c1 n1 (fun j => .int (g j))).slots.size : Int); rw [arrV_size]; omega)
    (fun vm₁ _ i hi => by
      have e : scr.slots.getD ((0 : Int32).toNatClampNeg + i) .null = .int (f ((0 : Int32).toNatClampNeg + i)) := by
        rw [Array.getD_eq_getD_getElem?, hs5 _ (by rw [h0]; omega)]
        rfl
      exact ⟨by rw [e]; rfl, by rw [e]; exact trivial⟩)
    (g := F0 m pc ls (.int n :: .int 0 :: .ref a :: .int 0 :: .ref b0 :: rest)) rfl (by rw [hml]) (rest := rest) rfl (by rw [hb]; exact hdg) hframes (by show 2 * 0 + _ + _ ≤ _; omega)
  obtain ⟨vm', X', step⟩ := key
  have e1 : copied scr (vp_cell c1 (n1, .inl g)) 0 0 n = vp_cell c1 (n1, .inl (va_cpy f g 0 0 n.toNatClampNeg)) := by
    have h := va_copiedX (fun z => Value.int z) scr c1 (n1 := n1) (dp := 0) f g hs5 (show 0 + n.toNatClampNeg ≤ n0 by omega)
    exact h
  rw [e1] at X' step
  have hl : a < H.size := (Array.getElem?_eq_some_iff.mp hc1).1
  have oq : ∀ q : Nat, q ≠ a → (H.setIfInBounds a (vp_cell c1 (n1, .inl (va_cpy f g 0 0 n.toNatClampNeg))))[q]? = H[q]? := fun q hq => by simp [Array.getElem?_setIfInBounds, Ne.symm hq]
  have hheap : ((T.setVm vm').setCell a (vp_cell c1 (n1, .inl (va_cpy f g 0 0 n.toNatClampNeg)))).heap = H.setIfInBounds a (vp_cell c1 (n1, .inl (va_cpy f g 0 0 n.toNatClampNeg))) := by rw [← hT]; rfl
  have hS2 : va_S A s.heap (H.setIfInBounds a (vp_cell c1 (n1, .inl (va_cpy f g 0 0 n.toNatClampNeg)))) (locs ++ (scr.stretch (0 : Int32).toNatClampNeg n.toNatClampNeg).zipIdx.map fun q => ⟨a, (0 : Int32).toNatClampNeg + q.2⟩) := by
    refine ⟨by simp; exact hS.1, fun q g1 g2 => ?_, fun q hq => ?_⟩
    · rw [oq q (fun e => g2 (e ▸ hD.2 q1 _ ha1))]
      exact hS.2.1 q g1 g2
    · rcases List.mem_append.mp hq with h | h
      · exact hS.2.2 q h
      · obtain ⟨z, -, hz⟩ := List.mem_map.mp h
        rw [← hz]
        exact hD.2 q1 _ ha1
  obtain ⟨t, a1, b1⟩ := kk _ _ (hP.set hD ha1 (show (H.setIfInBounds a _)[a]? = some _ by simp [Array.getElem?_setIfInBounds, hl]) oq) (hD.set ha1) hS2 _ hheap X'
  exact ⟨t, step t a1, b1⟩
end ZR5
