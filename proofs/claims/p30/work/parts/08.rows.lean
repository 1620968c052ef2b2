/-! CALLS, STARTS, ENDS over the contract's form -/
def zCx (p : Program) (s : State) (m : MethodId) (args : Array Value) (meth : Method) (c : Code) (cc : ByteArray) (nL : Nat) (ret : Option FieldType) (own : String) (D : va_G) (G : zG) (A : Nat → Prop) : Prop :=
  p.tables.exec = Jvm.exec ∧ c.code = cc ∧ c.maxLocals = nL ∧ s.vm.findClass own = some m.cls ∧ (∀ w ∈ wsL_law, w.before args s = true) ∧ va_K D vwCl (zTY G) s ∧ meth.locks = false ∧ zF G A s s.heap ∧ meth.sig.returnType = ret ∧ (∀ q, s.heap.size ≤ q → A q)
theorem z_ofWF {l : Launch} {y : MethodName} {ws ws' : List Cond} {rm : Room} {Pc : Array Value → State → Prop} {Qc : Array Value → State → Outcome → State → Prop} {mc ms : Nat} {free : Addr → Prop} {cc : ByteArray} {maxL : Nat} {ret : Option FieldType}
    (hy : plainFor y = true) (hw : ws = Cond.code y cc maxL ret :: ws')
    (body : ∀ p e s m args below meth c s₁, BodyLoose p l y (headSpec ws rm) cc maxL ret e s m args below meth c s₁ → c.maxLocals = maxL → Pc args s →
      W p l e (headSpec ws rm).room s m args below meth c s.heap [] 0 0 (MQ below Qc args s mc ms free) (entryFrame m args maxL)) : Met l y ws rm Pc Qc mc ms free := by
  refine MetFree.of_bodySF (code := cc) (maxLocals := maxL) (ret := ret) hy ?_ ?_
  · intro args s m h hn
    obtain ⟨meth, c, h1, h2, h3, h4, h5, h6, -, -⟩ := Cond.code_spec hn (atoms_spec (ws := ws) h _ (by rw [hw]; exact List.mem_cons_self))
    exact ⟨meth, c, h1, h2, h3, h4, h5, h6⟩
  · intro p e s m args below meth c s₁ B hml hP _
    have hh0 : s₁.heap = s.heap := by rw [B.state]; rfl
    obtain ⟨t, a1, o, b1, b2, b3⟩ := body p e s m args below meth c s₁ B hml hP s₁ hh0 (Stand.of_body B)
    exact ⟨t, o, a1, b1, b2, ⟨b3.1, b3.2⟩⟩
theorem z_start {l : Launch} {y : MethodName} {cc : ByteArray} {n : Nat} {ret : Option FieldType} {f L : Nat} {D : va_G} {G : zG} {ws : va_W} {av : List Value} {Qc : Nat → Array Value → State → Outcome → State → Prop} (hy : plainFor y = true) (hn : (lg_sl av).length ≤ n)
    (body : ∀ (p : Program) (e : Env) (s : State) (m : MethodId) (below : List Frame) (meth : Method) (c : Code) (H : Heap) (ls : Array Slot), zCx p s m av.toArray meth c cc n ret y.cls D G (va_A ws s.heap.size) → va_P D vwCl ws H → va_D (va_A ws s.heap.size) ws → va_S (va_A ws s.heap.size) s.heap H [] → lv_has ls n (lv_args 0 av) → W p l e (zRm f L) s m av.toArray below meth c H [] 0 0 (MQ below (Qc s.heap.size) av.toArray s 0 0 (va_A ws s.heap.size)) (F0 m 0 ls [])) :
    ∀ sz, Met l y (zW y cc n ret) (zRm f L) (va_Pc av (zPre D G sz ws)) (Qc sz) 0 0 (va_A ws sz) := by
  intro sz
  refine z_ofWF (cc := cc) (maxL := n) (ret := ret) hy rfl ?_
  intro p e s m args below meth c s₁ B hml hv
  obtain ⟨rfl, hsz, hP, hK, hD0, hF⟩ := hv
  subst hsz
  have hts := atoms_spec (ws := zW y cc n ret) B.pre
  rw [lg_entry_eq]
  exact body p e s m below meth c s.heap _ ⟨B.exec, B.bytes, hml, findClass_of_methodNamed B.named, fun w h => hts w (List.mem_cons_of_mem _ h), hK, B.notSynchronized, hF, B.returns, fun q h => Or.inr h⟩ hP hD0.self va_S.rf (lv_entry av hn)
section ZR
variable {p : Program} {l : Launch} {e : Env} {R : Room} {s : State} {m : MethodId} {args : Array Value} {below : List Frame} {meth : Method} {c : Code} {H : Heap} {locs : List Loc} {Q : State → Prop} {cc : ByteArray} {nL : Nat} {ret : Option FieldType} {own : String} {D : va_G} {G : zG} {A : Nat → Prop} {pc : Nat} {ls : Array Slot} {ws wc wc' wr ws' : va_W}
theorem z_iret {v r : Int32} (C0 : zCx p s m args meth c cc nL (some .int) own D G (va_A ws s.heap.size)) (hP : va_P D vwCl ws' H) (hD : va_D (va_A ws s.heap.size) ws') (hS : va_S (va_A ws s.heap.size) s.heap H locs) (hv : v = r) (hdg : decode cc pc = .ok (.ireturn, 1)) :
    W p l e R s m args below meth c H locs 0 0 (MQ below (zQi D G ws ws' r s.heap.size) args s 0 0 (va_A ws s.heap.size)) (F0 m pc ls [.int v]) := by
  obtain ⟨hx, hb, hml, hown, hW, hK, hlocks, hF, hr, hA⟩ := C0
  exact W.iret (v := v) hx hb hr (fun t ht hW => ⟨⟨v, (), rfl, hv, by rw [ht]; exact hP, va_K.moved hW.alike hK, hD⟩, hS.F ht⟩) hS.2.2 hdg hlocks
theorem z_zret {v r : Int32} {ty : FieldType} (C0 : zCx p s m args meth c cc nL (some ty) own D G (va_A ws s.heap.size)) (hn : narrow ty (.int v) = .int v) (hP : va_P D vwCl ws' H) (hD : va_D (va_A ws s.heap.size) ws') (hS : va_S (va_A ws s.heap.size) s.heap H locs) (hv : v = r) (hdg : decode cc pc = .ok (.ireturn, 1)) :
    W p l e R s m args below meth c H locs 0 0 (MQ below (zQi D G ws ws' r s.heap.size) args s 0 0 (va_A ws s.heap.size)) (F0 m pc ls [.int v]) := by
  obtain ⟨hx, hb, hml, hown, hW, hK, hlocks, hF, hr, hA⟩ := C0
  exact W.zret (v := v) hx hb hr hn (fun t ht hW => ⟨⟨v, (), rfl, hv, by rw [ht]; exact hP, va_K.moved hW.alike hK, hD⟩, hS.F ht⟩) hS.2.2 hdg hlocks
theorem z_lret {v r : Int64} (C0 : zCx p s m args meth c cc nL (some .long) own D G (va_A ws s.heap.size)) (hP : va_P D vwCl ws' H) (hD : va_D (va_A ws s.heap.size) ws') (hS : va_S (va_A ws s.heap.size) s.heap H locs) (hv : v = r) (hdg : decode cc pc = .ok (.lreturn, 1)) :
    W p l e R s m args below meth c H locs 0 0 (MQ below (zQl D G ws ws' r s.heap.size) args s 0 0 (va_A ws s.heap.size)) (F0 m pc ls [.long v]) := by
  obtain ⟨hx, hb, hml, hown, hW, hK, hlocks, hF, hr, hA⟩ := C0
  exact W.lret (v := v) hx hb hr (fun t ht hW => ⟨⟨v, (), rfl, hv, by rw [ht]; exact hP, va_K.moved hW.alike hK, hD⟩, hS.F ht⟩) hS.2.2 hdg hlocks
theorem z_vret (C0 : zCx p s m args meth c cc nL none own D G (va_A ws s.heap.size)) (hP : va_P D vwCl ws' H) (hD : va_D (va_A ws s.heap.size) ws') (hS : va_S (va_A ws s.heap.size) s.heap H locs) (hdg : decode cc pc = .ok (.return_, 1)) :
    W p l e R s m args below meth c H locs 0 0 (MQ below (zQv D G ws ws' s.heap.size) args s 0 0 (va_A ws s.heap.size)) (F0 m pc ls []) := by
  obtain ⟨hx, hb, hml, hown, hW, hK, hlocks, hF, hr, hA⟩ := C0
  exact W.vret hx hb hr (fun t ht hW => ⟨⟨(), rfl, trivial, by rw [ht]; exact hP, va_K.moved hW.alike hK, hD⟩, hS.F ht⟩) hS.2.2 hdg hlocks
/-- what a call site links -/
def zLkV (own : String) (idx : Nat) (y : MethodName) (cy : ByteArray) (ny : Nat) (rety : Option FieldType) (n : Nat) : Prop :=
  (Cond.methodLink own idx y ∈ wsL_law ∧ Cond.instanceMethod y ∈ wsL_law ∧ Cond.selects y.cls y y ∈ wsL_law ∧ Cond.initialized y.cls ∈ wsL_law ∧ Cond.code y cy ny rety ∈ wsL_law) ∧ y.cls ≠ "java/lang/invoke/MethodHandle" ∧ y.cls ≠ "java/lang/invoke/VarHandle" ∧ (parseMethodDescriptor y.desc).map (fun d => d.parameters.length) = some n
def zLkS (own : String) (idx : Nat) (y : MethodName) (cy : ByteArray) (ny : Nat) (rety : Option FieldType) (n : Nat) : Prop :=
  (Cond.methodLink own idx y ∈ wsL_law ∧ Cond.static y ∈ wsL_law ∧ Cond.initialized y.cls ∈ wsL_law ∧ Cond.code y cy ny rety ∈ wsL_law) ∧ y.cls ≠ "java/lang/invoke/MethodHandle" ∧ y.cls ≠ "java/lang/invoke/VarHandle" ∧ (parseMethodDescriptor y.desc).map (fun d => d.parameters.length) = some n
def zLkN (own : String) (idx : Nat) (y : MethodName) (cy : ByteArray) (ny : Nat) (rety : Option FieldType) (n : Nat) : Prop :=
  (Cond.methodLinkNest own idx y "QuietChecks" ∈ zNest ∧ Cond.static y ∈ wsL_law ∧ Cond.initialized y.cls ∈ wsL_law ∧ Cond.code y cy ny rety ∈ wsL_law) ∧ y.cls ≠ "java/lang/invoke/MethodHandle" ∧ y.cls ≠ "java/lang/invoke/VarHandle" ∧ (parseMethodDescriptor y.desc).map (fun d => d.parameters.length) = some n
theorem zW_sub {y : MethodName} {cy : ByteArray} {ny : Nat} {rety : Option FieldType} (h : Cond.code y cy ny rety ∈ wsL_law) : GoodIn wsL_law (zW y cy ny rety) := fun w hw => by
  have hm : w ∈ wsL_law := by
    rcases List.mem_cons.mp hw with rfl | hw
    · exact h
    · exact hw
  exact ⟨hm, zW_good w hm⟩
theorem z_goodV {own : String} {idx : Nat} {y : MethodName} {cy : ByteArray} {ny : Nat} {rety : Option FieldType} {n : Nat} (k : zLkV own idx y cy ny rety n) : GoodIn wsL_law (wsV own idx y.cls y (zW y cy ny rety)) := fun w hw => by
  obtain ⟨⟨h1, h2, h3, h4, h5⟩, -⟩ := k
  have hm : w ∈ wsL_law := by
    unfold wsV at hw
    rcases List.mem_append.mp hw with hw | hw
    · simp only [List.mem_cons, List.not_mem_nil, or_false] at hw
      rcases hw with rfl | rfl | rfl | rfl
      · exact h1
      · exact h2
      · exact h3
      · exact h4
    · exact (zW_sub h5 w hw).1
  exact ⟨hm, zW_good w hm⟩
theorem z_goodS {own : String} {idx : Nat} {y : MethodName} {cy : ByteArray} {ny : Nat} {rety : Option FieldType} {n : Nat} (k : zLkS own idx y cy ny rety n) : GoodIn wsL_law (va_wsS own idx y (zW y cy ny rety)) := fun w hw => by
  obtain ⟨⟨h1, h2, h3, h4⟩, -⟩ := k
  have hm : w ∈ wsL_law := by
    unfold va_wsS at hw
    rcases List.mem_append.mp hw with hw | hw
    · simp only [List.mem_cons, List.not_mem_nil, or_false] at hw
      rcases hw with rfl | rfl | rfl
      · exact h1
      · exact h2
      · exact h3
    · exact (zW_sub h4 w hw).1
  exact ⟨hm, zW_good w hm⟩
/-- the callee's start holds at the call -/
theorem z_pre {av : List Value} (hF : zF G A s s.heap) (hK : va_K D vwCl (zTY G) s) (hPc : va_P D vwCl (wc ++ wr) H) (hDc : va_D A (wc ++ wr)) (hS : va_S A s.heap H locs) (hFc : ∀ q, va_A wc H.size q → A q) : ∀ U : State, U.heap = H → s.WarmedH U.vm → va_Pc av (zPre D G H.size wc) av.toArray U := fun U hU hW => by
  refine ⟨rfl, by rw [hU], by rw [hU]; exact zP_left hPc, va_K.moved hW.alike hK, (zD_left hDc).weaken (fun _ _ _ _ => trivial), ?_⟩
  rw [hU]
  exact zF_warm hW (zF_narrow (zF_kept hF (fun a h1 h2 => hS.2.1 a h1 h2)) hFc)
theorem z_backW {t : State} {H1 : Heap} (hPc : va_P D vwCl (wc ++ wr) H) (hDc : va_D A (wc ++ wr)) (hFc : ∀ q, va_A wc H.size q → A q) (ht : t.heap = H1) (hB : zPost D G H.size wc wc' t) (hk : ∀ q : Nat, q < H.size → ¬ va_A wc H.size q → H1[q]? = H[q]?) (hp2 : (wc' ++ wr).Perm ws') : va_P D vwCl ws' H1 ∧ va_D A ws' := by
  obtain ⟨hP1, hK1, hD1⟩ := hB
  rw [ht] at hP1
  obtain ⟨h1, h2⟩ := z_join hPc hDc hk hFc hP1 hD1
  exact ⟨zP_perm hp2 h1, zD_perm hp2 h2⟩
theorem z_Vi {y : MethodName} {cy : ByteArray} {ny fy Ly idx ci n bq N : Nat} {rety : Option FieldType} {As rest st0 fs : List Value} {T : u_T} {r : Int32} (C0 : zCx p s m args meth c cc nL ret own D G A) (k : zLkV own idx y cy ny rety n) (hM : zMi l y cy ny rety fy Ly D G wc wc' (.ref bq :: As) r)
    (hp1 : ws.Perm (wc ++ wr)) (hp2 : (wc' ++ wr).Perm ws') (hq0 : wc[0]? = some (bq, .inr (ci, fs))) (hci : vwCl[ci]? = some (y.cls, T, N)) (hn : As.length = n) (hR : fy + 1 ≤ R.frames ∧ 8 + (ny + 11) + Ly ≤ R.locals) (hrm : (rest.map fun v => v.category).sum ≤ 8) (hst : st0 = As.reverse ++ .ref bq :: rest) (hls : ls.size = nL)
    (hP : va_P D vwCl ws H) (hD : va_D A ws) (hS : va_S A s.heap H locs) (hdg : decode cc pc = .ok (.invokevirtual idx, 3))
    (kk : ∀ (H1 : Heap) (locs1 : List Loc), va_P D vwCl ws' H1 → va_D A ws' → va_S A s.heap H1 locs1 → W p l e R s m args below meth c H1 locs1 0 0 Q (F0 m (pc + 3) ls (.int r :: rest))) : W p l e R s m args below meth c H locs 0 0 Q (F0 m pc ls st0) := by
  obtain ⟨hx, hb, hml, hown, hW, hK, hlocks, hF, hr, hA⟩ := C0
  subst hst
  have hPc := zP_perm hp1 hP
  have hDc := zD_perm hp1 hD
  have hFc := z_free hDc hS hA
  refine va_calli (va_runV (As := As) (rest := rest) ⟨hx, hb, hml, hown, hW⟩ (hM H.size) (cwV n hW (z_goodV k) rfl rfl rfl ⟨rfl, k.2⟩ hR) ⟨zPre_blind, va_recv hK (zP_left hPc) hci hq0, z_pre hF hK hPc hDc hS hFc⟩ rfl hn hls rfl (lv_room hrm) hdg ⟨Nat.zero_le _, Nat.zero_le _⟩) hS (fun q _ h => hFc q h) hFc (fun x u t H1 locs1 ht hvm hw hB hz1 hk1 hS1 => ?_)
  obtain ⟨h1, h2⟩ := z_backW hPc hDc hFc ht hB hk1 hp2
  subst hw
  exact kk H1 locs1 h1 h2 hS1
theorem z_Vl {y : MethodName} {cy : ByteArray} {ny fy Ly idx ci n bq N : Nat} {rety : Option FieldType} {As rest st0 fs : List Value} {T : u_T} {r : Int64} (C0 : zCx p s m args meth c cc nL ret own D G A) (k : zLkV own idx y cy ny rety n) (hM : zMl l y cy ny rety fy Ly D G wc wc' (.ref bq :: As) r)
    (hp1 : ws.Perm (wc ++ wr)) (hp2 : (wc' ++ wr).Perm ws') (hq0 : wc[0]? = some (bq, .inr (ci, fs))) (hci : vwCl[ci]? = some (y.cls, T, N)) (hn : As.length = n) (hR : fy + 1 ≤ R.frames ∧ 8 + (ny + 11) + Ly ≤ R.locals) (hrm : (rest.map fun v => v.category).sum ≤ 8) (hst : st0 = As.reverse ++ .ref bq :: rest) (hls : ls.size = nL)
    (hP : va_P D vwCl ws H) (hD : va_D A ws) (hS : va_S A s.heap H locs) (hdg : decode cc pc = .ok (.invokevirtual idx, 3))
    (kk : ∀ (H1 : Heap) (locs1 : List Loc), va_P D vwCl ws' H1 → va_D A ws' → va_S A s.heap H1 locs1 → W p l e R s m args below meth c H1 locs1 0 0 Q (F0 m (pc + 3) ls (.long r :: rest))) : W p l e R s m args below meth c H locs 0 0 Q (F0 m pc ls st0) := by
  obtain ⟨hx, hb, hml, hown, hW, hK, hlocks, hF, hr, hA⟩ := C0
  subst hst
  have hPc := zP_perm hp1 hP
  have hDc := zD_perm hp1 hD
  have hFc := z_free hDc hS hA
  refine va_calll (va_runV (As := As) (rest := rest) ⟨hx, hb, hml, hown, hW⟩ (hM H.size) (cwV n hW (z_goodV k) rfl rfl rfl ⟨rfl, k.2⟩ hR) ⟨zPre_blind, va_recv hK (zP_left hPc) hci hq0, z_pre hF hK hPc hDc hS hFc⟩ rfl hn hls rfl (lv_room hrm) hdg ⟨Nat.zero_le _, Nat.zero_le _⟩) hS (fun q _ h => hFc q h) hFc (fun x u t H1 locs1 ht hvm hw hB hz1 hk1 hS1 => ?_)
  obtain ⟨h1, h2⟩ := z_backW hPc hDc hFc ht hB hk1 hp2
  subst hw
  exact kk H1 locs1 h1 h2 hS1
theorem z_Vv {y : MethodName} {cy : ByteArray} {ny fy Ly idx ci n bq N : Nat} {rety : Option FieldType} {As rest st0 fs : List Value} {T : u_T} (C0 : zCx p s m args meth c cc nL ret own D G A) (k : zLkV own idx y cy ny rety n) (hM : zMv l y cy ny rety fy Ly D G wc wc' (.ref bq :: As))
    (hp1 : ws.Perm (wc ++ wr)) (hp2 : (wc' ++ wr).Perm ws') (hq0 : wc[0]? = some (bq, .inr (ci, fs))) (hci : vwCl[ci]? = some (y.cls, T, N)) (hn : As.length = n) (hR : fy + 1 ≤ R.frames ∧ 8 + (ny + 11) + Ly ≤ R.locals) (hrm : (rest.map fun v => v.category).sum ≤ 8) (hst : st0 = As.reverse ++ .ref bq :: rest) (hls : ls.size = nL)
    (hP : va_P D vwCl ws H) (hD : va_D A ws) (hS : va_S A s.heap H locs) (hdg : decode cc pc = .ok (.invokevirtual idx, 3))
    (kk : ∀ (H1 : Heap) (locs1 : List Loc), va_P D vwCl ws' H1 → va_D A ws' → va_S A s.heap H1 locs1 → W p l e R s m args below meth c H1 locs1 0 0 Q (F0 m (pc + 3) ls rest)) : W p l e R s m args below meth c H locs 0 0 Q (F0 m pc ls st0) := by
  obtain ⟨hx, hb, hml, hown, hW, hK, hlocks, hF, hr, hA⟩ := C0
  subst hst
  have hPc := zP_perm hp1 hP
  have hDc := zD_perm hp1 hD
  have hFc := z_free hDc hS hA
  refine va_callv (va_runV (As := As) (rest := rest) ⟨hx, hb, hml, hown, hW⟩ (hM H.size) (cwV n hW (z_goodV k) rfl rfl rfl ⟨rfl, k.2⟩ hR) ⟨zPre_blind, va_recv hK (zP_left hPc) hci hq0, z_pre hF hK hPc hDc hS hFc⟩ rfl hn hls rfl (lv_room hrm) hdg ⟨Nat.zero_le _, Nat.zero_le _⟩) hS (fun q _ h => hFc q h) hFc (fun u t H1 locs1 ht hvm hw hB hz1 hk1 hS1 => ?_)
  obtain ⟨h1, h2⟩ := z_backW hPc hDc hFc ht hB hk1 hp2
  exact kk H1 locs1 h1 h2 hS1
/-- static methods -/
theorem z_Si {y : MethodName} {cy : ByteArray} {ny fy Ly idx n : Nat} {rety : Option FieldType} {As rest st0 : List Value} {r : Int32} (C0 : zCx p s m args meth c cc nL ret own D G A) (k : zLkS own idx y cy ny rety n) (hM : zMi l y cy ny rety fy Ly D G wc wc' As r)
    (hp1 : ws.Perm (wc ++ wr)) (hp2 : (wc' ++ wr).Perm ws') (hn : As.length = n) (hR : fy + 1 ≤ R.frames ∧ 8 + (ny + 11) + Ly ≤ R.locals) (hrm : (rest.map fun v => v.category).sum ≤ 8) (hst : st0 = As.reverse ++ rest) (hls : ls.size = nL)
    (hP : va_P D vwCl ws H) (hD : va_D A ws) (hS : va_S A s.heap H locs) (hdg : decode cc pc = .ok (.invokestatic idx, 3))
    (kk : ∀ (H1 : Heap) (locs1 : List Loc), va_P D vwCl ws' H1 → va_D A ws' → va_S A s.heap H1 locs1 → W p l e R s m args below meth c H1 locs1 0 0 Q (F0 m (pc + 3) ls (.int r :: rest))) : W p l e R s m args below meth c H locs 0 0 Q (F0 m pc ls st0) := by
  obtain ⟨hx, hb, hml, hown, hW, hK, hlocks, hF, hr, hA⟩ := C0
  subst hst
  have hPc := zP_perm hp1 hP
  have hDc := zD_perm hp1 hD
  have hFc := z_free hDc hS hA
  refine va_calli (va_runS (As := As) (rest := rest) ⟨hx, hb, hml, hown, hW⟩ (hM H.size) (va_cwS n hW (z_goodS k) rfl rfl rfl k.2 hR) ⟨zPre_blind, z_pre hF hK hPc hDc hS hFc⟩ rfl hn hls rfl (lv_room hrm) hdg ⟨Nat.zero_le _, Nat.zero_le _⟩) hS (fun q _ h => hFc q h) hFc (fun x u t H1 locs1 ht hvm hw hB hz1 hk1 hS1 => ?_)
  obtain ⟨h1, h2⟩ := z_backW hPc hDc hFc ht hB hk1 hp2
  subst hw
  exact kk H1 locs1 h1 h2 hS1
theorem z_Sl {y : MethodName} {cy : ByteArray} {ny fy Ly idx n : Nat} {rety : Option FieldType} {As rest st0 : List Value} {r : Int64} (C0 : zCx p s m args meth c cc nL ret own D G A) (k : zLkS own idx y cy ny rety n) (hM : zMl l y cy ny rety fy Ly D G wc wc' As r)
    (hp1 : ws.Perm (wc ++ wr)) (hp2 : (wc' ++ wr).Perm ws') (hn : As.length = n) (hR : fy + 1 ≤ R.frames ∧ 8 + (ny + 11) + Ly ≤ R.locals) (hrm : (rest.map fun v => v.category).sum ≤ 8) (hst : st0 = As.reverse ++ rest) (hls : ls.size = nL)
    (hP : va_P D vwCl ws H) (hD : va_D A ws) (hS : va_S A s.heap H locs) (hdg : decode cc pc = .ok (.invokestatic idx, 3))
    (kk : ∀ (H1 : Heap) (locs1 : List Loc), va_P D vwCl ws' H1 → va_D A ws' → va_S A s.heap H1 locs1 → W p l e R s m args below meth c H1 locs1 0 0 Q (F0 m (pc + 3) ls (.long r :: rest))) : W p l e R s m args below meth c H locs 0 0 Q (F0 m pc ls st0) := by
  obtain ⟨hx, hb, hml, hown, hW, hK, hlocks, hF, hr, hA⟩ := C0
  subst hst
  have hPc := zP_perm hp1 hP
  have hDc := zD_perm hp1 hD
  have hFc := z_free hDc hS hA
  refine va_calll (va_runS (As := As) (rest := rest) ⟨hx, hb, hml, hown, hW⟩ (hM H.size) (va_cwS n hW (z_goodS k) rfl rfl rfl k.2 hR) ⟨zPre_blind, z_pre hF hK hPc hDc hS hFc⟩ rfl hn hls rfl (lv_room hrm) hdg ⟨Nat.zero_le _, Nat.zero_le _⟩) hS (fun q _ h => hFc q h) hFc (fun x u t H1 locs1 ht hvm hw hB hz1 hk1 hS1 => ?_)
  obtain ⟨h1, h2⟩ := z_backW hPc hDc hFc ht hB hk1 hp2
  subst hw
  exact kk H1 locs1 h1 h2 hS1
theorem z_Sv {y : MethodName} {cy : ByteArray} {ny fy Ly idx n : Nat} {rety : Option FieldType} {As rest st0 : List Value} (C0 : zCx p s m args meth c cc nL ret own D G A) (k : zLkS own idx y cy ny rety n) (hM : zMv l y cy ny rety fy Ly D G wc wc' As)
    (hp1 : ws.Perm (wc ++ wr)) (hp2 : (wc' ++ wr).Perm ws') (hn : As.length = n) (hR : fy + 1 ≤ R.frames ∧ 8 + (ny + 11) + Ly ≤ R.locals) (hrm : (rest.map fun v => v.category).sum ≤ 8) (hst : st0 = As.reverse ++ rest) (hls : ls.size = nL)
    (hP : va_P D vwCl ws H) (hD : va_D A ws) (hS : va_S A s.heap H locs) (hdg : decode cc pc = .ok (.invokestatic idx, 3))
    (kk : ∀ (H1 : Heap) (locs1 : List Loc), va_P D vwCl ws' H1 → va_D A ws' → va_S A s.heap H1 locs1 → W p l e R s m args below meth c H1 locs1 0 0 Q (F0 m (pc + 3) ls rest)) : W p l e R s m args below meth c H locs 0 0 Q (F0 m pc ls st0) := by
  obtain ⟨hx, hb, hml, hown, hW, hK, hlocks, hF, hr, hA⟩ := C0
  subst hst
  have hPc := zP_perm hp1 hP
  have hDc := zD_perm hp1 hD
  have hFc := z_free hDc hS hA
  refine va_callv (va_runS (As := As) (rest := rest) ⟨hx, hb, hml, hown, hW⟩ (hM H.size) (va_cwS n hW (z_goodS k) rfl rfl rfl k.2 hR) ⟨zPre_blind, z_pre hF hK hPc hDc hS hFc⟩ rfl hn hls rfl (lv_room hrm) hdg ⟨Nat.zero_le _, Nat.zero_le _⟩) hS (fun q _ h => hFc q h) hFc (fun u t H1 locs1 ht hvm hw hB hz1 hk1 hS1 => ?_)
  obtain ⟨h1, h2⟩ := z_backW hPc hDc hFc ht hB hk1 hp2
  exact kk H1 locs1 h1 h2 hS1
/-- a nest mate's private static method -/
theorem z_Ni {y : MethodName} {cy : ByteArray} {ny fy Ly idx n : Nat} {rety : Option FieldType} {As rest st0 : List Value} {r : Int32} (C0 : zCx p s m args meth c cc nL ret own D G A) (k : zLkN own idx y cy ny rety n) (hM : zMi l y cy ny rety fy Ly D G wc wc' As r)
    (hp1 : ws.Perm (wc ++ wr)) (hp2 : (wc' ++ wr).Perm ws') (hn : As.length = n) (hR : fy + 1 ≤ R.frames ∧ 8 + (ny + 11) + Ly ≤ R.locals) (hrm : (rest.map fun v => v.category).sum ≤ 8) (hst : st0 = As.reverse ++ rest) (hls : ls.size = nL)
    (hP : va_P D vwCl ws H) (hD : va_D A ws) (hS : va_S A s.heap H locs) (hdg : decode cc pc = .ok (.invokestatic idx, 3))
    (kk : ∀ (H1 : Heap) (locs1 : List Loc), va_P D vwCl ws' H1 → va_D A ws' → va_S A s.heap H1 locs1 → W p l e R s m args below meth c H1 locs1 0 0 Q (F0 m (pc + 3) ls (.int r :: rest))) : W p l e R s m args below meth c H locs 0 0 Q (F0 m pc ls st0) := by
  obtain ⟨hx, hb, hml, hown, hW, hK, hlocks, hF, hr, hA⟩ := C0
  subst hst
  have hPc := zP_perm hp1 hP
  have hDc := zD_perm hp1 hD
  have hFc := z_free hDc hS hA
  refine va_calli (va_runSN (As := As) (rest := rest) ⟨hx, hb, hml, hown, hW⟩ (hM H.size) ⟨va_cnB n hW (zW_sub k.1.2.2.2) rfl rfl rfl (hF.1 _ k.1.1) (hW _ k.1.2.2.1) k.2 hR, hW _ k.1.2.1, trivial⟩ ⟨zPre_blind, z_pre hF hK hPc hDc hS hFc⟩ rfl hn hls rfl (lv_room hrm) hdg ⟨Nat.zero_le _, Nat.zero_le _⟩) hS (fun q _ h => hFc q h) hFc (fun x u t H1 locs1 ht hvm hw hB hz1 hk1 hS1 => ?_)
  obtain ⟨h1, h2⟩ := z_backW hPc hDc hFc ht hB hk1 hp2
  subst hw
  exact kk H1 locs1 h1 h2 hS1
end ZR
theorem z_pmid {X wc Y : va_W} : (X ++ (wc ++ Y)).Perm (wc ++ (X ++ Y)) := by
  rw [← List.append_assoc, ← List.append_assoc]
  exact List.Perm.append_right Y List.perm_append_comm
