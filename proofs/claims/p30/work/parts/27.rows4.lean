/-! constructors -/
abbrev zRc (f L mc ms : Nat) : Room := { frames := f, cells := mc, slots := ms, locals := L }
def zQc {S : Type} (D : va_G) (G : zG) (ws : va_W) (ws' : S → va_W) (sz : Nat) : Array Value → State → Outcome → State → Prop := va_Qv (fun (_ : S) => True) (fun u t => zPost D G sz ws (ws' u) t) (va_A ws sz)
def zMc {S : Type} (l : Launch) (y : MethodName) (cc : ByteArray) (n f L mc ms : Nat) (D : va_G) (G : zG) (ws : va_W) (ws' : S → va_W) (av : List Value) : Prop := ∀ sz, Met l y (zW y cc n none) (zRc f L mc ms) (va_Pc av (zPre D G sz ws)) (zQc D G ws ws' sz) mc ms (va_A ws sz)
theorem zs_c {S : Type} {l : Launch} {y : MethodName} {cc : ByteArray} {n f L mc ms : Nat} {D : va_G} {G : zG} {ws : va_W} {ws' : S → va_W} {av : List Value} (hy : plainFor y = true) (hn : (lg_sl av).length ≤ n) (hyn : y.name = "<init>")
    (body : ∀ (p : Program) (e : Env) (s : State) (m : MethodId) (args : Array Value) (below : List Frame) (meth : Method) (c : Code) (A : Nat → Prop) (Q : State → Prop) (H : Heap) (ls : Array Slot), zCx p s m args meth c cc n none y.cls D G A → meth.name = "<init>" →
      (∀ (H : Heap) (locs : List Loc) (pc : Nat) (ls : Array Slot) (u : S), va_P D vwCl (ws' u) H → va_D A (ws' u) → va_S A s.heap H locs → decode cc pc = .ok (.return_, 1) → W p l e (zRc f L mc ms) s m args below meth c H locs mc ms Q (F0 m pc ls [])) →
      va_P D vwCl ws H → va_D A ws → va_S A s.heap H [] → lv_has ls n (lv_args 0 av) → W p l e (zRc f L mc ms) s m args below meth c H [] 0 0 Q (F0 m 0 ls [])) : zMc l y cc n f L mc ms D G ws ws' av := by
  intro sz
  refine z_ofWF (cc := cc) (maxL := n) (ret := none) hy rfl ?_
  intro p e s m args below meth c s₁ B hml hv
  obtain ⟨rfl, hsz, hP, hK, hD0, hF⟩ := hv
  subst hsz
  have hts := atoms_spec (ws := zW y cc n none) B.pre
  rw [lg_entry_eq]
  refine body p e s m av.toArray below meth c (va_A ws s.heap.size) _ s.heap _ ⟨B.exec, B.bytes, hml, findClass_of_methodNamed B.named, fun w h => hts w (List.mem_cons_of_mem _ h), hK, B.notSynchronized, hF, B.returns, fun q h => Or.inr h⟩ ((name_of_methodNamed B.named B.method).1.trans hyn) ?_ hP hD0.self va_S.rf (lv_entry av hn)
  intro H locs pc ls u hP hD hS hdg
  exact W.vret B.exec B.bytes B.returns (fun t ht hW => ⟨⟨u, rfl, trivial, by rw [ht]; exact hP, va_K.moved hW.alike hK, hD⟩, hS.F ht⟩) hS.2.2 hdg B.notSynchronized
section ZI
variable {p : Program} {l : Launch} {e : Env} {R : Room} {s : State} {m : MethodId} {args : Array Value} {below : List Frame} {meth : Method} {c : Code} {H : Heap} {locs : List Loc} {cells slots : Nat} {Q : State → Prop} {cc : ByteArray} {nL : Nat} {ret : Option FieldType} {own : String} {D : va_G} {G : zG} {A : Nat → Prop} {pc a : Nat} {ls : Array Slot} {rest : List Value} {ws wc wr : va_W} {H0 : Heap}
theorem z_RA {cA cB : ClassId} {ty : FieldType} (h : ∀ c, va_RA s c ty → s.vm.findClass ("[" ++ ty.toString) = some c) (h1 : va_RA s cA ty) (h2 : va_RA s cB ty) : cA = cB := Option.some.inj ((h _ h1).symm.trans (h _ h2))
theorem z_newa {atype : ArrayType} {ty : FieldType} {cG : ClassId} (t0 : Nat) (hexec : p.tables.exec = Jvm.exec) (hb : c.code = cc) (hW : ∀ w ∈ wsL_law, w.before args s = true) (hw : Cond.arrayClass (newarray.typeOf atype) ∈ wsL_law) (hty : newarray.typeOf atype = ty) (hT : (zTY G)[t0]? = some (cG, ty)) (hRA : ∀ c, va_RA s c ty → s.vm.findClass ("[" ++ ty.toString) = some c) (hK : va_K D vwCl (zTY G) s) (hP : va_P D vwCl ws H) (hD : va_D A ws) (hS : va_S A s.heap H locs) (hA : ∀ q, s.heap.size ≤ q → A q)
    {n : Int32} {N' : Nat} {a0 : vp_A} (ha : ∀ cA : ClassId, vp_cell cA a0 = arrV cA N' (fun _ => defaultValue ty)) (hn : ¬ n < 0) (hN : n.toNatClampNeg = N') (hbytes : N' * componentBytes ty ≤ 536870912) (hcells : cells + 1 ≤ R.cells) (hslots : slots + N' ≤ R.slots) (hdg : decode cc pc = .ok (.newarray atype, 2))
    (kk : ∀ (q : Nat) (H1 : Heap), va_P D vwCl (ws ++ [(q, .inl (cG, a0))]) H1 → va_D A (ws ++ [(q, .inl (cG, a0))]) → va_S A s.heap H1 locs → W p l e R s m args below meth c H1 locs (cells + 1) (slots + N') Q (F0 m (pc + 2) ls (.ref q :: rest))) : W p l e R s m args below meth c H locs cells slots Q (F0 m pc ls (.int n :: rest)) := by
  refine va_newa hexec hb (hW _ hw) hty hK hP hD hS hA ha hn hN hbytes hcells hslots hdg (fun q cA H1 hK1 hP1 hD1 hS1 => ?_)
  have e4 : (zTY G ++ [(cA, ty)])[4]? = some (cA, ty) := rfl
  have e : cA = cG := z_RA hRA (hK1.2 4 _ e4).2 (hK.2 t0 _ hT).2
  subst e
  exact kk q H1 hP1 hD1 hS1
theorem z_newq (hexec : p.tables.exec = Jvm.exec) (hb : c.code = cc) {own : String} {index : Nat} (hown : s.vm.findClass own = some m.cls) (hclink : (Cond.classLink own index "QuietChecks$Disk").before args s = true) (hover : va_AO "QuietChecks$Disk" s) (hK : va_K D vwCl (zTY G) s) (hP : va_P D vwCl ws H) (hD : va_D A ws) (hS : va_S A s.heap H locs) (hA : ∀ q, s.heap.size ≤ q → A q)
    {n : Int32} {N' : Nat} (hn : ¬ n < 0) (hN : n.toNatClampNeg = N') (hbytes : N' * 4 ≤ 536870912) (hcells : cells + 1 ≤ R.cells) (hslots : slots + N' ≤ R.slots) (hdg : decode cc pc = .ok (.anewarray index, 3))
    (kk : ∀ (q : Nat) (H1 : Heap), va_P D vwCl (ws ++ [(q, .inl (G.1.2.2.2, N', .inr (.inr (.inr (.inr (fun _ => none))))))]) H1 → va_D A (ws ++ [(q, .inl (G.1.2.2.2, N', .inr (.inr (.inr (.inr (fun _ => none))))))]) → va_S A s.heap H1 locs → W p l e R s m args below meth c H1 locs (cells + 1) (slots + N') Q (F0 m (pc + 3) ls (.ref q :: rest))) : W p l e R s m args below meth c H locs cells slots Q (F0 m pc ls (.int n :: rest)) := by
  refine va_newq hexec hb hown hclink hover hK hP hD hS hA hn hN hbytes hcells hslots hdg (fun q cA H1 hK1 hP1 hD1 hS1 => ?_)
  have e4 : (zTY G ++ [(cA, FieldType.object "QuietChecks$Disk")])[4]? = some (cA, .object "QuietChecks$Disk") := rfl
  have e3 : (zTY G)[3]? = some (G.1.2.2.2, .object "QuietChecks$Disk") := rfl
  have e : cA = G.1.2.2.2 := by
    obtain ⟨k1, c1, -, -, -, h1⟩ := (hK1.2 4 _ e4).2
    obtain ⟨k2, c2, -, -, -, h2⟩ := (hK.2 3 _ e3).2
    exact Option.some.inj (h1.symm.trans h2)
  subst e
  exact kk q H1 hP1 hD1 hS1
theorem z_ci {S : Type} {ws' : S → va_W} {wc' : S → va_W} {y : MethodName} {cy : ByteArray} {ny fy Ly mc ms idx n bq : Nat} {As st0 : List Value} (C0 : zCx p s m args meth c cc nL ret own D G A) (w1 : Cond.methodLink own idx y ∈ wsL_law) (w2 : Cond.instanceMethod y ∈ wsL_law) (w3 : Cond.initialized y.cls ∈ wsL_law) (w4 : Cond.code y cy ny none ∈ wsL_law) (hyn : y.name = "<init>") (hd : y.cls ≠ "java/lang/invoke/MethodHandle" ∧ y.cls ≠ "java/lang/invoke/VarHandle" ∧ (parseMethodDescriptor y.desc).map (fun d => d.parameters.length) = some n) (hM : zMc l y cy ny fy Ly mc ms D G wc wc' (.ref bq :: As))
    (hp1 : ws.Perm (wc ++ wr)) (hp2 : ∀ u, (wc' u ++ wr).Perm (ws' u)) (hn : As.length = n) (hR : fy + 1 ≤ R.frames ∧ 8 + (ny + 11) + Ly ≤ R.locals) (hrm : (rest.map fun v => v.category).sum ≤ 8) (hst : st0 = As.reverse ++ .ref bq :: rest) (hls : ls.size = nL) (hcs : cells + mc ≤ R.cells ∧ slots + ms ≤ R.slots)
    (hP : va_P D vwCl ws H) (hD : va_D A ws) (hS : va_S A s.heap H locs) (hdg : decode cc pc = .ok (.invokespecial idx, 3))
    (kk : ∀ (u : S) (H1 : Heap) (locs1 : List Loc), va_P D vwCl (ws' u) H1 → va_D A (ws' u) → va_S A s.heap H1 locs1 → W p l e R s m args below meth c H1 locs1 (cells + mc) (slots + ms) Q (F0 m (pc + 3) ls rest)) : W p l e R s m args below meth c H locs cells slots Q (F0 m pc ls st0) := by
  obtain ⟨hx, hb, hml, hown, hW, hK, hlocks, hF, hr, hA⟩ := C0
  subst hst
  have hPc := zP_perm hp1 hP
  have hDc := zD_perm hp1 hD
  have hFc := z_free hDc hS hA
  refine va_callv (va_runI (As := As) (rest := rest) ⟨hx, hb, hml, hown, hW⟩ (hM H.size) (cwI n hW (zW_sub w4) rfl rfl rfl (hW _ w3) (hW _ w1) (hW _ w2) hyn hd hR) ⟨zPre_blind, z_pre hF hK hPc hDc hS hFc⟩ rfl hn hls rfl (lv_room hrm) hdg hcs) hS (fun q _ h => hFc q h) hFc (fun u t H1 locs1 ht hvm hw hB hz1 hk1 hS1 => ?_)
  obtain ⟨h1, h2⟩ := z_backW hPc hDc hFc ht hB hk1 (hp2 u)
  exact kk u H1 locs1 h1 h2 hS1
theorem z_cn {S : Type} {ws' : S → va_W} {wc' : S → va_W} {y : MethodName} {cy : ByteArray} {ny fy Ly mc ms idx n bq : Nat} {As st0 : List Value} (C0 : zCx p s m args meth c cc nL ret own D G A) (w1 : Cond.methodLinkNest own idx y "QuietChecks" ∈ zNest) (w2 : Cond.instanceMethod y ∈ wsL_law) (w3 : Cond.initialized y.cls ∈ wsL_law) (w4 : Cond.code y cy ny none ∈ wsL_law) (hyn : y.name = "<init>") (hd : y.cls ≠ "java/lang/invoke/MethodHandle" ∧ y.cls ≠ "java/lang/invoke/VarHandle" ∧ (parseMethodDescriptor y.desc).map (fun d => d.parameters.length) = some n) (hM : zMc l y cy ny fy Ly mc ms D G wc wc' (.ref bq :: As))
    (hp1 : ws.Perm (wc ++ wr)) (hp2 : ∀ u, (wc' u ++ wr).Perm (ws' u)) (hn : As.length = n) (hR : fy + 1 ≤ R.frames ∧ 8 + (ny + 11) + Ly ≤ R.locals) (hrm : (rest.map fun v => v.category).sum ≤ 8) (hst : st0 = As.reverse ++ .ref bq :: rest) (hls : ls.size = nL) (hcs : cells + mc ≤ R.cells ∧ slots + ms ≤ R.slots)
    (hP : va_P D vwCl ws H) (hD : va_D A ws) (hS : va_S A s.heap H locs) (hdg : decode cc pc = .ok (.invokespecial idx, 3))
    (kk : ∀ (u : S) (H1 : Heap) (locs1 : List Loc), va_P D vwCl (ws' u) H1 → va_D A (ws' u) → va_S A s.heap H1 locs1 → W p l e R s m args below meth c H1 locs1 (cells + mc) (slots + ms) Q (F0 m (pc + 3) ls rest)) : W p l e R s m args below meth c H locs cells slots Q (F0 m pc ls st0) := by
  obtain ⟨hx, hb, hml, hown, hW, hK, hlocks, hF, hr, hA⟩ := C0
  subst hst
  have hPc := zP_perm hp1 hP
  have hDc := zD_perm hp1 hD
  have hFc := z_free hDc hS hA
  refine va_callv (va_runIN (As := As) (rest := rest) ⟨hx, hb, hml, hown, hW⟩ (hM H.size) ⟨va_cnB n hW (zW_sub w4) rfl rfl rfl (hF.1 _ w1) (hW _ w3) hd hR, hyn, hW _ w2⟩ ⟨zPre_blind, z_pre hF hK hPc hDc hS hFc⟩ rfl hn hls rfl (lv_room hrm) hdg hcs) hS (fun q _ h => hFc q h) hFc (fun u t H1 locs1 ht hvm hw hB hz1 hk1 hS1 => ?_)
  obtain ⟨h1, h2⟩ := z_backW hPc hDc hFc ht hB hk1 (hp2 u)
  exact kk u H1 locs1 h1 h2 hS1
theorem z_putq (hexec : p.tables.exec = Jvm.exec) (hb : c.code = cc) {own C : String} {T : u_T} {N ci index : Nat} {Ts : List Cond} {ws' : va_W} (hts : ∀ w ∈ Ts, w.before args s = true) (hin : ∀ w ∈ u_ws C T N, w ∈ Ts) (ty0 : Nat → FieldType) (hty : ∀ k, k < N → parseFieldDescriptor (T k).2.2.1 = some (ty0 k)) (hnm : ∀ a, a < N → ∀ b, b < N → a ≠ b → (T a).2.1 ≠ (T b).2.1) (hown : s.vm.findClass own = some m.cls) (hK : va_K D vwCl (zTY G) s) (hP : va_P D vwCl ws H) (hD : va_D A ws) (hS0 : va_S A H0 H locs) (q0 : Nat) {fs : List Value} (he : ws[q0]? = some (a, .inr (ci, fs))) (hc : vwCl[ci]? = some (C, T, N)) (k : Nat) (hk : k < N) (hlink : (Cond.fieldLink own index (T k).1 (T k).2.1 (T k).2.2.1).before args s = true) (hfin : (T k).2.2.2 = true) (hin2 : meth.name = "<init>") (hdecl : (T k).1 = own) {v : Nat} (hd : ∃ ty, parseFieldDescriptor (T k).2.2.1 = some ty ∧ narrow ty (.ref v) = .ref v ∧ fits ty (.ref v) = true) (hl : k < fs.length) (hws : ws.set q0 (a, .inr (ci, fs.set k (.ref v))) = ws')
    (hdg : decode cc pc = .ok (.putfield index, 3)) (kk : ∀ (H1 : Heap) (locs1 : List Loc), va_P D vwCl ws' H1 → va_D A ws' → va_S A H0 H1 locs1 → W p l e R s m args below meth c H1 locs1 cells slots Q (F0 m (pc + 3) ls rest)) : W p l e R s m args below meth c H locs cells slots Q (F0 m pc ls (.ref v :: .ref a :: rest)) := by
  subst hws
  obtain ⟨ty, h1, h2, h3⟩ := hd
  exact va_putF (ty := ty) hexec hb hts hin ty0 hty hnm hown hK hP hD hS0 q0 he hc k hk hlink (fun _ h9 => h9) hfin hin2 hdecl h1 h2 h3 hl hdg kk
end ZI
theorem z_dI (v : Nat) : ∃ ty, parseFieldDescriptor "[I" = some ty ∧ narrow ty (.ref v) = .ref v ∧ fits ty (.ref v) = true := ⟨.array .int, by decide +kernel, rfl, rfl⟩
theorem z_dC (v : Nat) : ∃ ty, parseFieldDescriptor "[C" = some ty ∧ narrow ty (.ref v) = .ref v ∧ fits ty (.ref v) = true := ⟨.array .char, by decide +kernel, rfl, rfl⟩
theorem z_dB (v : Nat) : ∃ ty, parseFieldDescriptor "[B" = some ty ∧ narrow ty (.ref v) = .ref v ∧ fits ty (.ref v) = true := ⟨.array .byte, by decide +kernel, rfl, rfl⟩
theorem z_dL (d : String) (C : String) (h : parseFieldDescriptor d = some (.object C)) (v : Nat) : ∃ ty, parseFieldDescriptor d = some ty ∧ narrow ty (.ref v) = .ref v ∧ fits ty (.ref v) = true := ⟨.object C, h, rfl, rfl⟩
theorem z_dA (d : String) (ty : FieldType) (h : parseFieldDescriptor d = some (.array ty)) (v : Nat) : ∃ ty, parseFieldDescriptor d = some ty ∧ narrow ty (.ref v) = .ref v ∧ fits ty (.ref v) = true := ⟨.array ty, h, rfl, rfl⟩
theorem z_arrq {cA : ClassId} {n : Nat} {f g : Nat → Option Nat} (h : ∀ j, j < n → f j = g j) : vp_cell cA (n, .inr (.inr (.inr (.inr f)))) = vp_cell cA (n, .inr (.inr (.inr (.inr g)))) := by
  show arrV cA n (fun j => va_rf (f j)) = arrV cA n (fun j => va_rf (g j))
  unfold arrV
  congr 2
  funext j
  show va_rf (f j.val) = va_rf (g j.val)
  rw [h j.val j.isLt]
section ZI2
variable {p : Program} {l : Launch} {e : Env} {R : Room} {s : State} {m : MethodId} {args : Array Value} {below : List Frame} {meth : Method} {c : Code} {H : Heap} {locs : List Loc} {cells slots : Nat} {Q : State → Prop} {cc : ByteArray} {D : va_G} {G : zG} {A : Nat → Prop} {pc a : Nat} {ls : Array Slot} {rest : List Value} {ws : va_W} {H0 : Heap}
theorem z_putr (hexec : p.tables.exec = Jvm.exec) (hb : c.code = cc) {own C : String} {T : u_T} {N ci index : Nat} {Ts : List Cond} {ws' : va_W} (hts : ∀ w ∈ Ts, w.before args s = true) (hin : ∀ w ∈ u_ws C T N, w ∈ Ts) (ty0 : Nat → FieldType) (hty : ∀ k, k < N → parseFieldDescriptor (T k).2.2.1 = some (ty0 k)) (hnm : ∀ a, a < N → ∀ b, b < N → a ≠ b → (T a).2.1 ≠ (T b).2.1) (hown : s.vm.findClass own = some m.cls) (hK : va_K D vwCl (zTY G) s) (hP : va_P D vwCl ws H) (hD : va_D A ws) (hS0 : va_S A H0 H locs) (q0 : Nat) {fs : List Value} (he : ws[q0]? = some (a, .inr (ci, fs))) (hc : vwCl[ci]? = some (C, T, N)) (k : Nat) (hk : k < N) (hlink : (Cond.fieldLink own index (T k).1 (T k).2.1 (T k).2.2.1).before args s = true) (hfin : (T k).2.2.2 = false) {v : Value} (hd : ∃ ty, parseFieldDescriptor (T k).2.2.1 = some ty ∧ narrow ty v = v ∧ fits ty v = true) (hl : k < fs.length) (hws : ws.set q0 (a, .inr (ci, fs.set k v)) = ws')
    (hdg : decode cc pc = .ok (.putfield index, 3)) (kk : ∀ (H1 : Heap) (locs1 : List Loc), va_P D vwCl ws' H1 → va_D A ws' → va_S A H0 H1 locs1 → W p l e R s m args below meth c H1 locs1 cells slots Q (F0 m (pc + 3) ls rest)) : W p l e R s m args below meth c H locs cells slots Q (F0 m pc ls (v :: .ref a :: rest)) := by
  subst hws
  obtain ⟨ty, h1, h2, h3⟩ := hd
  exact va_put (ty := ty) hexec hb hts hin ty0 hty hnm hown hK hP hD hS0 q0 he hc k hk hlink (fun _ h9 => h9) hfin h1 h2 h3 hl hdg kk
end ZI2
theorem z_dB0 : ∃ ty, parseFieldDescriptor "B" = some ty ∧ narrow ty (.int 0) = .int 0 ∧ fits ty (.int 0) = true := ⟨.byte, by decide +kernel, rfl, rfl⟩
theorem z_dDs (v : Nat) : ∃ ty, parseFieldDescriptor "[LQuietChecks$Disk;" = some ty ∧ narrow ty (.ref v) = .ref v ∧ fits ty (.ref v) = true := z_dA _ (.object "QuietChecks$Disk") (by decide +kernel) v
theorem z_dX5 (v : Nat) : ∃ ty, parseFieldDescriptor "LQuietChecks$Spots;" = some ty ∧ narrow ty (.ref v) = .ref v ∧ fits ty (.ref v) = true := z_dL _ "QuietChecks$Spots" (by decide +kernel) v
theorem z_dX0 (v : Nat) : ∃ ty, parseFieldDescriptor "LQuietChecks$Asked;" = some ty ∧ narrow ty (.ref v) = .ref v ∧ fits ty (.ref v) = true := z_dL _ "QuietChecks$Asked" (by decide +kernel) v
theorem z_dX3 (v : Nat) : ∃ ty, parseFieldDescriptor "LQuietChecks$Log;" = some ty ∧ narrow ty (.ref v) = .ref v ∧ fits ty (.ref v) = true := z_dL _ "QuietChecks$Log" (by decide +kernel) v
theorem z_dX1 (v : Nat) : ∃ ty, parseFieldDescriptor "LQuietChecks$Disk;" = some ty ∧ narrow ty (.ref v) = .ref v ∧ fits ty (.ref v) = true := z_dL _ "QuietChecks$Disk" (by decide +kernel) v
theorem z_dX2 (v : Nat) : ∃ ty, parseFieldDescriptor "LQuietChecks$History;" = some ty ∧ narrow ty (.ref v) = .ref v ∧ fits ty (.ref v) = true := z_dL _ "QuietChecks$History" (by decide +kernel) v
theorem z_dX4 (v : Nat) : ∃ ty, parseFieldDescriptor "LQuietChecks$Plan;" = some ty ∧ narrow ty (.ref v) = .ref v ∧ fits ty (.ref v) = true := z_dL _ "QuietChecks$Plan" (by decide +kernel) v
theorem z_dJ4 (v : Nat) : ∃ ty, parseFieldDescriptor "Ljava/lang/StringBuilder;" = some ty ∧ narrow ty (.ref v) = .ref v ∧ fits ty (.ref v) = true := z_dL _ "java/lang/StringBuilder" (by decide +kernel) v
theorem z_pap {X Y : va_W} : (X ++ Y).Perm (Y ++ X) := List.perm_append_comm
def iX5 : tX5 := (fun _ => 0, fun _ => 0, 0)
def iX0 : tX0 := (fun _ => 0, 0)
def iX3 : tX3 := (fun _ => 0, fun _ => 0, fun _ => 0, 0, 0)
def iX1 : tX1 := (va_cpy zFirstI (fun _ => 0) 0 0 5, fun _ => 0, iX5, iX0, iX3, 0, 6, 0, 0, -6, 0, 0, 0, 0, 0, 0, 0)
def iX4 : tX4 := (fun _ => 0, 0, 0, fun _ => 0, fun _ => 0, fun _ => 0, 0, 0)
def iJ4 : tJ4 := (fun _ => 0, 0, 0, 0)
