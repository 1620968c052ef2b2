/-! rows with their new worlds named; starts with the return as a hypothesis -/
theorem z_pall {ws : va_W} : ws.Perm (ws ++ []) := by rw [List.append_nil]
theorem z_pcomp {ws w1 r w2 r1 : va_W} (h : ws.Perm (w1 ++ r)) (k : w1.Perm (w2 ++ r1)) : ws.Perm (w2 ++ (r1 ++ r)) := by
  rw [← List.append_assoc]
  exact h.trans (List.Perm.append_right r k)
theorem z_pcompb {ws w1 r w2 r1 : va_W} (h : (w1 ++ r).Perm ws) (k : (w2 ++ r1).Perm w1) : (w2 ++ (r1 ++ r)).Perm ws := by
  rw [← List.append_assoc]
  exact (List.Perm.append_right r k).trans h
theorem z_by {c : Prop} [Decidable c] {X : Prop} (h1 : c → X) (h2 : ¬ c → X) : X := if h : c then h1 h else h2 h
theorem z_nb {v : Int32} (h : v = 0 ∨ v = 1) : narrow .boolean (.int v) = .int v := by rcases h with rfl | rfl <;> rfl
theorem z_nc {v : Int32} (h : 0 ≤ v ∧ v < 65536) : narrow .char (.int v) = .int v := by
  obtain ⟨j, hj, rfl⟩ := nI_of (x := v) (Int32.not_lt.mpr h.1)
  have h2 : j < 65536 := (nI_ltI hj (by decide)).mp (show nI j < nI 65536 from h.2)
  exact (pk_charN h2).1
def zm {α β γ : Type} (f : α → Option γ) (g : β → Option γ) (o : α ⊕ β) : Option γ := match o with
  | .inl a => f a
  | .inr b => g b
theorem zm_l {α β γ : Type} {f : α → Option γ} {g : β → Option γ} {a : α} {r : γ} (h : zm f g (.inl a) = some r) : f a = some r := h
theorem zm_r {α β γ : Type} {f : α → Option γ} {g : β → Option γ} {b : β} {r : γ} (h : zm f g (.inr b) = some r) : g b = some r := h
section ZR2
variable {p : Program} {l : Launch} {e : Env} {R : Room} {s : State} {m : MethodId} {args : Array Value} {below : List Frame} {meth : Method} {c : Code} {H : Heap} {locs : List Loc} {cells slots : Nat} {Q : State → Prop} {cc : ByteArray} {D : va_G} {A : Nat → Prop} {pc a : Nat} {ls : Array Slot} {rest : List Value} {ws ws' : va_W} {tys : List (ClassId × FieldType)} {H0 : Heap} {cl : List vw_C}
theorem z_top {x v : Int32} (ev : v = x) (kk : W p l e R s m args below meth c H locs cells slots Q (F0 m pc ls (.int v :: rest))) : W p l e R s m args below meth c H locs cells slots Q (F0 m pc ls (.int x :: rest)) := by
  subst ev
  exact kk
theorem z_iald (hexec : p.tables.exec = Jvm.exec) (hb : c.code = cc) (hK : va_K D cl tys s) (hP : va_P D cl ws H) (q0 t0 : Nat) {cA : ClassId} {n : Nat} {f : Nat → Int32} (ha : ws[q0]? = some (a, .inl (cA, n, .inl f))) (ht : tys[t0]? = some (cA, .int)) {i v : Int32} (hin : vp_in i n) (ev : v = f i.toNatClampNeg) (hdg : decode cc pc = .ok (.iaload, 1))
    (kk : W p l e R s m args below meth c H locs cells slots Q (F0 m (pc + 1) ls (.int v :: rest))) : W p l e R s m args below meth c H locs cells slots Q (F0 m pc ls (.int i :: .ref a :: rest)) := by
  subst ev
  exact va_iald hexec hb hK hP q0 t0 ha ht hin hdg kk
theorem z_cald (hexec : p.tables.exec = Jvm.exec) (hb : c.code = cc) (hK : va_K D cl tys s) (hP : va_P D cl ws H) (q0 t0 : Nat) {cA : ClassId} {n : Nat} {f : Nat → Int32} (ha : ws[q0]? = some (a, .inl (cA, n, .inl f))) (ht : tys[t0]? = some (cA, .char)) {i v : Int32} (hin : vp_in i n) (ev : v = f i.toNatClampNeg) (hdg : decode cc pc = .ok (.caload, 1))
    (kk : W p l e R s m args below meth c H locs cells slots Q (F0 m (pc + 1) ls (.int v :: rest))) : W p l e R s m args below meth c H locs cells slots Q (F0 m pc ls (.int i :: .ref a :: rest)) := by
  subst ev
  exact va_cald hexec hb hK hP q0 t0 ha ht hin hdg kk
theorem z_bald (hexec : p.tables.exec = Jvm.exec) (hb : c.code = cc) (hK : va_K D cl tys s) (hP : va_P D cl ws H) (q0 t0 : Nat) {cA : ClassId} {n : Nat} {f : Nat → Int32} (ha : ws[q0]? = some (a, .inl (cA, n, .inl f))) (ht : tys[t0]? = some (cA, .byte)) {i v : Int32} (hin : vp_in i n) (ev : v = f i.toNatClampNeg) (hdg : decode cc pc = .ok (.baload, 1))
    (kk : W p l e R s m args below meth c H locs cells slots Q (F0 m (pc + 1) ls (.int v :: rest))) : W p l e R s m args below meth c H locs cells slots Q (F0 m pc ls (.int i :: .ref a :: rest)) := by
  subst ev
  exact va_bald hexec hb hK hP q0 t0 ha ht hin hdg kk
theorem z_iast (hexec : p.tables.exec = Jvm.exec) (hb : c.code = cc) (hK : va_K D cl tys s) (hP : va_P D cl ws H) (hD : va_D A ws) (hS : va_S A H0 H locs) (q0 t0 : Nat) {cA : ClassId} {n : Nat} {f g : Nat → Int32} (ha : ws[q0]? = some (a, .inl (cA, n, .inl f))) (ht : tys[t0]? = some (cA, .int)) {i x : Int32} (hin : vp_in i n) (ev : g = upd f i.toNatClampNeg x) (hws : ws.set q0 (a, .inl (cA, n, .inl g)) = ws') (hdg : decode cc pc = .ok (.iastore, 1))
    (kk : ∀ (H1 : Heap) (locs1 : List Loc), va_P D cl ws' H1 → va_D A ws' → va_S A H0 H1 locs1 → W p l e R s m args below meth c H1 locs1 cells slots Q (F0 m (pc + 1) ls rest)) : W p l e R s m args below meth c H locs cells slots Q (F0 m pc ls (.int x :: .int i :: .ref a :: rest)) := by
  subst hws; subst ev
  exact va_iast hexec hb hK hP hD hS q0 t0 ha ht hin hdg kk
theorem z_cast (hexec : p.tables.exec = Jvm.exec) (hb : c.code = cc) (hK : va_K D cl tys s) (hP : va_P D cl ws H) (hD : va_D A ws) (hS : va_S A H0 H locs) (q0 t0 : Nat) {cA : ClassId} {n : Nat} {f g : Nat → Int32} (ha : ws[q0]? = some (a, .inl (cA, n, .inl f))) (ht : tys[t0]? = some (cA, .char)) {i x : Int32} (hin : vp_in i n) (ev : g = upd f i.toNatClampNeg (vp_nar .char x)) (hws : ws.set q0 (a, .inl (cA, n, .inl g)) = ws') (hdg : decode cc pc = .ok (.castore, 1))
    (kk : ∀ (H1 : Heap) (locs1 : List Loc), va_P D cl ws' H1 → va_D A ws' → va_S A H0 H1 locs1 → W p l e R s m args below meth c H1 locs1 cells slots Q (F0 m (pc + 1) ls rest)) : W p l e R s m args below meth c H locs cells slots Q (F0 m pc ls (.int x :: .int i :: .ref a :: rest)) := by
  subst hws; subst ev
  exact va_cast hexec hb hK hP hD hS q0 t0 ha ht hin hdg kk
theorem z_parseI : parseFieldDescriptor "I" = some .int := by decide +kernel
theorem z_put (hexec : p.tables.exec = Jvm.exec) (hb : c.code = cc) {own C : String} {T : u_T} {N ci index : Nat} {Ts : List Cond} (hts : ∀ w ∈ Ts, w.before args s = true) (hin : ∀ w ∈ u_ws C T N, w ∈ Ts) (ty0 : Nat → FieldType) (hty : ∀ k, k < N → parseFieldDescriptor (T k).2.2.1 = some (ty0 k)) (hnm : ∀ a, a < N → ∀ b, b < N → a ≠ b → (T a).2.1 ≠ (T b).2.1) (hown : s.vm.findClass own = some m.cls) (hK : va_K D cl tys s) (hP : va_P D cl ws H) (hD : va_D A ws) (hS0 : va_S A H0 H locs) (q0 : Nat) {fs : List Value} (he : ws[q0]? = some (a, .inr (ci, fs))) (hc : cl[ci]? = some (C, T, N)) (k : Nat) (hk : k < N) (hlink : (Cond.fieldLink own index (T k).1 (T k).2.1 (T k).2.2.1).before args s = true) (hfin : (T k).2.2.2 = false) {v : Int32} (hd : (T k).2.2.1 = "I") (hl : k < fs.length) (hws : ws.set q0 (a, .inr (ci, fs.set k (.int v))) = ws')
    (hdg : decode cc pc = .ok (.putfield index, 3)) (kk : ∀ (H1 : Heap) (locs1 : List Loc), va_P D cl ws' H1 → va_D A ws' → va_S A H0 H1 locs1 → W p l e R s m args below meth c H1 locs1 cells slots Q (F0 m (pc + 3) ls rest)) : W p l e R s m args below meth c H locs cells slots Q (F0 m pc ls (.int v :: .ref a :: rest)) := by
  subst hws
  exact va_put (ty := .int) hexec hb hts hin ty0 hty hnm hown hK hP hD hS0 q0 he hc k hk hlink (fun _ h9 => h9) hfin (by rw [hd]; exact z_parseI) rfl rfl hl hdg kk
theorem z_putN (hexec : p.tables.exec = Jvm.exec) (hb : c.code = cc) {own C host : String} {T : u_T} {N ci index : Nat} {Ts : List Cond} (hts : ∀ w ∈ Ts, w.before args s = true) (hin : ∀ w ∈ u_ws C T N, w ∈ Ts) (ty0 : Nat → FieldType) (hty : ∀ k, k < N → parseFieldDescriptor (T k).2.2.1 = some (ty0 k)) (hnm : ∀ a, a < N → ∀ b, b < N → a ≠ b → (T a).2.1 ≠ (T b).2.1) (hown : s.vm.findClass own = some m.cls) (hK : va_K D cl tys s) (hP : va_P D cl ws H) (hD : va_D A ws) (hS0 : va_S A H0 H locs) (q0 : Nat) {fs : List Value} (he : ws[q0]? = some (a, .inr (ci, fs))) (hc : cl[ci]? = some (C, T, N)) (k : Nat) (hk : k < N) (hlink : (Cond.fieldLinkNest own index (T k).1 (T k).2.1 (T k).2.2.1 host).before args s = true) (hfin : (T k).2.2.2 = false) {v : Int32} (hd : (T k).2.2.1 = "I") (hl : k < fs.length) (hws : ws.set q0 (a, .inr (ci, fs.set k (.int v))) = ws')
    (hdg : decode cc pc = .ok (.putfield index, 3)) (kk : ∀ (H1 : Heap) (locs1 : List Loc), va_P D cl ws' H1 → va_D A ws' → va_S A H0 H1 locs1 → W p l e R s m args below meth c H1 locs1 cells slots Q (F0 m (pc + 3) ls rest)) : W p l e R s m args below meth c H locs cells slots Q (F0 m pc ls (.int v :: .ref a :: rest)) := by
  subst hws
  exact va_putN (ty := .int) hexec hb hts hin ty0 hty hnm hown hK hP hD hS0 q0 he hc k hk hlink (fun _ h9 => h9) hfin (by rw [hd]; exact z_parseI) rfl rfl hl hdg kk
end ZR2
theorem zs_i {l : Launch} {y : MethodName} {cc : ByteArray} {n f L : Nat} {D : va_G} {G : zG} {ws ws' : va_W} {av : List Value} {r : Int32} (hy : plainFor y = true) (hn : (lg_sl av).length ≤ n)
    (body : ∀ (p : Program) (e : Env) (s : State) (m : MethodId) (args : Array Value) (below : List Frame) (meth : Method) (c : Code) (A : Nat → Prop) (Q : State → Prop) (H : Heap) (ls : Array Slot), zCx p s m args meth c cc n (some .int) y.cls D G A →
      (∀ (H : Heap) (locs : List Loc) (pc : Nat) (ls : Array Slot) (v : Int32), va_P D vwCl ws' H → va_D A ws' → va_S A s.heap H locs → v = r → decode cc pc = .ok (.ireturn, 1) → W p l e (zRm f L) s m args below meth c H locs 0 0 Q (F0 m pc ls [.int v])) →
      va_P D vwCl ws H → va_D A ws → va_S A s.heap H [] → lv_has ls n (lv_args 0 av) → W p l e (zRm f L) s m args below meth c H [] 0 0 Q (F0 m 0 ls [])) : zMi l y cc n (some .int) f L D G ws ws' av r :=
  z_start hy hn (fun p e s m below meth c H ls C0 hP hD hS hl => body p e s m av.toArray below meth c _ _ H ls C0 (fun H locs pc ls v h1 h2 h3 h4 h5 => z_iret C0 h1 h2 h3 h4 h5) hP hD hS hl)
theorem zs_z {l : Launch} {y : MethodName} {cc : ByteArray} {n f L : Nat} {D : va_G} {G : zG} {ws ws' : va_W} {av : List Value} {r : Int32} {ty : FieldType} (hy : plainFor y = true) (hn : (lg_sl av).length ≤ n)
    (body : ∀ (p : Program) (e : Env) (s : State) (m : MethodId) (args : Array Value) (below : List Frame) (meth : Method) (c : Code) (A : Nat → Prop) (Q : State → Prop) (H : Heap) (ls : Array Slot), zCx p s m args meth c cc n (some ty) y.cls D G A →
      (∀ (H : Heap) (locs : List Loc) (pc : Nat) (ls : Array Slot) (v : Int32), va_P D vwCl ws' H → va_D A ws' → va_S A s.heap H locs → v = r → narrow ty (.int v) = .int v → decode cc pc = .ok (.ireturn, 1) → W p l e (zRm f L) s m args below meth c H locs 0 0 Q (F0 m pc ls [.int v])) →
      va_P D vwCl ws H → va_D A ws → va_S A s.heap H [] → lv_has ls n (lv_args 0 av) → W p l e (zRm f L) s m args below meth c H [] 0 0 Q (F0 m 0 ls [])) : zMi l y cc n (some ty) f L D G ws ws' av r :=
  z_start hy hn (fun p e s m below meth c H ls C0 hP hD hS hl => body p e s m av.toArray below meth c _ _ H ls C0 (fun H locs pc ls v h1 h2 h3 h4 h6 h5 => z_zret C0 h6 h1 h2 h3 h4 h5) hP hD hS hl)
theorem zs_l {l : Launch} {y : MethodName} {cc : ByteArray} {n f L : Nat} {D : va_G} {G : zG} {ws ws' : va_W} {av : List Value} {r : Int64} (hy : plainFor y = true) (hn : (lg_sl av).length ≤ n)
    (body : ∀ (p : Program) (e : Env) (s : State) (m : MethodId) (args : Array Value) (below : List Frame) (meth : Method) (c : Code) (A : Nat → Prop) (Q : State → Prop) (H : Heap) (ls : Array Slot), zCx p s m args meth c cc n (some .long) y.cls D G A →
      (∀ (H : Heap) (locs : List Loc) (pc : Nat) (ls : Array Slot) (v : Int64), va_P D vwCl ws' H → va_D A ws' → va_S A s.heap H locs → v = r → decode cc pc = .ok (.lreturn, 1) → W p l e (zRm f L) s m args below meth c H locs 0 0 Q (F0 m pc ls [.long v])) →
      va_P D vwCl ws H → va_D A ws → va_S A s.heap H [] → lv_has ls n (lv_args 0 av) → W p l e (zRm f L) s m args below meth c H [] 0 0 Q (F0 m 0 ls [])) : zMl l y cc n (some .long) f L D G ws ws' av r :=
  z_start hy hn (fun p e s m below meth c H ls C0 hP hD hS hl => body p e s m av.toArray below meth c _ _ H ls C0 (fun H locs pc ls v h1 h2 h3 h4 h5 => z_lret C0 h1 h2 h3 h4 h5) hP hD hS hl)
theorem zs_v {l : Launch} {y : MethodName} {cc : ByteArray} {n f L : Nat} {D : va_G} {G : zG} {ws ws' : va_W} {av : List Value} (hy : plainFor y = true) (hn : (lg_sl av).length ≤ n)
    (body : ∀ (p : Program) (e : Env) (s : State) (m : MethodId) (args : Array Value) (below : List Frame) (meth : Method) (c : Code) (A : Nat → Prop) (Q : State → Prop) (H : Heap) (ls : Array Slot), zCx p s m args meth c cc n none y.cls D G A →
      (∀ (H : Heap) (locs : List Loc) (pc : Nat) (ls : Array Slot), va_P D vwCl ws' H → va_D A ws' → va_S A s.heap H locs → decode cc pc = .ok (.return_, 1) → W p l e (zRm f L) s m args below meth c H locs 0 0 Q (F0 m pc ls [])) →
      va_P D vwCl ws H → va_D A ws → va_S A s.heap H [] → lv_has ls n (lv_args 0 av) → W p l e (zRm f L) s m args below meth c H [] 0 0 Q (F0 m 0 ls [])) : zMv l y cc n none f L D G ws ws' av :=
  z_start hy hn (fun p e s m below meth c H ls C0 hP hD hS hl => body p e s m av.toArray below meth c _ _ H ls C0 (fun H locs pc ls h1 h2 h3 h5 => z_vret C0 h1 h2 h3 h5) hP hD hS hl)
theorem z_in {i : Int32} {n : Nat} (h : (!(decide (i < 0) || decide (n ≤ i.toNatClampNeg))) = true) : vp_in i n := by
  simp only [Bool.not_eq_true', Bool.or_eq_false_iff, decide_eq_false_iff_not] at h
  exact fun q => q.elim h.1 h.2
