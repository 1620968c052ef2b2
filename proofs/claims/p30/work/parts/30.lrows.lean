/-! the law: call rows at any count of cells; methods that make cells and give them up -/
section ZLR
variable {p : Program} {l : Launch} {e : Env} {R : Room} {s : State} {m : MethodId} {args : Array Value} {below : List Frame} {meth : Method} {c : Code} {H : Heap} {locs : List Loc} {Q : State → Prop} {cc : ByteArray} {nL : Nat} {ret : Option FieldType} {own : String} {D : va_G} {G : zG} {A : Nat → Prop} {pc cells slots : Nat} {ls : Array Slot} {ws wc wc' wr ws' : va_W}
theorem z_GVi {y : MethodName} {cy : ByteArray} {ny fy Ly idx ci n bq N : Nat} {rety : Option FieldType} {As rest st0 fs : List Value} {T : u_T} {r : Int32} (C0 : zCx p s m args meth c cc nL ret own D G A) (k : zLkV own idx y cy ny rety n) (hM : zMi l y cy ny rety fy Ly D G wc wc' (.ref bq :: As) r)
    (hp1 : ws.Perm (wc ++ wr)) (hp2 : (wc' ++ wr).Perm ws') (hq0 : wc[0]? = some (bq, .inr (ci, fs))) (hci : vwCl[ci]? = some (y.cls, T, N)) (hn : As.length = n) (hR : fy + 1 ≤ R.frames ∧ 8 + (ny + 11) + Ly ≤ R.locals) (hrm : (rest.map fun v => v.category).sum ≤ 8) (hcs : cells + 0 ≤ R.cells ∧ slots + 0 ≤ R.slots) (hst : st0 = As.reverse ++ .ref bq :: rest) (hls : ls.size = nL)
    (hP : va_P D vwCl ws H) (hD : va_D A ws) (hS : va_S A s.heap H locs) (hdg : decode cc pc = .ok (.invokevirtual idx, 3))
    (kk : ∀ (H1 : Heap) (locs1 : List Loc), va_P D vwCl ws' H1 → va_D A ws' → va_S A s.heap H1 locs1 → W p l e R s m args below meth c H1 locs1 cells slots Q (F0 m (pc + 3) ls (.int r :: rest))) : W p l e R s m args below meth c H locs cells slots Q (F0 m pc ls st0) := by
  obtain ⟨hx, hb, hml, hown, hW, hK, hlocks, hF, hr, hA⟩ := C0
  subst hst
  have hPc := zP_perm hp1 hP
  have hDc := zD_perm hp1 hD
  have hFc := z_free hDc hS hA
  refine va_calli (va_runV (As := As) (rest := rest) ⟨hx, hb, hml, hown, hW⟩ (hM H.size) (cwV n hW (z_goodV k) rfl rfl rfl ⟨rfl, k.2⟩ hR) ⟨zPre_blind, va_recv hK (zP_left hPc) hci hq0, z_pre hF hK hPc hDc hS hFc⟩ rfl hn hls rfl (lv_room hrm) hdg hcs) hS (fun q _ h => hFc q h) hFc (fun x u t H1 locs1 ht hvm hw hB hz1 hk1 hS1 => ?_)
  obtain ⟨h1, h2⟩ := z_backW hPc hDc hFc ht hB hk1 hp2
  subst hw
  exact kk H1 locs1 h1 h2 hS1
theorem z_GSi {y : MethodName} {cy : ByteArray} {ny fy Ly idx n : Nat} {rety : Option FieldType} {As rest st0 : List Value} {r : Int32} (C0 : zCx p s m args meth c cc nL ret own D G A) (k : zLkS own idx y cy ny rety n) (hM : zMi l y cy ny rety fy Ly D G wc wc' As r)
    (hp1 : ws.Perm (wc ++ wr)) (hp2 : (wc' ++ wr).Perm ws') (hn : As.length = n) (hR : fy + 1 ≤ R.frames ∧ 8 + (ny + 11) + Ly ≤ R.locals) (hrm : (rest.map fun v => v.category).sum ≤ 8) (hcs : cells + 0 ≤ R.cells ∧ slots + 0 ≤ R.slots) (hst : st0 = As.reverse ++ rest) (hls : ls.size = nL)
    (hP : va_P D vwCl ws H) (hD : va_D A ws) (hS : va_S A s.heap H locs) (hdg : decode cc pc = .ok (.invokestatic idx, 3))
    (kk : ∀ (H1 : Heap) (locs1 : List Loc), va_P D vwCl ws' H1 → va_D A ws' → va_S A s.heap H1 locs1 → W p l e R s m args below meth c H1 locs1 cells slots Q (F0 m (pc + 3) ls (.int r :: rest))) : W p l e R s m args below meth c H locs cells slots Q (F0 m pc ls st0) := by
  obtain ⟨hx, hb, hml, hown, hW, hK, hlocks, hF, hr, hA⟩ := C0
  subst hst
  have hPc := zP_perm hp1 hP
  have hDc := zD_perm hp1 hD
  have hFc := z_free hDc hS hA
  refine va_calli (va_runS (As := As) (rest := rest) ⟨hx, hb, hml, hown, hW⟩ (hM H.size) (va_cwS n hW (z_goodS k) rfl rfl rfl k.2 hR) ⟨zPre_blind, z_pre hF hK hPc hDc hS hFc⟩ rfl hn hls rfl (lv_room hrm) hdg hcs) hS (fun q _ h => hFc q h) hFc (fun x u t H1 locs1 ht hvm hw hB hz1 hk1 hS1 => ?_)
  obtain ⟨h1, h2⟩ := z_backW hPc hDc hFc ht hB hk1 hp2
  subst hw
  exact kk H1 locs1 h1 h2 hS1
theorem z_GSv {y : MethodName} {cy : ByteArray} {ny fy Ly idx n : Nat} {rety : Option FieldType} {As rest st0 : List Value} (C0 : zCx p s m args meth c cc nL ret own D G A) (k : zLkS own idx y cy ny rety n) (hM : zMv l y cy ny rety fy Ly D G wc wc' As)
    (hp1 : ws.Perm (wc ++ wr)) (hp2 : (wc' ++ wr).Perm ws') (hn : As.length = n) (hR : fy + 1 ≤ R.frames ∧ 8 + (ny + 11) + Ly ≤ R.locals) (hrm : (rest.map fun v => v.category).sum ≤ 8) (hcs : cells + 0 ≤ R.cells ∧ slots + 0 ≤ R.slots) (hst : st0 = As.reverse ++ rest) (hls : ls.size = nL)
    (hP : va_P D vwCl ws H) (hD : va_D A ws) (hS : va_S A s.heap H locs) (hdg : decode cc pc = .ok (.invokestatic idx, 3))
    (kk : ∀ (H1 : Heap) (locs1 : List Loc), va_P D vwCl ws' H1 → va_D A ws' → va_S A s.heap H1 locs1 → W p l e R s m args below meth c H1 locs1 cells slots Q (F0 m (pc + 3) ls rest)) : W p l e R s m args below meth c H locs cells slots Q (F0 m pc ls st0) := by
  obtain ⟨hx, hb, hml, hown, hW, hK, hlocks, hF, hr, hA⟩ := C0
  subst hst
  have hPc := zP_perm hp1 hP
  have hDc := zD_perm hp1 hD
  have hFc := z_free hDc hS hA
  refine va_callv (va_runS (As := As) (rest := rest) ⟨hx, hb, hml, hown, hW⟩ (hM H.size) (va_cwS n hW (z_goodS k) rfl rfl rfl k.2 hR) ⟨zPre_blind, z_pre hF hK hPc hDc hS hFc⟩ rfl hn hls rfl (lv_room hrm) hdg hcs) hS (fun q _ h => hFc q h) hFc (fun u t H1 locs1 ht hvm hw hB hz1 hk1 hS1 => ?_)
  obtain ⟨h1, h2⟩ := z_backW hPc hDc hFc ht hB hk1 hp2
  exact kk H1 locs1 h1 h2 hS1
end ZLR
def zMk (l : Launch) (y : MethodName) (cc : ByteArray) (n : Nat) (ret : Option FieldType) (f L mc ms : Nat) (D : va_G) (G : zG) (ws ws' : va_W) (av : List Value) (r : Int32) : Prop := ∀ sz, Met l y (zW y cc n ret) (zRc f L mc ms) (va_Pc av (zPre D G sz ws)) (zQi D G ws ws' r sz) mc ms (va_A ws sz)
theorem zs_k {l : Launch} {y : MethodName} {cc : ByteArray} {n f L mc ms : Nat} {D : va_G} {G : zG} {ws ws' : va_W} {av : List Value} {r : Int32} {ty : FieldType} (hy : plainFor y = true) (hn : (lg_sl av).length ≤ n)
    (body : ∀ (p : Program) (e : Env) (s : State) (m : MethodId) (args : Array Value) (below : List Frame) (meth : Method) (c : Code) (A : Nat → Prop) (Q : State → Prop) (H : Heap) (ls : Array Slot), zCx p s m args meth c cc n (some ty) y.cls D G A →
      (∀ (H : Heap) (locs : List Loc) (pc : Nat) (ls : Array Slot) (v : Int32) (cells slots : Nat), cells ≤ mc → slots ≤ ms → va_P D vwCl ws' H → va_D A ws' → va_S A s.heap H locs → v = r → narrow ty (.int v) = .int v → decode cc pc = .ok (.ireturn, 1) → W p l e (zRc f L mc ms) s m args below meth c H locs cells slots Q (F0 m pc ls [.int v])) →
      va_P D vwCl ws H → va_D A ws → va_S A s.heap H [] → lv_has ls n (lv_args 0 av) → W p l e (zRc f L mc ms) s m args below meth c H [] 0 0 Q (F0 m 0 ls [])) : zMk l y cc n (some ty) f L mc ms D G ws ws' av r := by
  intro sz
  refine z_ofWF (cc := cc) (maxL := n) (ret := some ty) hy rfl ?_
  intro p e s m args below meth c s₁ B hml hv
  obtain ⟨rfl, hsz, hP, hK, hD0, hF⟩ := hv
  subst hsz
  have hts := atoms_spec (ws := zW y cc n (some ty)) B.pre
  rw [lg_entry_eq]
  refine body p e s m av.toArray below meth c (va_A ws s.heap.size) _ s.heap _ ⟨B.exec, B.bytes, hml, findClass_of_methodNamed B.named, fun w h => hts w (List.mem_cons_of_mem _ h), hK, B.notSynchronized, hF, B.returns, fun q h => Or.inr h⟩ ?_ hP hD0.self va_S.rf (lv_entry av hn)
  intro H locs pc ls v cells slots hc hs hP hD hS hv hnr hdg
  refine W.widen hc hs ?_
  exact W.zret (v := v) B.exec B.bytes B.returns hnr (fun t ht hW => ⟨⟨v, (), rfl, hv, by rw [ht]; exact hP, va_K.moved hW.alike hK, hD⟩, hS.F ht⟩) hS.2.2 hdg B.notSynchronized
section ZLK
variable {p : Program} {l : Launch} {e : Env} {R : Room} {s : State} {m : MethodId} {args : Array Value} {below : List Frame} {meth : Method} {c : Code} {H : Heap} {locs : List Loc} {cells slots : Nat} {Q : State → Prop} {cc : ByteArray} {nL : Nat} {ret : Option FieldType} {own : String} {D : va_G} {G : zG} {A : Nat → Prop} {pc : Nat} {ls : Array Slot} {ws wc wc' wr ws' : va_W}
theorem z_GK {y : MethodName} {cy : ByteArray} {ny fy Ly mc ms idx n : Nat} {rety : Option FieldType} {As rest st0 : List Value} {r : Int32} (C0 : zCx p s m args meth c cc nL ret own D G A) (k : zLkS own idx y cy ny rety n) (hM : zMk l y cy ny rety fy Ly mc ms D G wc wc' As r)
    (hp1 : ws.Perm (wc ++ wr)) (hp2 : (wc' ++ wr).Perm ws') (hn : As.length = n) (hR : fy + 1 ≤ R.frames ∧ 8 + (ny + 11) + Ly ≤ R.locals) (hrm : (rest.map fun v => v.category).sum ≤ 8) (hcs : cells + mc ≤ R.cells ∧ slots + ms ≤ R.slots) (hst : st0 = As.reverse ++ rest) (hls : ls.size = nL)
    (hP : va_P D vwCl ws H) (hD : va_D A ws) (hS : va_S A s.heap H locs) (hdg : decode cc pc = .ok (.invokestatic idx, 3))
    (kk : ∀ (H1 : Heap) (locs1 : List Loc), va_P D vwCl ws' H1 → va_D A ws' → va_S A s.heap H1 locs1 → W p l e R s m args below meth c H1 locs1 (cells + mc) (slots + ms) Q (F0 m (pc + 3) ls (.int r :: rest))) : W p l e R s m args below meth c H locs cells slots Q (F0 m pc ls st0) := by
  obtain ⟨hx, hb, hml, hown, hW, hK, hlocks, hF, hr, hA⟩ := C0
  subst hst
  have hPc := zP_perm hp1 hP
  have hDc := zD_perm hp1 hD
  have hFc := z_free hDc hS hA
  refine va_calli (va_runS (As := As) (rest := rest) ⟨hx, hb, hml, hown, hW⟩ (hM H.size) (va_cwS n hW (z_goodS k) rfl rfl rfl k.2 hR) ⟨zPre_blind, z_pre hF hK hPc hDc hS hFc⟩ rfl hn hls rfl (lv_room hrm) hdg hcs) hS (fun q _ h => hFc q h) hFc (fun x u t H1 locs1 ht hvm hw hB hz1 hk1 hS1 => ?_)
  obtain ⟨h1, h2⟩ := z_backW hPc hDc hFc ht hB hk1 hp2
  subst hw
  exact kk H1 locs1 h1 h2 hS1
/-- cell: it reads the script, which lies outside the cells of the world -/
def zPreS (D : va_G) (G : zG) (sz b L : Nat) (xs : Nat → Int32) (U : State) : Prop := zPre D G sz [] U ∧ va_X b L xs U U.heap ∧ b < sz
theorem zPreS_blind {D : va_G} {G : zG} {sz b L : Nat} {xs : Nat → Int32} {av : List Value} : FrameBlind (va_Pc av (zPreS D G sz b L xs)) := fun a U g mk q => by
  obtain ⟨q0, q1, q2, q3⟩ := q
  exact ⟨q0, (zPre_blind a U g mk ⟨q0, q1⟩).2, va_X.moved (u := U) (U := U.calling g mk a) (Vm.Alike.refl U.vm) q2, q3⟩
def qcell (L : Nat) (xs : Nat → Int32) (k : Int32) : Int32 := if Int32.ofNat L ≤ k then 1000308051 * (k + 1) + 784918177 else xs k.toNatClampNeg
def zMs (l : Launch) (y : MethodName) (cc : ByteArray) (n : Nat) (ret : Option FieldType) (f Lo : Nat) (D : va_G) (G : zG) (b L : Nat) (xs : Nat → Int32) (av : List Value) (r : Int32) : Prop := ∀ sz, Met l y (zW y cc n ret) (zRm f Lo) (va_Pc av (zPreS D G sz b L xs)) (zQi D G [] [] r sz) 0 0 (va_A [] sz)
end ZLK
theorem pz_4_0_3 {w0 w1 w2 w3 : va_W} : (w0 ++ w1 ++ w2 ++ w3).Perm ((w0 ++ w3) ++ (w1 ++ w2)) := by
  have h := z_x6 (w := fun k => match k with | 0 => w0 | 1 => w1 | 2 => w2 | _ => w3) (l1 := [0, 1, 2, 3]) (l2 := [0, 3, 1, 2]) (by decide)
  simp only [List.map_cons, List.map_nil, List.flatten_cons, List.flatten_nil, List.append_nil] at h
  simp only [List.append_assoc, List.append_nil] at h ⊢
  exact h
theorem pz_5_0_4 {w0 w1 w2 w3 w4 : va_W} : (w0 ++ w1 ++ w2 ++ w3 ++ w4).Perm ((w0 ++ w4) ++ (w1 ++ w2 ++ w3)) := by
  have h := z_x6 (w := fun k => match k with | 0 => w0 | 1 => w1 | 2 => w2 | 3 => w3 | _ => w4) (l1 := [0, 1, 2, 3, 4]) (l2 := [0, 4, 1, 2, 3]) (by decide)
  simp only [List.map_cons, List.map_nil, List.flatten_cons, List.flatten_nil, List.append_nil] at h
  simp only [List.append_assoc, List.append_nil] at h ⊢
  exact h
theorem pz_5_0_1_2_3 {w0 w1 w2 w3 w4 : va_W} : (w0 ++ w1 ++ w2 ++ w3 ++ w4).Perm ((w0 ++ w1 ++ w2 ++ w3) ++ (w4)) := by
  have h := z_x6 (w := fun k => match k with | 0 => w0 | 1 => w1 | 2 => w2 | 3 => w3 | _ => w4) (l1 := [0, 1, 2, 3, 4]) (l2 := [0, 1, 2, 3, 4]) (by decide)
  simp only [List.map_cons, List.map_nil, List.flatten_cons, List.flatten_nil, List.append_nil] at h
  simp only [List.append_assoc, List.append_nil] at h ⊢
  exact h
theorem pz_5_0_3 {w0 w1 w2 w3 w4 : va_W} : (w0 ++ w1 ++ w2 ++ w3 ++ w4).Perm ((w0 ++ w3) ++ (w1 ++ w2 ++ w4)) := by
  have h := z_x6 (w := fun k => match k with | 0 => w0 | 1 => w1 | 2 => w2 | 3 => w3 | _ => w4) (l1 := [0, 1, 2, 3, 4]) (l2 := [0, 3, 1, 2, 4]) (by decide)
  simp only [List.map_cons, List.map_nil, List.flatten_cons, List.flatten_nil, List.append_nil] at h
  simp only [List.append_assoc, List.append_nil] at h ⊢
  exact h
theorem pz_5_0_2 {w0 w1 w2 w3 w4 : va_W} : (w0 ++ w1 ++ w2 ++ w3 ++ w4).Perm ((w0 ++ w2) ++ (w1 ++ w3 ++ w4)) := by
  have h := z_x6 (w := fun k => match k with | 0 => w0 | 1 => w1 | 2 => w2 | 3 => w3 | _ => w4) (l1 := [0, 1, 2, 3, 4]) (l2 := [0, 2, 1, 3, 4]) (by decide)
  simp only [List.map_cons, List.map_nil, List.flatten_cons, List.flatten_nil, List.append_nil] at h
  simp only [List.append_assoc, List.append_nil] at h ⊢
  exact h
theorem pz_9_4_5 {w0 w1 w2 w3 w4 w5 w6 w7 w8 : va_W} : (w0 ++ w1 ++ w2 ++ w3 ++ w4 ++ w5 ++ w6 ++ w7 ++ w8).Perm ((w4 ++ w5) ++ (w0 ++ w1 ++ w2 ++ w3 ++ w6 ++ w7 ++ w8)) := by
  have h := z_x6 (w := fun k => match k with | 0 => w0 | 1 => w1 | 2 => w2 | 3 => w3 | 4 => w4 | 5 => w5 | 6 => w6 | 7 => w7 | _ => w8) (l1 := [0, 1, 2, 3, 4, 5, 6, 7, 8]) (l2 := [4, 5, 0, 1, 2, 3, 6, 7, 8]) (by decide)
  simp only [List.map_cons, List.map_nil, List.flatten_cons, List.flatten_nil, List.append_nil] at h
  simp only [List.append_assoc, List.append_nil] at h ⊢
  exact h
theorem pz_9_4_5_6_7_8 {w0 w1 w2 w3 w4 w5 w6 w7 w8 : va_W} : (w0 ++ w1 ++ w2 ++ w3 ++ w4 ++ w5 ++ w6 ++ w7 ++ w8).Perm ((w4 ++ w5 ++ w6 ++ w7 ++ w8) ++ (w0 ++ w1 ++ w2 ++ w3)) := by
  have h := z_x6 (w := fun k => match k with | 0 => w0 | 1 => w1 | 2 => w2 | 3 => w3 | 4 => w4 | 5 => w5 | 6 => w6 | 7 => w7 | _ => w8) (l1 := [0, 1, 2, 3, 4, 5, 6, 7, 8]) (l2 := [4, 5, 6, 7, 8, 0, 1, 2, 3]) (by decide)
  simp only [List.map_cons, List.map_nil, List.flatten_cons, List.flatten_nil, List.append_nil] at h
  simp only [List.append_assoc, List.append_nil] at h ⊢
  exact h
theorem pz_6_5 {w0 w1 w2 w3 w4 w5 : va_W} : (w0 ++ w1 ++ w2 ++ w3 ++ w4 ++ w5).Perm ((w5) ++ (w0 ++ w1 ++ w2 ++ w3 ++ w4)) := by
  have h := z_x6 (w := fun k => match k with | 0 => w0 | 1 => w1 | 2 => w2 | 3 => w3 | 4 => w4 | _ => w5) (l1 := [0, 1, 2, 3, 4, 5]) (l2 := [5, 0, 1, 2, 3, 4]) (by decide)
  simp only [List.map_cons, List.map_nil, List.flatten_cons, List.flatten_nil, List.append_nil] at h
  simp only [List.append_assoc, List.append_nil] at h ⊢
  exact h
theorem pz_6_0_1 {w0 w1 w2 w3 w4 w5 : va_W} : (w0 ++ w1 ++ w2 ++ w3 ++ w4 ++ w5).Perm ((w0 ++ w1) ++ (w2 ++ w3 ++ w4 ++ w5)) := by
  have h := z_x6 (w := fun k => match k with | 0 => w0 | 1 => w1 | 2 => w2 | 3 => w3 | 4 => w4 | _ => w5) (l1 := [0, 1, 2, 3, 4, 5]) (l2 := [0, 1, 2, 3, 4, 5]) (by decide)
  simp only [List.map_cons, List.map_nil, List.flatten_cons, List.flatten_nil, List.append_nil] at h
  simp only [List.append_assoc, List.append_nil] at h ⊢
  exact h
theorem pz_6_0_1_2_3 {w0 w1 w2 w3 w4 w5 : va_W} : (w0 ++ w1 ++ w2 ++ w3 ++ w4 ++ w5).Perm ((w0 ++ w1 ++ w2 ++ w3) ++ (w4 ++ w5)) := by
  have h := z_x6 (w := fun k => match k with | 0 => w0 | 1 => w1 | 2 => w2 | 3 => w3 | 4 => w4 | _ => w5) (l1 := [0, 1, 2, 3, 4, 5]) (l2 := [0, 1, 2, 3, 4, 5]) (by decide)
  simp only [List.map_cons, List.map_nil, List.flatten_cons, List.flatten_nil, List.append_nil] at h
  simp only [List.append_assoc, List.append_nil] at h ⊢
  exact h
theorem pz_6_0_3 {w0 w1 w2 w3 w4 w5 : va_W} : (w0 ++ w1 ++ w2 ++ w3 ++ w4 ++ w5).Perm ((w0 ++ w3) ++ (w1 ++ w2 ++ w4 ++ w5)) := by
  have h := z_x6 (w := fun k => match k with | 0 => w0 | 1 => w1 | 2 => w2 | 3 => w3 | 4 => w4 | _ => w5) (l1 := [0, 1, 2, 3, 4, 5]) (l2 := [0, 3, 1, 2, 4, 5]) (by decide)
  simp only [List.map_cons, List.map_nil, List.flatten_cons, List.flatten_nil, List.append_nil] at h
  simp only [List.append_assoc, List.append_nil] at h ⊢
  exact h
theorem pz_6_0_2 {w0 w1 w2 w3 w4 w5 : va_W} : (w0 ++ w1 ++ w2 ++ w3 ++ w4 ++ w5).Perm ((w0 ++ w2) ++ (w1 ++ w3 ++ w4 ++ w5)) := by
  have h := z_x6 (w := fun k => match k with | 0 => w0 | 1 => w1 | 2 => w2 | 3 => w3 | 4 => w4 | _ => w5) (l1 := [0, 1, 2, 3, 4, 5]) (l2 := [0, 2, 1, 3, 4, 5]) (by decide)
  simp only [List.map_cons, List.map_nil, List.flatten_cons, List.flatten_nil, List.append_nil] at h
  simp only [List.append_assoc, List.append_nil] at h ⊢
  exact h
theorem pz_6_0_1_2_3_4 {w0 w1 w2 w3 w4 w5 : va_W} : (w0 ++ w1 ++ w2 ++ w3 ++ w4 ++ w5).Perm ((w0 ++ w1 ++ w2 ++ w3 ++ w4) ++ (w5)) := by
  have h := z_x6 (w := fun k => match k with | 0 => w0 | 1 => w1 | 2 => w2 | 3 => w3 | 4 => w4 | _ => w5) (l1 := [0, 1, 2, 3, 4, 5]) (l2 := [0, 1, 2, 3, 4, 5]) (by decide)
  simp only [List.map_cons, List.map_nil, List.flatten_cons, List.flatten_nil, List.append_nil] at h
  simp only [List.append_assoc, List.append_nil] at h ⊢
  exact h
theorem pz_6_0_4 {w0 w1 w2 w3 w4 w5 : va_W} : (w0 ++ w1 ++ w2 ++ w3 ++ w4 ++ w5).Perm ((w0 ++ w4) ++ (w1 ++ w2 ++ w3 ++ w5)) := by
  have h := z_x6 (w := fun k => match k with | 0 => w0 | 1 => w1 | 2 => w2 | 3 => w3 | 4 => w4 | _ => w5) (l1 := [0, 1, 2, 3, 4, 5]) (l2 := [0, 4, 1, 2, 3, 5]) (by decide)
  simp only [List.map_cons, List.map_nil, List.flatten_cons, List.flatten_nil, List.append_nil] at h
  simp only [List.append_assoc, List.append_nil] at h ⊢
  exact h
