/-! OWN BASE: combinators of the mirrored functions, the contract's form, call rows -/
def zb {α β : Type} (x : Option α) (K : α → Option β) : Option β := x.bind K
theorem zb_s {α β : Type} {x : Option α} {K : α → Option β} {r : β} (h : zb x K = some r) : ∃ p, x = some p ∧ K p = some r := by
  cases x with
  | none => cases h
  | some p => exact ⟨p, rfl, h⟩
def zn {α β : Type} (x : α) (K : α → Option β) : Option β := K x
theorem zn_s {α β : Type} {x : α} {K : α → Option β} {r : β} (h : zn x K = some r) : ∃ y, y = x ∧ K y = some r := ⟨x, rfl, h⟩
def zg {β : Type} (n : Nat) (f : Nat → Int32) (i : Int32) (K : Int32 → Option β) : Option β := if i < 0 ∨ n ≤ i.toNatClampNeg then none else K (f i.toNatClampNeg)
theorem zg_s {β : Type} {n : Nat} {f : Nat → Int32} {i : Int32} {K : Int32 → Option β} {r : β} (h : zg n f i K = some r) : vp_in i n ∧ ∃ v, v = f i.toNatClampNeg ∧ K v = some r := by
  unfold zg at h
  by_cases c : i < 0 ∨ n ≤ i.toNatClampNeg
  · rw [if_pos c] at h; cases h
  · rw [if_neg c] at h; exact ⟨c, _, rfl, h⟩
def zs {β : Type} (n : Nat) (f : Nat → Int32) (i x : Int32) (K : (Nat → Int32) → Option β) : Option β := if i < 0 ∨ n ≤ i.toNatClampNeg then none else K (upd f i.toNatClampNeg x)
theorem zs_s {β : Type} {n : Nat} {f : Nat → Int32} {i x : Int32} {K : (Nat → Int32) → Option β} {r : β} (h : zs n f i x K = some r) : vp_in i n ∧ ∃ v, v = upd f i.toNatClampNeg x ∧ K v = some r := by
  unfold zs at h
  by_cases c : i < 0 ∨ n ≤ i.toNatClampNeg
  · rw [if_pos c] at h; cases h
  · rw [if_neg c] at h; exact ⟨c, _, rfl, h⟩
def zq {β : Type} (c : Prop) [Decidable c] (K : Option β) : Option β := if c then K else none
theorem zq_s {β : Type} {c : Prop} [Decidable c] {K : Option β} {r : β} (h : zq c K = some r) : c ∧ K = some r := by
  unfold zq at h
  by_cases hc : c
  · rw [if_pos hc] at h; exact ⟨hc, h⟩
  · rw [if_neg hc] at h; cases h
theorem zi_p {β : Type} {c : Prop} [Decidable c] {A B : Option β} {r : β} (h : (if c then A else B) = some r) (hc : c) : A = some r := by rw [if_pos hc] at h; exact h
theorem zi_n {β : Type} {c : Prop} [Decidable c] {A B : Option β} {r : β} (h : (if c then A else B) = some r) (hc : ¬ c) : B = some r := by rw [if_neg hc] at h; exact h
theorem zo {β : Type} {a r : β} (h : some a = some r) : r = a := (Option.some.inj h).symm
def zk {α β : Type} (f : α → Option β) (o : α ⊕ β) : Option β := match o with
  | .inl a => f a
  | .inr b => some b
def zl {α β : Type} : Nat → (α → Option (α ⊕ β)) → α → Option β
  | 0, _, _ => none
  | n + 1, B, a => zb (B a) (zk (zl n B))
theorem zl_0 {α β : Type} {B : α → Option (α ⊕ β)} {a : α} {r : β} (h : zl 0 B a = some r) : False := by cases h
theorem zl_s {α β : Type} {n : Nat} {B : α → Option (α ⊕ β)} {a : α} {r : β} (h : zl (n + 1) B a = some r) : ∃ o, B a = some o ∧ zk (zl n B) o = some r := zb_s h
theorem zk_l {α β : Type} {f : α → Option β} {a : α} {r : β} {o : α ⊕ β} (ho : some (Sum.inl a) = some o) (h : zk f o = some r) : f a = some r := by cases ho; exact h
theorem zk_r {α β : Type} {f : α → Option β} {b r : β} {o : α ⊕ β} (ho : some (Sum.inr b) = some o) (h : zk f o = some r) : r = b := by cases ho; exact (Option.some.inj h).symm
def zcmp (x y : Int64) : Int32 := lg_cmp x y
/-- class ids: int[], char[], byte[], Disk[]; static arrays: lowest, highest, first setting; DigitOnes, DigitTens; Strings and their bytes -/
abbrev zG : Type := (ClassId × ClassId × ClassId × ClassId) × (Nat × Nat × Nat) × (Nat × Nat) × (Nat → Nat) × (Nat → Nat)
abbrev zTY (G : zG) : List (ClassId × FieldType) := [(G.1.1, .int), (G.1.2.1, .char), (G.1.2.2.1, .byte), (G.1.2.2.2, .object "QuietChecks$Disk")]
def zW (y : MethodName) (cc : ByteArray) (n : Nat) (ret : Option FieldType) : List Cond := .code y cc n ret :: wsL_law
theorem zW_good : ∀ w ∈ wsL_law, (w.onTables && w.keeps) = true ∨ ∃ ty, w = .arrayClass ty := fun w h => good_of_word (List.all_eq_true.mp (by decide +kernel : wsL_law.all goodWord = true) w h)
def zNest : List Cond := [
  .methodLinkNest "QuietChecks$Disk" 20 ⟨"QuietChecks$Spots", "<init>", "()V"⟩ "QuietChecks", .methodLinkNest "QuietChecks$Disk" 27 ⟨"QuietChecks$Asked", "<init>", "()V"⟩ "QuietChecks",
  .methodLinkNest "QuietChecks$Disk" 34 ⟨"QuietChecks$Log", "<init>", "()V"⟩ "QuietChecks", .methodLinkNest "QuietChecks" 28 ⟨"QuietChecks$Plan", "<init>", "()V"⟩ "QuietChecks",
  .methodLinkNest "QuietChecks$Disk" 95 ⟨"QuietChecks", "isSetting", "(I)Z"⟩ "QuietChecks", .methodLinkNest "QuietChecks$Disk" 105 ⟨"QuietChecks", "isSpan", "(I)Z"⟩ "QuietChecks",
  .fieldLinkNest "QuietChecks$Disk" 182 "QuietChecks$Spots" "spans" "[I" "QuietChecks", .fieldLinkNest "QuietChecks$Disk" 183 "QuietChecks$Spots" "tries" "[I" "QuietChecks",
  .fieldLinkNest "QuietChecks$Disk" 181 "QuietChecks$Spots" "size" "I" "QuietChecks", .fieldLinkNest "QuietChecks$Disk" 157 "QuietChecks$Asked" "spans" "[I" "QuietChecks",
  .fieldLinkNest "QuietChecks$Disk" 121 "QuietChecks$Asked" "size" "I" "QuietChecks", .fieldLinkNest "QuietChecks" 107 "QuietChecks$Log" "size" "I" "QuietChecks",
  .fieldLinkNest "QuietChecks$Disk" 76 "QuietChecks" "FIRST_SETTING" "[I" "QuietChecks", .fieldLinkNest "QuietChecks" 84 "QuietChecks$Disk" "settings" "[I" "QuietChecks",
  .fieldLinkNest "QuietChecks" 94 "QuietChecks$Disk" "spots" "LQuietChecks$Spots;" "QuietChecks", .fieldLinkNest "QuietChecks" 103 "QuietChecks$Disk" "log" "LQuietChecks$Log;" "QuietChecks",
  .fieldLinkNest "QuietChecks" 148 "QuietChecks$Disk" "way" "I" "QuietChecks", 
   
   .fieldLinkNest "QuietChecks$Disk" 99 "QuietChecks" "LOWEST_SETTING" "[I" "QuietChecks",
  .fieldLinkNest "QuietChecks$Disk" 102 "QuietChecks" "HIGHEST_SETTING" "[I" "QuietChecks"]
def zIsNest : Cond → Bool
  | .fieldLinkNest .. => true
  | .methodLinkNest .. => true
  | _ => false
theorem zNest_warm {w : Cond} (hn : zIsNest w = true) {s U : State} (hW : s.WarmedH U.vm) (h : va_Nw w s) : va_Nw w U := by
  cases w <;> first | exact va_Nw.warmF hW h | exact va_Nw.warmM hW h | cases hn
theorem zNest_same {w : Cond} (hn : zIsNest w = true) {u U : State} (hv : u.vm = U.vm) (h : va_Nw w u) : va_Nw w U := by
  cases w <;> first | exact va_Nw.same rfl hv h | cases hn
/-- the Strings of the class: owner, entry, text, bytes -/
def zStr : List (String × Nat × String × List Int32) := [
  ("QuietChecks", 233, "begins", [98, 101, 103, 105, 110, 115]), ("QuietChecks", 235, "pauses", [112, 97, 117, 115, 101, 115]), ("QuietChecks", 237, "ends", [101, 110, 100, 115]),
  ("QuietChecks", 239, "replaced", [114, 101, 112, 108, 97, 99, 101, 100]), ("QuietChecks", 241, "stays", [115, 116, 97, 121, 115]), ("QuietChecks", 243, "slow", [115, 108, 111, 119])]
def zStrB (k : Nat) : List Int32 := ((zStr[k]?).map (fun q => q.2.2.2)).getD []
def zLow (k : Nat) : Value := .int (([0, 1, 1, 2, 50] : List Int32).getD k 0)
def zHigh (k : Nat) : Value := .int (([50, 40, 9, 9, 2000] : List Int32).getD k 0)
def zFirst (k : Nat) : Value := .int (([5, 10, 3, 5, 400] : List Int32).getD k 0)
def zOnes (k : Nat) : Value := .int (nI (48 + k % 10))
def zTens (k : Nat) : Value := .int (nI (48 + k / 10))
/-- what holds of the machine's own tables, statics and String constants, apart from the cells in A -/
def zF (G : zG) (A : Nat → Prop) (U : State) (H : Heap) : Prop :=
  (∀ w ∈ zNest, va_Nw w U) ∧
  (va_Z "QuietChecks" "LOWEST_SETTING" "[I" (.ref G.2.1.1) A U H ∧ va_T .int G.2.1.1 5 zLow A U H) ∧
  (va_Z "QuietChecks" "HIGHEST_SETTING" "[I" (.ref G.2.1.2.1) A U H ∧ va_T .int G.2.1.2.1 5 zHigh A U H) ∧
  (va_Z "QuietChecks" "FIRST_SETTING" "[I" (.ref G.2.1.2.2) A U H ∧ va_T .int G.2.1.2.2 5 zFirst A U H) ∧
  (va_Z "java/lang/Integer" "DigitOnes" "[B" (.ref G.2.2.1.1) A U H ∧ va_T .byte G.2.2.1.1 100 zOnes A U H) ∧
  (va_Z "java/lang/Integer" "DigitTens" "[B" (.ref G.2.2.1.2) A U H ∧ va_T .byte G.2.2.1.2 100 zTens A U H) ∧
  va_Z "java/lang/String" "COMPACT_STRINGS" "Z" (.int 1) A U H ∧
  va_Zq "jdk/internal/util/Preconditions" "SIOOBE_FORMATTER" "Ljava/util/function/BiFunction;" A U H ∧
  vk_S 6 (zStr.map (fun q => q.2.2.2.length)) (zStr.map (fun q => q.2.2.2)) G.2.2.2.1 G.2.2.2.2 A U H ∧
  (∀ (k : Nat) (q : String × Nat × String × List Int32), zStr[k]? = some q → vk_R q.1 q.2.1 q.2.2.1 (G.2.2.2.1 k) U) ∧
  va_AO "QuietChecks$Disk" U
theorem va_Zq.moved' {C n d : String} {A : Nat → Prop} {u U : State} {H : Heap} (hvm : u.vm.Alike U.vm) (h : va_Zq C n d A u H) : va_Zq C n d A U H := h.elim (fun h => Or.inl (h.moved hvm)) (fun ⟨t, h⟩ => Or.inr ⟨t, h.moved hvm⟩)
theorem va_Zq.kept' {C n d : String} {A : Nat → Prop} {U : State} {H H1 : Heap} (h : va_Zq C n d A U H) (hq : ∀ a : Nat, a < H.size → ¬ A a → H1[a]? = H[a]?) : va_Zq C n d A U H1 := h.elim (fun h => Or.inl (h.kept hq)) (fun ⟨t, h⟩ => Or.inr ⟨t, h.kept hq⟩)
theorem va_Zq.narrow' {C n d : String} {A B : Nat → Prop} {U : State} {H : Heap} (h : va_Zq C n d A U H) (hAB : ∀ q, B q → A q) : va_Zq C n d B U H := h.elim (fun h => Or.inl (h.narrow hAB)) (fun ⟨t, h⟩ => Or.inr ⟨t, h.narrow hAB⟩)
theorem zF_kept {G : zG} {A : Nat → Prop} {U : State} {H H1 : Heap} (h : zF G A U H) (hq : ∀ a : Nat, a < H.size → ¬ A a → H1[a]? = H[a]?) : zF G A U H1 := by
  obtain ⟨h1, ⟨a1, a2⟩, ⟨b1, b2⟩, ⟨c1, c2⟩, ⟨d1, d2⟩, ⟨e1, e2⟩, h7, h8, h9, h10, h11⟩ := h
  exact ⟨h1, ⟨a1.kept hq, a2.kept hq⟩, ⟨b1.kept hq, b2.kept hq⟩, ⟨c1.kept hq, c2.kept hq⟩, ⟨d1.kept hq, d2.kept hq⟩, ⟨e1.kept hq, e2.kept hq⟩, h7.kept hq, h8.kept' hq, h9.kept hq, h10, h11⟩
theorem zF_narrow {G : zG} {A B : Nat → Prop} {U : State} {H : Heap} (h : zF G A U H) (hq : ∀ q, B q → A q) : zF G B U H := by
  obtain ⟨h1, ⟨a1, a2⟩, ⟨b1, b2⟩, ⟨c1, c2⟩, ⟨d1, d2⟩, ⟨e1, e2⟩, h7, h8, h9, h10, h11⟩ := h
  exact ⟨h1, ⟨a1.narrow hq, a2.narrow hq⟩, ⟨b1.narrow hq, b2.narrow hq⟩, ⟨c1.narrow hq, c2.narrow hq⟩, ⟨d1.narrow hq, d2.narrow hq⟩, ⟨e1.narrow hq, e2.narrow hq⟩, h7.narrow hq, h8.narrow' hq, h9.narrow hq, h10, h11⟩
theorem zNest_all : ∀ w ∈ zNest, zIsNest w = true := by decide +kernel
theorem zF_warm {G : zG} {A : Nat → Prop} {s U : State} {H : Heap} (hW : s.WarmedH U.vm) (h : zF G A s H) : zF G A U H := by
  obtain ⟨h1, ⟨a1, a2⟩, ⟨b1, b2⟩, ⟨c1, c2⟩, ⟨d1, d2⟩, ⟨e1, e2⟩, h7, h8, h9, h10, h11⟩ := h
  have hq := hW.alike
  exact ⟨fun w hw => zNest_warm (zNest_all w hw) hW (h1 w hw), ⟨a1.moved hq, a2.moved hq⟩, ⟨b1.moved hq, b2.moved hq⟩, ⟨c1.moved hq, c2.moved hq⟩, ⟨d1.moved hq, d2.moved hq⟩, ⟨e1.moved hq, e2.moved hq⟩, h7.moved hq, h8.moved' hq, h9.moved hq, fun k q hk => (h10 k q hk).warm hW, h11.moved hq⟩
theorem zF_same {G : zG} {A : Nat → Prop} {u U : State} {H : Heap} (hv : U.vm = u.vm) (h : zF G A u H) : zF G A U H := by
  obtain ⟨h1, ⟨a1, a2⟩, ⟨b1, b2⟩, ⟨c1, c2⟩, ⟨d1, d2⟩, ⟨e1, e2⟩, h7, h8, h9, h10, h11⟩ := h
  have hq : u.vm.Alike U.vm := by rw [hv]; exact Vm.Alike.refl u.vm
  exact ⟨fun w hw => zNest_same (zNest_all w hw) hv.symm (h1 w hw), ⟨a1.moved hq, a2.moved hq⟩, ⟨b1.moved hq, b2.moved hq⟩, ⟨c1.moved hq, c2.moved hq⟩, ⟨d1.moved hq, d2.moved hq⟩, ⟨e1.moved hq, e2.moved hq⟩, h7.moved hq, h8.moved' hq, h9.moved hq, fun k q hk => (h10 k q hk).same hv, h11.moved hq⟩
/-- permutations of worlds -/
theorem z_perm_get {ws ws' : va_W} (h : ws.Perm ws') {k : Nat} {q : Nat × va_E} (hk : ws'[k]? = some q) : ∃ i : Nat, ws[i]? = some q := List.getElem?_of_mem (h.mem_iff.mpr (List.mem_of_getElem? hk))
theorem zP_perm {D : va_G} {cl : List vw_C} {ws ws' : va_W} {H : Heap} (hp : ws.Perm ws') (h : va_P D cl ws H) : va_P D cl ws' H := fun k q hk => by
  obtain ⟨i, hi⟩ := z_perm_get hp hk
  exact h i q hi
theorem zD_nodup {A : Nat → Prop} {ws : va_W} : va_D A ws ↔ (ws.map Prod.fst).Nodup ∧ ∀ q ∈ ws, A q.1 := by
  constructor
  · intro h
    refine ⟨?_, fun q hq => ?_⟩
    · refine List.pairwise_iff_getElem.mpr (fun i j hi hj hij he => ?_)
      rw [List.length_map] at hi hj
      rw [List.getElem_map, List.getElem_map] at he
      have := h.1 i j _ _ (List.getElem?_eq_getElem hi) (List.getElem?_eq_getElem hj) he
      omega
    · obtain ⟨i, hi⟩ := List.getElem?_of_mem hq
      exact h.2 i q hi
  · rintro ⟨h1, h2⟩
    refine ⟨fun i j p q hi hj hpq => ?_, fun k q hk => h2 q (List.mem_of_getElem? hk)⟩
    have hi' := (List.getElem?_eq_some_iff.mp hi).1
    exact (List.getElem?_inj (by rw [List.length_map]; exact hi') h1).mp (by rw [List.getElem?_map, List.getElem?_map, hi, hj, Option.map_some, Option.map_some, hpq])
theorem zD_perm {A : Nat → Prop} {ws ws' : va_W} (hp : ws.Perm ws') (h : va_D A ws) : va_D A ws' := by
  rw [zD_nodup] at h ⊢
  exact ⟨(hp.map Prod.fst).nodup_iff.mp h.1, fun q hq => h.2 q (hp.mem_iff.mpr hq)⟩
theorem zD_left {A : Nat → Prop} {w1 w2 : va_W} (h : va_D A (w1 ++ w2)) : va_D A w1 := by
  rw [zD_nodup] at h ⊢
  rw [List.map_append] at h
  exact ⟨(List.nodup_append.mp h.1).1, fun q hq => h.2 q (List.mem_append_left _ hq)⟩
theorem zP_left {D : va_G} {cl : List vw_C} {w1 w2 : va_W} {H : Heap} (h : va_P D cl (w1 ++ w2) H) : va_P D cl w1 H := fun k q hk => h k q (by rw [List.getElem?_append_left (List.getElem?_eq_some_iff.mp hk).1]; exact hk)
theorem zP_right {D : va_G} {cl : List vw_C} {w1 w2 : va_W} {H : Heap} (h : va_P D cl (w1 ++ w2) H) : va_P D cl w2 H := zP_left (zP_perm List.perm_append_comm h)
/-- behind a call: the callee's cells, and the rest -/
theorem z_join {A0 : Nat → Prop} {D : va_G} {cl : List vw_C} {wc wr w1 : va_W} {H H1 : Heap} (hP : va_P D cl (wc ++ wr) H) (hD : va_D A0 (wc ++ wr))
    (hk : ∀ q : Nat, q < H.size → ¬ va_A wc H.size q → H1[q]? = H[q]?) (hF : ∀ q, va_A wc H.size q → A0 q) (hP1 : va_P D cl w1 H1) (hD1 : va_D (va_A wc H.size) w1) : va_P D cl (w1 ++ wr) H1 ∧ va_D A0 (w1 ++ wr) := by
  have hPr := zP_right hP
  have hN := hD
  rw [zD_nodup, List.map_append, List.nodup_append] at hN
  have apart : ∀ (k : Nat) (q : Nat × va_E), wr[k]? = some q → q.1 < H.size ∧ ¬ va_A wc H.size q.1 := by
    intro k q hq
    have hl := (hPr k q hq).lt
    refine ⟨hl, fun h => ?_⟩
    rcases h with ⟨i, e, h⟩ | h
    · exact hN.1.2.2 q.1 (List.mem_map.mpr ⟨_, List.mem_of_getElem? h, rfl⟩) q.1 (List.mem_map.mpr ⟨_, List.mem_of_getElem? hq, rfl⟩) rfl
    · omega
  refine ⟨va_P.app hP1 (fun k q hq => (hPr k q hq).kept (hk q.1 (apart k q hq).1 (apart k q hq).2)), va_D.app (hD1.weaken (fun k q _ h => hF q.1 h)) (zD_left (zD_perm List.perm_append_comm hD)) (fun i j x y hx hy hxy => ?_)⟩
  exact (apart j y hy).2 (by rw [← hxy]; exact hD1.2 i x hx)
theorem z_free {A0 : Nat → Prop} {wc wr : va_W} {H0 H : Heap} {locs : List Loc} (hD : va_D A0 (wc ++ wr)) (hS : va_S A0 H0 H locs) (hA : ∀ q, H0.size ≤ q → A0 q) : ∀ q, va_A wc H.size q → A0 q := by
  intro q h
  rcases h with ⟨k, e, h⟩ | h
  · exact (zD_left hD).2 k _ h
  · exact hA q (Nat.le_trans hS.1 h)
def zPre (D : va_G) (G : zG) (sz : Nat) (ws : va_W) (U : State) : Prop := U.heap.size = sz ∧ va_P D vwCl ws U.heap ∧ va_K D vwCl (zTY G) U ∧ va_D (fun _ => True) ws ∧ zF G (va_A ws sz) U U.heap
def zPost (D : va_G) (G : zG) (sz : Nat) (ws ws' : va_W) (t : State) : Prop := va_P D vwCl ws' t.heap ∧ va_K D vwCl (zTY G) t ∧ va_D (va_A ws sz) ws'
theorem zPre_blind {D : va_G} {G : zG} {sz : Nat} {ws : va_W} {av : List Value} : FrameBlind (va_Pc av (zPre D G sz ws)) := fun a U g mk q => by
  obtain ⟨q0, q1, q2, q3, q4, q5⟩ := q
  exact ⟨q0, q1, q2, va_K.moved (u := U) (U := U.calling g mk a) (Vm.Alike.refl U.vm) q3, q4, zF_same (u := U) rfl q5⟩
def zQi (D : va_G) (G : zG) (ws ws' : va_W) (r : Int32) (sz : Nat) : Array Value → State → Outcome → State → Prop := va_Qi (fun (x : Int32) (_ : Unit) => x = r) (fun _ t => zPost D G sz ws ws' t) (va_A ws sz)
def zQl (D : va_G) (G : zG) (ws ws' : va_W) (r : Int64) (sz : Nat) : Array Value → State → Outcome → State → Prop := va_Ql (fun (x : Int64) (_ : Unit) => x = r) (fun _ t => zPost D G sz ws ws' t) (va_A ws sz)
def zQv (D : va_G) (G : zG) (ws ws' : va_W) (sz : Nat) : Array Value → State → Outcome → State → Prop := va_Qv (fun (_ : Unit) => True) (fun _ t => zPost D G sz ws ws' t) (va_A ws sz)
abbrev zRm (f L : Nat) : Room := { frames := f, cells := 0, slots := 0, locals := L }
/-- a contract: from the cells ws to the cells ws', with the answer r -/
def zMi (l : Launch) (y : MethodName) (cc : ByteArray) (n : Nat) (ret : Option FieldType) (f L : Nat) (D : va_G) (G : zG) (ws ws' : va_W) (av : List Value) (r : Int32) : Prop := ∀ sz, Met l y (zW y cc n ret) (zRm f L) (va_Pc av (zPre D G sz ws)) (zQi D G ws ws' r sz) 0 0 (va_A ws sz)
def zMl (l : Launch) (y : MethodName) (cc : ByteArray) (n : Nat) (ret : Option FieldType) (f L : Nat) (D : va_G) (G : zG) (ws ws' : va_W) (av : List Value) (r : Int64) : Prop := ∀ sz, Met l y (zW y cc n ret) (zRm f L) (va_Pc av (zPre D G sz ws)) (zQl D G ws ws' r sz) 0 0 (va_A ws sz)
def zMv (l : Launch) (y : MethodName) (cc : ByteArray) (n : Nat) (ret : Option FieldType) (f L : Nat) (D : va_G) (G : zG) (ws ws' : va_W) (av : List Value) : Prop := ∀ sz, Met l y (zW y cc n ret) (zRm f L) (va_Pc av (zPre D G sz ws)) (zQv D G ws ws' sz) 0 0 (va_A ws sz)
