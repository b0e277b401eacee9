/-! the judgement WS: the machine at a place of a method, with locals, stack and store; a row an instruction -/
def TB : List Cond := lw_tbl.filter goodWord
theorem tb_in {w : Cond} (h : w ∈ lw_tbl) (g : goodWord w = true) : w ∈ TB := List.mem_filter.mpr ⟨h, g⟩
theorem tb_at {w : Cond} (i : Nat) (h : lw_tbl[i]? = some w) (g : goodWord w = true) : w ∈ TB := tb_in (List.mem_of_getElem? h) g
theorem tb_good {big : List Cond} (hb : ∀ w ∈ TB, w ∈ big) {y : MethodName} {cc : ByteArray} {mL : Nat} {ret : Option FieldType} (hc : Cond.code y cc mL ret ∈ TB) : GoodIn big (Cond.code y cc mL ret :: TB) := by
  intro w hw
  have h : w ∈ TB := by
    rcases List.mem_cons.mp hw with rfl | h
    · exact hc
    · exact h
  exact ⟨hb w h, good_of_word (List.mem_filter.mp h).2⟩
/-- locals: a value at each place, or nothing said -/
def LH (ls : Array Slot) (nL : Nat) (lv : List (Option Value)) : Prop := ls.size = nL ∧ lv_wf ls ∧ ∀ (i : Nat) (v : Value), lv[i]? = some (some v) → v.category = 1 ∧ ls[i]? = some (.val v)
def lvl (lv : List (Option Value)) : List (Nat × Value) := (List.range lv.length).filterMap (fun i => match lv[i]? with
  | some (some v) => some (i, v)
  | _ => none)
theorem lvl_in {lv : List (Option Value)} {q : Nat × Value} : q ∈ lvl lv ↔ lv[q.1]? = some (some q.2) := by
  unfold lvl
  rw [List.mem_filterMap]
  constructor
  · rintro ⟨i, hi, h⟩
    split at h
    · rename_i v hv
      cases h
      exact hv
    · cases h
  · intro h
    refine ⟨q.1, List.mem_range.mpr (List.getElem?_eq_some_iff.mp h).1, ?_⟩
    rw [h]
theorem LH.has {ls : Array Slot} {nL : Nat} {lv : List (Option Value)} (h : LH ls nL lv) : lv_has ls nL (lvl lv) := ⟨h.1, h.2.1, fun q hq => (h.2.2 q.1 q.2 (lvl_in.mp hq)).2⟩
theorem LH.set {ls ls' : Array Slot} {nL i : Nat} {lv : List (Option Value)} {v : Value} (h : LH ls nL lv) (hc : v.category = 1)
    (h' : lv_has ls' nL ((i, v) :: (lvl lv).filter (fun q => !(q.1 == i) && !(q.1 + 1 == i && q.2.category == 2)))) : LH ls' nL (lv.set i (some v)) := by
  refine ⟨h'.1, h'.2.1, fun j w hj => ?_⟩
  by_cases hji : j = i
  · subst hji
    have hl : j < lv.length := by
      have := (List.getElem?_eq_some_iff.mp hj).1
      rwa [List.length_set] at this
    rw [List.getElem?_set_self hl] at hj
    cases hj
    exact ⟨hc, h'.2.2 _ List.mem_cons_self⟩
  · rw [List.getElem?_set_ne (fun z => hji z.symm)] at hj
    have h1 := h.2.2 j w hj
    refine ⟨h1.1, h'.2.2 (j, w) (List.mem_cons_of_mem _ (List.mem_filter.mpr ⟨lvl_in.mpr hj, ?_⟩))⟩
    simp [hji, h1.1]
abbrev Ev : Type := Launch × va_G × (Nat → ClassId) × (Nat → Prop) × Nat
abbrev Fx : Type := Ev × (Program × Env × Room × State × MethodId × Array Value × List Frame) × (Method × Code × (State → Prop)) × Nat
abbrev vL (V : Ev) : Launch := V.1
abbrev vD (V : Ev) : va_G := V.2.1
abbrev vY (V : Ev) : Nat → ClassId := V.2.2.1
abbrev vA (V : Ev) : Nat → Prop := V.2.2.2.1
/-- the address of ArrayList's shared empty array -/
abbrev vZ (V : Ev) : Nat := V.2.2.2.2
abbrev xl (F : Fx) : Launch := vL F.1
abbrev xD (F : Fx) : va_G := vD F.1
abbrev xY (F : Fx) : Nat → ClassId := vY F.1
abbrev xA (F : Fx) : Nat → Prop := vA F.1
abbrev xz (F : Fx) : Nat := vZ F.1
abbrev xp (F : Fx) : Program := F.2.1.1
abbrev xe (F : Fx) : Env := F.2.1.2.1
abbrev xR (F : Fx) : Room := F.2.1.2.2.1
abbrev xs (F : Fx) : State := F.2.1.2.2.2.1
abbrev xm (F : Fx) : MethodId := F.2.1.2.2.2.2.1
abbrev xa (F : Fx) : Array Value := F.2.1.2.2.2.2.2.1
abbrev xb (F : Fx) : List Frame := F.2.1.2.2.2.2.2.2
abbrev xt (F : Fx) : Method := F.2.2.1.1
abbrev xc (F : Fx) : Code := F.2.2.1.2.1
abbrev xQ (F : Fx) : State → Prop := F.2.2.1.2.2
abbrev xn (F : Fx) : Nat := F.2.2.2
def WS (F : Fx) (pc : Nat) (lv : List (Option Value)) (st : List Value) (S : Sto) (cs ss : Nat) : Prop :=
  ∀ (ls : Array Slot) (H : Heap) (locs : List Loc), LH ls (xn F) lv → Wd (xD F) (xY F) (xA F) S H → va_S (xA F) (xs F).heap H locs → W (xp F) (xl F) (xe F) (xR F) (xs F) (xm F) (xa F) (xb F) (xt F) (xc F) H locs cs ss (xQ F) (F0 (xm F) pc ls st)
/-- the static that a new ArrayList holds: an array of no elements, outside A -/
def ZT (z : Nat) (A : Nat → Prop) (U : State) (H : Heap) : Prop := va_Z "java/util/ArrayList" "DEFAULTCAPACITY_EMPTY_ELEMENTDATA" "[Ljava/lang/Object;" (.ref z) A U H ∧ va_T (.object "java/lang/Object") z 0 (fun _ => .null) A U H
/-- words that a warming keeps, but not as words -/
def EX (mi : Nat) (U : State) : Prop := va_Nw (.castable "ChainVersions$Message" "java/lang/Object") U ∧ (va_AO "ChainVersions$Node" U ∧ va_AO "ChainVersions$Client" U ∧ va_AO "ChainVersions$Update" U ∧ va_AO "java/lang/Object" U) ∧ va_Nw (.methodLinkNest "ChainVersions" 53 ⟨"ChainVersions$Client", "<init>", "()V"⟩ "ChainVersions") U ∧ va_Nw (.declares ⟨"java/lang/Object", "getClass", "()Ljava/lang/Class;"⟩) U ∧ va_Mi "[Ljava/lang/Object;" mi U
theorem EX.warm {mi : Nat} {s U : State} (hW : s.WarmedH U.vm) (h : EX mi s) : EX mi U := ⟨va_Nw.warmC hW h.1, ⟨h.2.1.1.moved hW.alike, h.2.1.2.1.moved hW.alike, h.2.1.2.2.1.moved hW.alike, h.2.1.2.2.2.moved hW.alike⟩, va_Nw.warmM hW h.2.2.1, va_Nw.warmD hW h.2.2.2.1, h.2.2.2.2.moved hW.alike⟩
theorem EX.same {mi : Nat} {s U : State} (hv : s.vm = U.vm) (h : EX mi s) : EX mi U := ⟨va_Nw.same rfl hv h.1, ⟨h.2.1.1.moved (hv ▸ Vm.Alike.refl s.vm), h.2.1.2.1.moved (hv ▸ Vm.Alike.refl s.vm), h.2.1.2.2.1.moved (hv ▸ Vm.Alike.refl s.vm), h.2.1.2.2.2.moved (hv ▸ Vm.Alike.refl s.vm)⟩, va_Nw.same rfl hv h.2.2.1, va_Nw.same rfl hv h.2.2.2.1, h.2.2.2.2.moved (hv ▸ Vm.Alike.refl s.vm)⟩
def KK (D : va_G) (Y : Nat → ClassId) (A : Nat → Prop) (z : Nat) (U : State) (H : Heap) : Prop := va_K D vCl (tYs Y) U ∧ ZT z A U H ∧ (∀ q, H.size ≤ q → A q) ∧ EX (Y 20) U
/-- what stays the same over a method's walk -/
def Cx (F : Fx) (cc : ByteArray) (own : String) (dF cF sF : Nat) : Prop := (dF ≤ (xR F).frames ∧ 39 * dF ≤ (xR F).locals ∧ (xR F).cells = cF ∧ (xR F).slots = sF) ∧ (xp F).tables.exec = Jvm.exec ∧ (xc F).code = cc ∧ (xc F).maxLocals = xn F ∧ (xs F).vm.findClass own = some (xm F).cls ∧ (∀ w ∈ TB, w.before (xa F) (xs F) = true) ∧ KK (xD F) (xY F) (xA F) (xz F) (xs F) (xs F).heap
section ROWS
variable {F : Fx} {cc : ByteArray} {own : String} {pc pc' tgt : Nat} {lv : List (Option Value)} {st : List Value} {S : Sto} {cs ss : Nat} {dF cF sF : Nat}
theorem Cx.x (C : Cx F cc own dF cF sF) : (xp F).tables.exec = Jvm.exec := C.2.1
theorem Cx.b (C : Cx F cc own dF cF sF) : (xc F).code = cc := C.2.2.1
theorem Cx.ml (C : Cx F cc own dF cF sF) : (xc F).maxLocals = xn F := C.2.2.2.1
theorem Cx.o (C : Cx F cc own dF cF sF) : (xs F).vm.findClass own = some (xm F).cls := C.2.2.2.2.1
theorem Cx.t (C : Cx F cc own dF cF sF) {w : Cond} (h : w ∈ TB) : w.before (xa F) (xs F) = true := C.2.2.2.2.2.1 w h
theorem Cx.k (C : Cx F cc own dF cF sF) : va_K (xD F) vCl (tYs (xY F)) (xs F) := C.2.2.2.2.2.2.1
theorem Cx.z (C : Cx F cc own dF cF sF) : ZT (xz F) (xA F) (xs F) (xs F).heap := C.2.2.2.2.2.2.2.1
theorem Cx.A (C : Cx F cc own dF cF sF) : ∀ q, (xs F).heap.size ≤ q → xA F q := C.2.2.2.2.2.2.2.2.1
theorem Cx.E (C : Cx F cc own dF cF sF) : EX (xY F 20) (xs F) := C.2.2.2.2.2.2.2.2.2
def At (cc : ByteArray) (pc : Nat) (i : Instr) (n pc' : Nat) : Prop := decode cc pc = .ok (i, n) ∧ pc + n = pc'
def AtC (cc : ByteArray) (pc : Nat) (i : Int → Instr) (tgt pc' : Nat) : Prop := ∃ off : Int, decode cc pc = .ok (i off, 3) ∧ (pc : Int) + off = (tgt : Int) ∧ pc + 3 = pc'
-- constants
theorem ws_iconst (C : Cx F cc own dF cF sF) {n : Int} (v : Int32) (d : At cc pc (.iconst n) 1 pc') (hv : Int32.ofInt n = v) (k : WS F pc' lv (.int v :: st) S cs ss) : WS F pc lv st S cs ss := by
  obtain ⟨d, rfl⟩ := d
  intro ls H locs hl hw hS
  exact lv_iconst C.x C.b d hv (k ls H locs hl hw hS)
theorem ws_bipush (C : Cx F cc own dF cF sF) {n : Int} (v : Int32) (d : At cc pc (.bipush n) 2 pc') (hv : (Int8.ofInt n).toInt32 = v) (k : WS F pc' lv (.int v :: st) S cs ss) : WS F pc lv st S cs ss := by
  obtain ⟨d, rfl⟩ := d
  intro ls H locs hl hw hS
  exact lv_bipush C.x C.b d hv (k ls H locs hl hw hS)
theorem ws_sipush (C : Cx F cc own dF cF sF) {n : Int} (v : Int32) (d : At cc pc (.sipush n) 3 pc') (hv : (Int16.ofInt n).toInt32 = v) (k : WS F pc' lv (.int v :: st) S cs ss) : WS F pc lv st S cs ss := by
  obtain ⟨d, rfl⟩ := d
  intro ls H locs hl hw hS
  exact lv_sipush C.x C.b d hv (k ls H locs hl hw hS)
theorem ws_null (C : Cx F cc own dF cF sF) (d : At cc pc .aconst_null 1 pc') (k : WS F pc' lv (.null :: st) S cs ss) : WS F pc lv st S cs ss := by
  obtain ⟨d, rfl⟩ := d
  intro ls H locs hl hw hS
  exact lv_null C.x C.b d (k ls H locs hl hw hS)
-- locals
theorem ws_iload_n (C : Cx F cc own dF cF sF) {i : Fin 4} {x : Int32} (d : At cc pc (.iload_n i) 1 pc') (h : lv[(i : Nat)]? = some (some (.int x))) (k : WS F pc' lv (.int x :: st) S cs ss) : WS F pc lv st S cs ss := by
  obtain ⟨d, rfl⟩ := d
  intro ls H locs hl hw hS
  exact lv_iload_n C.x C.b d rfl (hl.2.2 _ _ h).2 (k ls H locs hl hw hS)
theorem ws_iload (C : Cx F cc own dF cF sF) {i : Nat} {x : Int32} (d : At cc pc (.iload i) 2 pc') (h : lv[i]? = some (some (.int x))) (k : WS F pc' lv (.int x :: st) S cs ss) : WS F pc lv st S cs ss := by
  obtain ⟨d, rfl⟩ := d
  intro ls H locs hl hw hS
  exact lv_iload C.x C.b d (hl.2.2 _ _ h).2 (k ls H locs hl hw hS)
theorem ws_aload_n (C : Cx F cc own dF cF sF) {i : Fin 4} {x : Nat} (d : At cc pc (.aload_n i) 1 pc') (h : lv[(i : Nat)]? = some (some (.ref x))) (k : WS F pc' lv (.ref x :: st) S cs ss) : WS F pc lv st S cs ss := by
  obtain ⟨d, rfl⟩ := d
  intro ls H locs hl hw hS
  exact lv_aload_n C.x C.b d rfl (hl.2.2 _ _ h).2 (k ls H locs hl hw hS)
theorem ws_aload (C : Cx F cc own dF cF sF) {i : Nat} {x : Nat} (d : At cc pc (.aload i) 2 pc') (h : lv[i]? = some (some (.ref x))) (k : WS F pc' lv (.ref x :: st) S cs ss) : WS F pc lv st S cs ss := by
  obtain ⟨d, rfl⟩ := d
  intro ls H locs hl hw hS
  exact lv_aload C.x C.b d (hl.2.2 _ _ h).2 (k ls H locs hl hw hS)
theorem ws_aload_nN (C : Cx F cc own dF cF sF) {i : Fin 4} (d : At cc pc (.aload_n i) 1 pc') (h : lv[(i : Nat)]? = some (some .null)) (k : WS F pc' lv (.null :: st) S cs ss) : WS F pc lv st S cs ss := by
  obtain ⟨d, rfl⟩ := d
  intro ls H locs hl hw hS
  exact lv_aload_nN C.x C.b d rfl (hl.2.2 _ _ h).2 (k ls H locs hl hw hS)
theorem ws_aloadN (C : Cx F cc own dF cF sF) {i : Nat} (d : At cc pc (.aload i) 2 pc') (h : lv[i]? = some (some .null)) (k : WS F pc' lv (.null :: st) S cs ss) : WS F pc lv st S cs ss := by
  obtain ⟨d, rfl⟩ := d
  intro ls H locs hl hw hS
  exact lv_aloadN C.x C.b d (hl.2.2 _ _ h).2 (k ls H locs hl hw hS)
theorem ws_istore_n (C : Cx F cc own dF cF sF) {i : Fin 4} {x : Int32} (d : At cc pc (.istore_n i) 1 pc') (hn : (i : Nat) < xn F) (k : WS F pc' (lv.set (i : Nat) (some (.int x))) st S cs ss) : WS F pc lv (.int x :: st) S cs ss := by
  obtain ⟨d, rfl⟩ := d
  intro ls H locs hl hw hS
  exact lv_istore_n C.x C.b d rfl hl.has hn rfl (fun ls' h' => k ls' H locs (hl.set rfl h') hw hS)
theorem ws_istore (C : Cx F cc own dF cF sF) {i : Nat} {x : Int32} (d : At cc pc (.istore i) 2 pc') (hn : i < xn F) (k : WS F pc' (lv.set i (some (.int x))) st S cs ss) : WS F pc lv (.int x :: st) S cs ss := by
  obtain ⟨d, rfl⟩ := d
  intro ls H locs hl hw hS
  exact lv_istore C.x C.b d hl.has hn rfl (fun ls' h' => k ls' H locs (hl.set rfl h') hw hS)
theorem ws_astore_n (C : Cx F cc own dF cF sF) {i : Fin 4} {x : Nat} (d : At cc pc (.astore_n i) 1 pc') (hn : (i : Nat) < xn F) (k : WS F pc' (lv.set (i : Nat) (some (.ref x))) st S cs ss) : WS F pc lv (.ref x :: st) S cs ss := by
  obtain ⟨d, rfl⟩ := d
  intro ls H locs hl hw hS
  exact lv_astore_n C.x C.b d rfl hl.has hn rfl (fun ls' h' => k ls' H locs (hl.set rfl h') hw hS)
theorem ws_astore (C : Cx F cc own dF cF sF) {i : Nat} {x : Nat} (d : At cc pc (.astore i) 2 pc') (hn : i < xn F) (k : WS F pc' (lv.set i (some (.ref x))) st S cs ss) : WS F pc lv (.ref x :: st) S cs ss := by
  obtain ⟨d, rfl⟩ := d
  intro ls H locs hl hw hS
  exact lv_astore C.x C.b d hl.has hn rfl (fun ls' h' => k ls' H locs (hl.set rfl h') hw hS)
theorem ws_astore_nN (C : Cx F cc own dF cF sF) {i : Fin 4} (d : At cc pc (.astore_n i) 1 pc') (hn : (i : Nat) < xn F) (k : WS F pc' (lv.set (i : Nat) (some .null)) st S cs ss) : WS F pc lv (.null :: st) S cs ss := by
  obtain ⟨d, rfl⟩ := d
  intro ls H locs hl hw hS
  exact lv_astore_nN C.x C.b d rfl hl.has hn rfl (fun ls' h' => k ls' H locs (hl.set rfl h') hw hS)
theorem ws_astoreN (C : Cx F cc own dF cF sF) {i : Nat} (d : At cc pc (.astore i) 2 pc') (hn : i < xn F) (k : WS F pc' (lv.set i (some .null)) st S cs ss) : WS F pc lv (.null :: st) S cs ss := by
  obtain ⟨d, rfl⟩ := d
  intro ls H locs hl hw hS
  exact lv_astoreN C.x C.b d hl.has hn rfl (fun ls' h' => k ls' H locs (hl.set rfl h') hw hS)
theorem ws_iinc (C : Cx F cc own dF cF sF) {i : Nat} {n : Int} {x : Int32} (v : Int32) (d : At cc pc (.iinc i n) 3 pc') (h : lv[i]? = some (some (.int x))) (hv : x + Int32.ofInt n = v) (hn : i < xn F) (k : WS F pc' (lv.set i (some (.int v))) st S cs ss) : WS F pc lv st S cs ss := by
  obtain ⟨d, rfl⟩ := d
  intro ls H locs hl hw hS
  obtain ⟨q, hq⟩ := List.getElem?_of_mem (lvl_in (q := (i, .int x)).mpr h)
  exact lv_iinc C.x C.b d hl.has hq hv hn rfl (fun ls' h' => k ls' H locs (hl.set rfl h') hw hS)
-- stack
theorem ws_dup (C : Cx F cc own dF cF sF) {v : Value} (d : At cc pc .dup 1 pc') (hv : v.category = 1) (k : WS F pc' lv (v :: v :: st) S cs ss) : WS F pc lv (v :: st) S cs ss := by
  obtain ⟨d, rfl⟩ := d
  intro ls H locs hl hw hS
  exact lv_dup C.x C.b d hv (k ls H locs hl hw hS)
theorem ws_pop (C : Cx F cc own dF cF sF) {v : Value} (d : At cc pc .pop 1 pc') (hv : v.category = 1) (k : WS F pc' lv st S cs ss) : WS F pc lv (v :: st) S cs ss := by
  obtain ⟨d, rfl⟩ := d
  intro ls H locs hl hw hS
  exact lv_pop C.x C.b d hv (k ls H locs hl hw hS)
theorem ws_dup_x1 (C : Cx F cc own dF cF sF) {v w : Value} (d : At cc pc .dup_x1 1 pc') (hv : v.category = 1) (hw' : w.category = 1) (k : WS F pc' lv (v :: w :: v :: st) S cs ss) : WS F pc lv (v :: w :: st) S cs ss := by
  obtain ⟨d, rfl⟩ := d
  intro ls H locs hl hw hS
  exact lv_dup_x1 C.x C.b d hv hw' (k ls H locs hl hw hS)
theorem ws_dup2 (C : Cx F cc own dF cF sF) {v w : Value} (d : At cc pc .dup2 1 pc') (hv : v.category = 1) (hw' : w.category = 1) (k : WS F pc' lv (v :: w :: v :: w :: st) S cs ss) : WS F pc lv (v :: w :: st) S cs ss := by
  obtain ⟨d, rfl⟩ := d
  intro ls H locs hl hw hS
  exact lv_dup2_11 C.x C.b d hv hw' (k ls H locs hl hw hS)
theorem ws_top {x : Int32} (y : Int32) (h : x = y) (k : WS F pc lv (.int y :: st) S cs ss) : WS F pc lv (.int x :: st) S cs ss := h ▸ k
theorem ws_sto {S' : Sto} (h : S = S') (k : WS F pc lv st S' cs ss) : WS F pc lv st S cs ss := h ▸ k
theorem ws_lv {lv' : List (Option Value)} (h : lv = lv') (k : WS F pc lv' st S cs ss) : WS F pc lv st S cs ss := h ▸ k
theorem ws_less {lv' : List (Option Value)} (h : ∀ (i : Nat) (v : Value), lv'[i]? = some (some v) → lv[i]? = some (some v)) (k : WS F pc lv' st S cs ss) : WS F pc lv st S cs ss := fun ls H locs hl hw hS => k ls H locs ⟨hl.1, hl.2.1, fun i v hv => hl.2.2 i v (h i v hv)⟩ hw hS
theorem ws_widen {cs' ss' : Nat} (h1 : cs ≤ cs') (h2 : ss ≤ ss') (k : WS F pc lv st S cs' ss') : WS F pc lv st S cs ss := fun ls H locs hl hw hS => W.widen h1 h2 (k ls H locs hl hw hS)
-- arithmetic
theorem ws_iadd (C : Cx F cc own dF cF sF) {x y : Int32} (d : At cc pc .iadd 1 pc') (k : WS F pc' lv (.int (x + y) :: st) S cs ss) : WS F pc lv (.int y :: .int x :: st) S cs ss := by
  obtain ⟨d, rfl⟩ := d
  intro ls H locs hl hw hS
  exact lv_iadd C.x C.b d (k ls H locs hl hw hS)
theorem ws_isub (C : Cx F cc own dF cF sF) {x y : Int32} (d : At cc pc .isub 1 pc') (k : WS F pc' lv (.int (x - y) :: st) S cs ss) : WS F pc lv (.int y :: .int x :: st) S cs ss := by
  obtain ⟨d, rfl⟩ := d
  intro ls H locs hl hw hS
  exact lv_isub C.x C.b d (k ls H locs hl hw hS)
theorem ws_imul (C : Cx F cc own dF cF sF) {x y : Int32} (d : At cc pc .imul 1 pc') (k : WS F pc' lv (.int (x * y) :: st) S cs ss) : WS F pc lv (.int y :: .int x :: st) S cs ss := by
  obtain ⟨d, rfl⟩ := d
  intro ls H locs hl hw hS
  exact lv_imul C.x C.b d (k ls H locs hl hw hS)
theorem ws_iand (C : Cx F cc own dF cF sF) {x y : Int32} (d : At cc pc .iand 1 pc') (k : WS F pc' lv (.int (x &&& y) :: st) S cs ss) : WS F pc lv (.int y :: .int x :: st) S cs ss := by
  obtain ⟨d, rfl⟩ := d
  intro ls H locs hl hw hS
  exact lv_iand C.x C.b d (k ls H locs hl hw hS)
theorem ws_ior (C : Cx F cc own dF cF sF) {x y : Int32} (d : At cc pc .ior 1 pc') (k : WS F pc' lv (.int (x ||| y) :: st) S cs ss) : WS F pc lv (.int y :: .int x :: st) S cs ss := by
  obtain ⟨d, rfl⟩ := d
  intro ls H locs hl hw hS
  exact lv_ior C.x C.b d (k ls H locs hl hw hS)
theorem ws_ixor (C : Cx F cc own dF cF sF) {x y : Int32} (d : At cc pc .ixor 1 pc') (k : WS F pc' lv (.int (x ^^^ y) :: st) S cs ss) : WS F pc lv (.int y :: .int x :: st) S cs ss := by
  obtain ⟨d, rfl⟩ := d
  intro ls H locs hl hw hS
  exact lv_ixor C.x C.b d (k ls H locs hl hw hS)
theorem ws_ishl (C : Cx F cc own dF cF sF) {x y : Int32} (d : At cc pc .ishl 1 pc') (k : WS F pc' lv (.int (x <<< (y &&& 31)) :: st) S cs ss) : WS F pc lv (.int y :: .int x :: st) S cs ss := by
  obtain ⟨d, rfl⟩ := d
  intro ls H locs hl hw hS
  exact lv_ishl C.x C.b d (k ls H locs hl hw hS)
theorem ws_ishr (C : Cx F cc own dF cF sF) {x y : Int32} (d : At cc pc .ishr 1 pc') (k : WS F pc' lv (.int (x >>> (y &&& 31)) :: st) S cs ss) : WS F pc lv (.int y :: .int x :: st) S cs ss := by
  obtain ⟨d, rfl⟩ := d
  intro ls H locs hl hw hS
  exact lv_ishr C.x C.b d (k ls H locs hl hw hS)
theorem nI_mul (a b : Nat) : nI a * nI b = nI (a * b) := (Int32.ofNat_mul a b).symm
theorem nI_sub {a b : Nat} (h : b ≤ a) : nI a - nI b = nI (a - b) := by
  have : nI a = nI (a - b) + nI b := by rw [nI_add]; congr 1; omega
  rw [this, Int32.add_sub_cancel]
theorem ws_iaddN (C : Cx F cc own dF cF sF) {x y : Nat} (d : At cc pc .iadd 1 pc') (k : WS F pc' lv (.int (nI (x + y)) :: st) S cs ss) : WS F pc lv (.int (nI y) :: .int (nI x) :: st) S cs ss := ws_iadd C d (ws_top _ (nI_add x y) k)
theorem ws_isubN (C : Cx F cc own dF cF sF) {x y : Nat} (d : At cc pc .isub 1 pc') (h : y ≤ x) (k : WS F pc' lv (.int (nI (x - y)) :: st) S cs ss) : WS F pc lv (.int (nI y) :: .int (nI x) :: st) S cs ss := ws_isub C d (ws_top _ (nI_sub h) k)
theorem ws_imulN (C : Cx F cc own dF cF sF) {x y : Nat} (d : At cc pc .imul 1 pc') (k : WS F pc' lv (.int (nI (x * y)) :: st) S cs ss) : WS F pc lv (.int (nI y) :: .int (nI x) :: st) S cs ss := ws_imul C d (ws_top _ (nI_mul x y) k)
-- branches
theorem ws_goto (C : Cx F cc own dF cF sF) (d : AtC cc pc .goto tgt pc') (k : WS F tgt lv st S cs ss) : WS F pc lv st S cs ss := by
  obtain ⟨off, d, ht, -⟩ := d
  intro ls H locs hl hw hS
  exact lv_goto C.x C.b d ht (k ls H locs hl hw hS)
theorem ws_if_eq (C : Cx F cc own dF cF sF) {x : Int32} (d : AtC cc pc (.ifCond .eq) tgt pc') (kt : x = 0 → WS F tgt lv st S cs ss) (kf : ¬ x = 0 → WS F pc' lv st S cs ss) : WS F pc lv (.int x :: st) S cs ss := by
  obtain ⟨off, d, ht, rfl⟩ := d
  intro ls H locs hl hw hS
  exact lv_if_eq C.x C.b d ht (fun h => kt h ls H locs hl hw hS) (fun h => kf h ls H locs hl hw hS)
theorem ws_icmp_eq (C : Cx F cc own dF cF sF) {x y : Int32} (d : AtC cc pc (.if_icmp .eq) tgt pc') (kt : x = y → WS F tgt lv st S cs ss) (kf : ¬ x = y → WS F pc' lv st S cs ss) : WS F pc lv (.int y :: .int x :: st) S cs ss := by
  obtain ⟨off, d, ht, rfl⟩ := d
  intro ls H locs hl hw hS
  exact lv_icmp_eq C.x C.b d ht (fun h => kt h ls H locs hl hw hS) (fun h => kf h ls H locs hl hw hS)
theorem ws_if_ne (C : Cx F cc own dF cF sF) {x : Int32} (d : AtC cc pc (.ifCond .ne) tgt pc') (kt : ¬ x = 0 → WS F tgt lv st S cs ss) (kf : x = 0 → WS F pc' lv st S cs ss) : WS F pc lv (.int x :: st) S cs ss := by
  obtain ⟨off, d, ht, rfl⟩ := d
  intro ls H locs hl hw hS
  exact lv_if_ne C.x C.b d ht (fun h => kt h ls H locs hl hw hS) (fun h => kf h ls H locs hl hw hS)
theorem ws_icmp_ne (C : Cx F cc own dF cF sF) {x y : Int32} (d : AtC cc pc (.if_icmp .ne) tgt pc') (kt : ¬ x = y → WS F tgt lv st S cs ss) (kf : x = y → WS F pc' lv st S cs ss) : WS F pc lv (.int y :: .int x :: st) S cs ss := by
  obtain ⟨off, d, ht, rfl⟩ := d
  intro ls H locs hl hw hS
  exact lv_icmp_ne C.x C.b d ht (fun h => kt h ls H locs hl hw hS) (fun h => kf h ls H locs hl hw hS)
theorem ws_if_lt (C : Cx F cc own dF cF sF) {x : Int32} (d : AtC cc pc (.ifCond .lt) tgt pc') (kt : x < 0 → WS F tgt lv st S cs ss) (kf : ¬ x < 0 → WS F pc' lv st S cs ss) : WS F pc lv (.int x :: st) S cs ss := by
  obtain ⟨off, d, ht, rfl⟩ := d
  intro ls H locs hl hw hS
  exact lv_if_lt C.x C.b d ht (fun h => kt h ls H locs hl hw hS) (fun h => kf h ls H locs hl hw hS)
theorem ws_icmp_lt (C : Cx F cc own dF cF sF) {x y : Int32} (d : AtC cc pc (.if_icmp .lt) tgt pc') (kt : x < y → WS F tgt lv st S cs ss) (kf : ¬ x < y → WS F pc' lv st S cs ss) : WS F pc lv (.int y :: .int x :: st) S cs ss := by
  obtain ⟨off, d, ht, rfl⟩ := d
  intro ls H locs hl hw hS
  exact lv_icmp_lt C.x C.b d ht (fun h => kt h ls H locs hl hw hS) (fun h => kf h ls H locs hl hw hS)
theorem ws_if_ge (C : Cx F cc own dF cF sF) {x : Int32} (d : AtC cc pc (.ifCond .ge) tgt pc') (kt : 0 ≤ x → WS F tgt lv st S cs ss) (kf : ¬ 0 ≤ x → WS F pc' lv st S cs ss) : WS F pc lv (.int x :: st) S cs ss := by
  obtain ⟨off, d, ht, rfl⟩ := d
  intro ls H locs hl hw hS
  exact lv_if_ge C.x C.b d ht (fun h => kt h ls H locs hl hw hS) (fun h => kf h ls H locs hl hw hS)
theorem ws_icmp_ge (C : Cx F cc own dF cF sF) {x y : Int32} (d : AtC cc pc (.if_icmp .ge) tgt pc') (kt : y ≤ x → WS F tgt lv st S cs ss) (kf : ¬ y ≤ x → WS F pc' lv st S cs ss) : WS F pc lv (.int y :: .int x :: st) S cs ss := by
  obtain ⟨off, d, ht, rfl⟩ := d
  intro ls H locs hl hw hS
  exact lv_icmp_ge C.x C.b d ht (fun h => kt h ls H locs hl hw hS) (fun h => kf h ls H locs hl hw hS)
theorem ws_if_gt (C : Cx F cc own dF cF sF) {x : Int32} (d : AtC cc pc (.ifCond .gt) tgt pc') (kt : 0 < x → WS F tgt lv st S cs ss) (kf : ¬ 0 < x → WS F pc' lv st S cs ss) : WS F pc lv (.int x :: st) S cs ss := by
  obtain ⟨off, d, ht, rfl⟩ := d
  intro ls H locs hl hw hS
  exact lv_if_gt C.x C.b d ht (fun h => kt h ls H locs hl hw hS) (fun h => kf h ls H locs hl hw hS)
theorem ws_icmp_gt (C : Cx F cc own dF cF sF) {x y : Int32} (d : AtC cc pc (.if_icmp .gt) tgt pc') (kt : y < x → WS F tgt lv st S cs ss) (kf : ¬ y < x → WS F pc' lv st S cs ss) : WS F pc lv (.int y :: .int x :: st) S cs ss := by
  obtain ⟨off, d, ht, rfl⟩ := d
  intro ls H locs hl hw hS
  exact lv_icmp_gt C.x C.b d ht (fun h => kt h ls H locs hl hw hS) (fun h => kf h ls H locs hl hw hS)
theorem ws_if_le (C : Cx F cc own dF cF sF) {x : Int32} (d : AtC cc pc (.ifCond .le) tgt pc') (kt : x ≤ 0 → WS F tgt lv st S cs ss) (kf : ¬ x ≤ 0 → WS F pc' lv st S cs ss) : WS F pc lv (.int x :: st) S cs ss := by
  obtain ⟨off, d, ht, rfl⟩ := d
  intro ls H locs hl hw hS
  exact lv_if_le C.x C.b d ht (fun h => kt h ls H locs hl hw hS) (fun h => kf h ls H locs hl hw hS)
theorem ws_icmp_le (C : Cx F cc own dF cF sF) {x y : Int32} (d : AtC cc pc (.if_icmp .le) tgt pc') (kt : x ≤ y → WS F tgt lv st S cs ss) (kf : ¬ x ≤ y → WS F pc' lv st S cs ss) : WS F pc lv (.int y :: .int x :: st) S cs ss := by
  obtain ⟨off, d, ht, rfl⟩ := d
  intro ls H locs hl hw hS
  exact lv_icmp_le C.x C.b d ht (fun h => kt h ls H locs hl hw hS) (fun h => kf h ls H locs hl hw hS)
theorem ws_icmp_eqN (C : Cx F cc own dF cF sF) {x y : Nat} (d : AtC cc pc (.if_icmp .eq) tgt pc') (hx : x < 2 ^ 31) (hy : y < 2 ^ 31) (kt : x = y → WS F tgt lv st S cs ss) (kf : ¬ x = y → WS F pc' lv st S cs ss) : WS F pc lv (.int (nI y) :: .int (nI x) :: st) S cs ss :=
  ws_icmp_eq C d (fun h => kt ((nI_eq hx hy).mp h)) (fun h => kf (fun z => h ((nI_eq hx hy).mpr z)))
theorem ws_icmp_neN (C : Cx F cc own dF cF sF) {x y : Nat} (d : AtC cc pc (.if_icmp .ne) tgt pc') (hx : x < 2 ^ 31) (hy : y < 2 ^ 31) (kt : ¬ x = y → WS F tgt lv st S cs ss) (kf : x = y → WS F pc' lv st S cs ss) : WS F pc lv (.int (nI y) :: .int (nI x) :: st) S cs ss :=
  ws_icmp_ne C d (fun h => kt (fun z => h (congrArg nI z))) (fun h => kf ((nI_eq hx hy).mp h))
theorem ws_icmp_ltN (C : Cx F cc own dF cF sF) {x y : Nat} (d : AtC cc pc (.if_icmp .lt) tgt pc') (hx : x < 2 ^ 31) (hy : y < 2 ^ 31) (kt : x < y → WS F tgt lv st S cs ss) (kf : ¬ x < y → WS F pc' lv st S cs ss) : WS F pc lv (.int (nI y) :: .int (nI x) :: st) S cs ss :=
  ws_icmp_lt C d (fun h => kt ((nI_ltI hx hy).mp h)) (fun h => kf (fun z => h ((nI_ltI hx hy).mpr z)))
theorem ws_icmp_geN (C : Cx F cc own dF cF sF) {x y : Nat} (d : AtC cc pc (.if_icmp .ge) tgt pc') (hx : x < 2 ^ 31) (hy : y < 2 ^ 31) (kt : y ≤ x → WS F tgt lv st S cs ss) (kf : ¬ y ≤ x → WS F pc' lv st S cs ss) : WS F pc lv (.int (nI y) :: .int (nI x) :: st) S cs ss :=
  ws_icmp_ge C d (fun h => kt ((nI_leI hy hx).mp h)) (fun h => kf (fun z => h ((nI_leI hy hx).mpr z)))
theorem ws_icmp_gtN (C : Cx F cc own dF cF sF) {x y : Nat} (d : AtC cc pc (.if_icmp .gt) tgt pc') (hx : x < 2 ^ 31) (hy : y < 2 ^ 31) (kt : y < x → WS F tgt lv st S cs ss) (kf : ¬ y < x → WS F pc' lv st S cs ss) : WS F pc lv (.int (nI y) :: .int (nI x) :: st) S cs ss :=
  ws_icmp_gt C d (fun h => kt ((nI_ltI hy hx).mp h)) (fun h => kf (fun z => h ((nI_ltI hy hx).mpr z)))
theorem ws_icmp_leN (C : Cx F cc own dF cF sF) {x y : Nat} (d : AtC cc pc (.if_icmp .le) tgt pc') (hx : x < 2 ^ 31) (hy : y < 2 ^ 31) (kt : x ≤ y → WS F tgt lv st S cs ss) (kf : ¬ x ≤ y → WS F pc' lv st S cs ss) : WS F pc lv (.int (nI y) :: .int (nI x) :: st) S cs ss :=
  ws_icmp_le C d (fun h => kt ((nI_leI hx hy).mp h)) (fun h => kf (fun z => h ((nI_leI hx hy).mpr z)))
theorem nI_z {n : Nat} (h : n < 2 ^ 31) : nI n = 0 ↔ n = 0 := nI_eq (b := 0) h (by decide)
theorem nI_lz {n : Nat} (h : n < 2 ^ 31) : 0 < nI n ↔ 0 < n := nI_ltI (a := 0) (by decide) h
theorem nI_zl {n : Nat} (h : n < 2 ^ 31) : nI n ≤ 0 ↔ n = 0 := by
  have := nI_leI (a := n) (b := 0) h (by decide)
  exact this.trans ⟨fun z => by omega, fun z => by omega⟩
theorem ws_if_eqN (C : Cx F cc own dF cF sF) {x : Nat} (d : AtC cc pc (.ifCond .eq) tgt pc') (hx : x < 2 ^ 31) (kt : x = 0 → WS F tgt lv st S cs ss) (kf : ¬ x = 0 → WS F pc' lv st S cs ss) : WS F pc lv (.int (nI x) :: st) S cs ss :=
  ws_if_eq C d (fun h => kt ((nI_z hx).mp h)) (fun h => kf (fun z => h ((nI_z hx).mpr z)))
theorem ws_if_neN (C : Cx F cc own dF cF sF) {x : Nat} (d : AtC cc pc (.ifCond .ne) tgt pc') (hx : x < 2 ^ 31) (kt : ¬ x = 0 → WS F tgt lv st S cs ss) (kf : x = 0 → WS F pc' lv st S cs ss) : WS F pc lv (.int (nI x) :: st) S cs ss :=
  ws_if_ne C d (fun h => kt (fun z => h ((nI_z hx).mpr z))) (fun h => kf ((nI_z hx).mp h))
theorem ws_if_gtN (C : Cx F cc own dF cF sF) {x : Nat} (d : AtC cc pc (.ifCond .gt) tgt pc') (hx : x < 2 ^ 31) (kt : 0 < x → WS F tgt lv st S cs ss) (kf : x = 0 → WS F pc' lv st S cs ss) : WS F pc lv (.int (nI x) :: st) S cs ss :=
  ws_if_gt C d (fun h => kt ((nI_lz hx).mp h)) (fun h => kf (by have hh : ¬ 0 < x := fun z => h ((nI_lz hx).mpr z); omega))
theorem ws_if_leN (C : Cx F cc own dF cF sF) {x : Nat} (d : AtC cc pc (.ifCond .le) tgt pc') (hx : x < 2 ^ 31) (kt : x = 0 → WS F tgt lv st S cs ss) (kf : 0 < x → WS F pc' lv st S cs ss) : WS F pc lv (.int (nI x) :: st) S cs ss :=
  ws_if_le C d (fun h => kt ((nI_zl hx).mp h)) (fun h => kf (by have hh : ¬ x = 0 := fun z => h ((nI_zl hx).mpr z); omega))
/-- a number that is not below zero -/
theorem ws_if_ltN (C : Cx F cc own dF cF sF) {x : Nat} (d : AtC cc pc (.ifCond .lt) tgt pc') (hx : x < 2 ^ 31) (kf : WS F pc' lv st S cs ss) : WS F pc lv (.int (nI x) :: st) S cs ss :=
  ws_if_lt C d (fun h => absurd h (nI_pos hx)) (fun _ => kf)
theorem ws_if_geN (C : Cx F cc own dF cF sF) {x : Nat} (d : AtC cc pc (.ifCond .ge) tgt pc') (hx : x < 2 ^ 31) (kt : WS F tgt lv st S cs ss) : WS F pc lv (.int (nI x) :: st) S cs ss :=
  ws_if_ge C d (fun _ => kt) (fun h => absurd (nI_pos' hx) h)
/-- -1 -/
theorem ws_if_ltM (C : Cx F cc own dF cF sF) (d : AtC cc pc (.ifCond .lt) tgt pc') (kt : WS F tgt lv st S cs ss) : WS F pc lv (.int (-1) :: st) S cs ss :=
  ws_if_lt C d (fun _ => kt) (fun h => absurd (show (-1 : Int32) < 0 by decide) h)
theorem ws_if_geM (C : Cx F cc own dF cF sF) (d : AtC cc pc (.ifCond .ge) tgt pc') (kf : WS F pc' lv st S cs ss) : WS F pc lv (.int (-1) :: st) S cs ss :=
  ws_if_ge C d (fun h => absurd h (show ¬ (0 : Int32) ≤ -1 by decide)) (fun _ => kf)
def bI (b : Bool) : Int32 := if b = true then 1 else 0
theorem bI_t : bI true = 1 := rfl
theorem bI_f : bI false = 0 := rfl
theorem bI_0 (b : Bool) : bI b = 0 ↔ b = false := by cases b <;> decide
theorem ws_if_eqB (C : Cx F cc own dF cF sF) {b : Bool} (d : AtC cc pc (.ifCond .eq) tgt pc') (kt : b = false → WS F tgt lv st S cs ss) (kf : b = true → WS F pc' lv st S cs ss) : WS F pc lv (.int (bI b) :: st) S cs ss :=
  ws_if_eq C d (fun h => kt ((bI_0 b).mp h)) (fun h => kf (by cases b; exact absurd rfl h; rfl))
theorem ws_if_neB (C : Cx F cc own dF cF sF) {b : Bool} (d : AtC cc pc (.ifCond .ne) tgt pc') (kt : b = true → WS F tgt lv st S cs ss) (kf : b = false → WS F pc' lv st S cs ss) : WS F pc lv (.int (bI b) :: st) S cs ss :=
  ws_if_ne C d (fun h => kt (by cases b; exact absurd rfl h; rfl)) (fun h => kf ((bI_0 b).mp h))
theorem ws_ifnull (C : Cx F cc own dF cF sF) {x : Nat} (d : AtC cc pc .ifnull tgt pc') (k : WS F pc' lv st S cs ss) : WS F pc lv (.ref x :: st) S cs ss := by
  obtain ⟨off, d, ht, rfl⟩ := d
  intro ls H locs hl hw hS
  exact lv_ifnull C.x C.b d (k ls H locs hl hw hS)
theorem ws_ifnullN (C : Cx F cc own dF cF sF) (d : AtC cc pc .ifnull tgt pc') (k : WS F tgt lv st S cs ss) : WS F pc lv (.null :: st) S cs ss := by
  obtain ⟨off, d, ht, rfl⟩ := d
  intro ls H locs hl hw hS
  exact lv_ifnullN C.x C.b d ht (k ls H locs hl hw hS)
theorem ws_ifnonnull (C : Cx F cc own dF cF sF) {x : Nat} (d : AtC cc pc .ifnonnull tgt pc') (k : WS F tgt lv st S cs ss) : WS F pc lv (.ref x :: st) S cs ss := by
  obtain ⟨off, d, ht, rfl⟩ := d
  intro ls H locs hl hw hS
  exact lv_ifnonnull C.x C.b d ht (k ls H locs hl hw hS)
theorem ws_ifnonnullN (C : Cx F cc own dF cF sF) (d : AtC cc pc .ifnonnull tgt pc') (k : WS F pc' lv st S cs ss) : WS F pc lv (.null :: st) S cs ss := by
  obtain ⟨off, d, ht, rfl⟩ := d
  intro ls H locs hl hw hS
  exact lv_ifnonnullN C.x C.b d (k ls H locs hl hw hS)
/-- tableswitch at a number of its table, and beside it -/
theorem ws_tabIn (C : Cx F cc own dF cF sF) {df lo hi : Int} {offs : Array Int} {len : Nat} {x : Int32} (off : Int) (d : decode cc pc = .ok (.tableswitch df lo hi offs, len)) (h1 : ¬ x.toInt < lo) (h2 : ¬ hi < x.toInt) (ho : offs[(x.toInt - lo).toNat]? = some off) (ht : (pc : Int) + off = (tgt : Int)) (k : WS F tgt lv st S cs ss) : WS F pc lv (.int x :: st) S cs ss := by
  intro ls H locs hl hw hS
  exact lv_tableIn C.x C.b d h1 h2 ho ht (k ls H locs hl hw hS)
theorem ws_tabOut (C : Cx F cc own dF cF sF) {df lo hi : Int} {offs : Array Int} {len : Nat} {x : Int32} (d : decode cc pc = .ok (.tableswitch df lo hi offs, len)) (h : x.toInt < lo ∨ hi < x.toInt) (ht : (pc : Int) + df = (tgt : Int)) (k : WS F tgt lv st S cs ss) : WS F pc lv (.int x :: st) S cs ss := by
  intro ls H locs hl hw hS
  exact lv_tableOut C.x C.b d h ht (k ls H locs hl hw hS)
end ROWS
