/-! contracts, calls, returns -/
/-- a method: name, code, locals, what it returns, how deep its calls go -/
abbrev MI : Type := MethodName × ByteArray × Nat × Option FieldType × Nat
def rmD (d mc ms : Nat) : Room := { frames := d, cells := mc, slots := ms, locals := 39 * d }
def QcT (Post : Option Value → Sto → Prop) (V : Ev) : Array Value → State → Outcome → State → Prop := fun _ st oc t => (∃ (v : Option Value) (S' : Sto), oc = .returned v ∧ Post v S' ∧ Wd (vD V) (vY V) (vA V) S' t.heap) ∧ va_F (vA V) st t
/-- the contract: from store S with arguments av, method mi returns with Post, at most mc new cells of ms slots -/
def CT (V : Ev) (mi : MI) (mc ms : Nat) (av : List Value) (S : Sto) (Post : Option Value → Sto → Prop) : Prop :=
  Met (vL V) mi.1 (Cond.code mi.1 mi.2.1 mi.2.2.1 mi.2.2.2.1 :: TB) (rmD mi.2.2.2.2 mc ms) (va_Pc av (fun U => Wd (vD V) (vY V) (vA V) S U.heap ∧ KK (vD V) (vY V) (vA V) (vZ V) U U.heap)) (QcT Post V) mc ms (vA V)
/-- the end of a walk -/
def RT (F : Fx) (mi : MI) (mc ms : Nat) (Post : Option Value → Sto → Prop) : Prop := xQ F = MQ (xb F) (QcT Post F.1) (xa F) (xs F) mc ms (xA F) ∧ (xt F).sig.returnType = mi.2.2.2.1 ∧ (xt F).locks = false ∧ (xt F).name = mi.1.name
theorem LH.entry {av : List Value} {n : Nat} (h1 : ∀ v ∈ av, v.category = 1) (hn : av.length ≤ n) : LH ((lg_sl av ++ List.replicate (n - (lg_sl av).length) Slot.unset).toArray) n (av.map some) := by
  have hsl : ∀ l : List Value, (∀ v ∈ l, v.category = 1) → lg_sl l = l.map Slot.val := by
    intro l
    induction l with
    | nil => intro _; rfl
    | cons v t ih =>
      intro h
      have hv : ¬ v.category = 2 := by rw [h v List.mem_cons_self]; decide
      have := ih (fun w hw => h w (List.mem_cons_of_mem _ hw))
      unfold lg_sl at this ⊢
      rw [List.flatMap_cons, this, if_neg hv]
      rfl
  have e := hsl av h1
  have hlen : (lg_sl av).length ≤ n := by rw [e, List.length_map]; exact hn
  have hh := lv_entry av hlen
  refine ⟨hh.1, hh.2.1, fun i v hi => ?_⟩
  rw [List.getElem?_map] at hi
  cases hav : av[i]? with
  | none => rw [hav] at hi; cases hi
  | some w =>
    rw [hav] at hi
    cases hi
    refine ⟨h1 v (List.mem_of_getElem? hav), ?_⟩
    have hl := (List.getElem?_eq_some_iff.mp hav).1
    rw [e]
    rw [List.getElem?_toArray, List.getElem?_append_left (by rw [List.length_map]; exact hl), List.getElem?_map, hav]
    rfl
theorem LH.more {ls : Array Slot} {n k : Nat} {lv : List (Option Value)} (h : LH ls n lv) : LH ls n (lv ++ List.replicate k none) := ⟨h.1, h.2.1, fun i v hi => by
  by_cases hl : i < lv.length
  · rw [List.getElem?_append_left hl] at hi
    exact h.2.2 i v hi
  · rw [List.getElem?_append_right (by omega)] at hi
    have := List.mem_of_getElem? hi
    have := List.eq_of_mem_replicate this
    cases this⟩
theorem CT.of {V : Ev} {mi : MI} {mc ms : Nat} {av : List Value} {S : Sto} {Post : Option Value → Sto → Prop} {cc : ByteArray} {own : String} {nL d : Nat} {lv : List (Option Value)} (hy : plainName mi.1.cls = true) (hcc : mi.2.1 = cc) (hown : mi.1.cls = own) (hnL : mi.2.2.1 = nL) (hd : mi.2.2.2.2 = d) (h1 : ∀ v ∈ av, v.category = 1) (hn : av.length ≤ nL) (hlv : lv = av.map some ++ List.replicate (nL - av.length) none)
    (body : ∀ F : Fx, F.1 = V → xn F = nL → Cx F cc own d mc ms → RT F mi mc ms Post → WS F 0 lv [] S 0 0) : CT V mi mc ms av S Post := by
  subst hcc; subst hown; subst hnL; subst hd; subst hlv
  refine Met.ofW (cc := mi.2.1) (maxL := mi.2.2.1) (ret := mi.2.2.2.1) hy rfl ?_
  intro p e s m args below meth c s₁ B hml hv
  obtain ⟨rfl, hW, hK⟩ := hv
  have hts : ∀ w ∈ TB, w.before av.toArray s = true := fun w hw => atoms_spec (ws := Cond.code mi.1 mi.2.1 mi.2.2.1 mi.2.2.2.1 :: TB) B.pre w (List.mem_cons_of_mem _ hw)
  have k := body (V, (p, e, rmD mi.2.2.2.2 mc ms, s, m, av.toArray, below), (meth, c, MQ below (QcT Post V) av.toArray s mc ms (vA V)), mi.2.2.1) rfl rfl
    ⟨⟨Nat.le_refl _, Nat.le_refl _, rfl, rfl⟩, B.exec, B.bytes, hml, findClass_of_methodNamed B.named, hts, hK⟩ ⟨rfl, B.returns, B.notSynchronized, (name_of_methodNamed B.named B.method).1⟩
  rw [lg_entry_eq]
  exact k _ s.heap [] (LH.entry h1 hn).more hW va_S.rf
section ROWS
variable {F : Fx} {cc : ByteArray} {own : String} {pc pc' tgt : Nat} {lv : List (Option Value)} {st : List Value} {S : Sto} {cs ss : Nat} {dF cF sF : Nat} {mi : MI} {mc ms : Nat} {Post : Option Value → Sto → Prop}
theorem ws_iret (C : Cx F cc own dF cF sF) (R : RT F mi mc ms Post) (d : At cc pc .ireturn 1 pc') (hr : mi.2.2.2.1 = some .int) {v : Int32} (hc : cs ≤ mc) (hs : ss ≤ ms) (h : Post (some (.int v)) S) : WS F pc lv [.int v] S cs ss := by
  intro ls H locs hl hw hS
  refine W.widen hc hs ?_
  rw [R.1]
  exact W.iret C.x C.b (R.2.1.trans hr) (fun t ht hW => ⟨⟨_, S, rfl, h, by rw [ht]; exact hw⟩, hS.F ht⟩) hS.2.2 d.1 R.2.2.1
theorem ws_zret (C : Cx F cc own dF cF sF) (R : RT F mi mc ms Post) (d : At cc pc .ireturn 1 pc') (hr : mi.2.2.2.1 = some .boolean) {v : Int32} (hv : v = 0 ∨ v = 1) (hc : cs ≤ mc) (hs : ss ≤ ms) (h : Post (some (.int v)) S) : WS F pc lv [.int v] S cs ss := by
  intro ls H locs hl hw hS
  refine W.widen hc hs ?_
  rw [R.1]
  exact W.zret C.x C.b (R.2.1.trans hr) (by rcases hv with rfl | rfl <;> rfl) (fun t ht hW => ⟨⟨_, S, rfl, h, by rw [ht]; exact hw⟩, hS.F ht⟩) hS.2.2 d.1 R.2.2.1
theorem ws_vret (C : Cx F cc own dF cF sF) (R : RT F mi mc ms Post) (d : At cc pc .return_ 1 pc') (hr : mi.2.2.2.1 = none) (hc : cs ≤ mc) (hs : ss ≤ ms) (h : Post none S) : WS F pc lv [] S cs ss := by
  intro ls H locs hl hw hS
  refine W.widen hc hs ?_
  rw [R.1]
  exact W.vret C.x C.b (R.2.1.trans hr) (fun t ht hW => ⟨⟨_, S, rfl, h, by rw [ht]; exact hw⟩, hS.F ht⟩) hS.2.2 d.1 R.2.2.1
theorem ws_aret (C : Cx F cc own dF cF sF) (R : RT F mi mc ms Post) (d : At cc pc .areturn 1 pc') {rt : FieldType} (hr : mi.2.2.2.1 = some rt) (hrt : (∃ n, rt = .object n) ∨ ∃ t, rt = .array t) {v : Value} (hv : v = .null ∨ ∃ a, v = .ref a) (hc : cs ≤ mc) (hs : ss ≤ ms) (h : Post (some v) S) : WS F pc lv [v] S cs ss := by
  intro ls H locs hl hw hS
  refine W.widen hc hs ?_
  rw [R.1]
  exact W.aret C.x C.b (R.2.1.trans hr) hrt hv (fun t ht hW => ⟨⟨_, S, rfl, h, by rw [ht]; exact hw⟩, hS.F ht⟩) hS.2.2 d.1 R.2.2.1
/-- words of a call -/
def cOK (mi : MI) (n : Nat) : Prop := Cond.code mi.1 mi.2.1 mi.2.2.1 mi.2.2.2.1 ∈ TB ∧ Cond.initialized mi.1.cls ∈ TB ∧ mi.1.cls ≠ "java/lang/invoke/MethodHandle" ∧ mi.1.cls ≠ "java/lang/invoke/VarHandle" ∧ (parseMethodDescriptor mi.1.desc).map (fun d => d.parameters.length) = some n ∧ mi.2.2.1 ≤ 20
def cV (own : String) (idx kd : Nat) (mi : MI) (n : Nat) : Prop := cOK mi n ∧ Cond.methodLink own idx mi.1 ∈ TB ∧ Cond.instanceMethod mi.1 ∈ TB ∧ Cond.selects (cnm kd) mi.1 mi.1 ∈ TB ∧ 0 < kd ∧ kd ≤ 8
def cS (own : String) (idx : Nat) (mi : MI) (n : Nat) : Prop := cOK mi n ∧ Cond.methodLink own idx mi.1 ∈ TB ∧ Cond.static mi.1 ∈ TB
def cI (own : String) (idx : Nat) (mi : MI) (n : Nat) : Prop := cOK mi n ∧ Cond.methodLink own idx mi.1 ∈ TB ∧ Cond.instanceMethod mi.1 ∈ TB ∧ mi.1.name = "<init>" ∧ mi.2.2.2.1 = none
theorem cB (C : Cx F cc own dF cF sF) {idx n : Nat} (h : cOK mi n) (hl : Cond.methodLink own idx mi.1 ∈ TB) (hd : mi.2.2.2.2 < dF) : CallB (xR F) (xs F) (xa F) own idx mi.1 mi.2.1 mi.2.2.1 mi.2.2.2.1 (Cond.code mi.1 mi.2.1 mi.2.2.1 mi.2.2.2.1 :: TB) (rmD mi.2.2.2.2 mc ms) mc ms n := by
  obtain ⟨h1, h2, h3, h4, h5, h6⟩ := h
  refine callB_of n C.2.2.2.2.2.1 (tb_good (fun _ h => h) h1) rfl rfl rfl (C.t h2) (C.t hl) ⟨h3, h4, h5⟩ ⟨?_, ?_⟩
  · show mi.2.2.2.2 + 1 ≤ _
    have := C.1.1
    omega
  · show 8 + (mi.2.2.1 + 11) + 39 * mi.2.2.2.2 ≤ _
    have := C.1.2.1
    omega
theorem kk_pre (C : Cx F cc own dF cF sF) {H : Heap} {locs : List Loc} (hw : Wd (xD F) (xY F) (xA F) S H) (hS : va_S (xA F) (xs F).heap H locs) (av : List Value) : PreS (xs F) H (va_Pc av (fun U => Wd (vD F.1) (vY F.1) (vA F.1) S U.heap ∧ KK (vD F.1) (vY F.1) (vA F.1) (vZ F.1) U U.heap)) av := by
  refine ⟨fun a U g mk q => ?_, fun U hU hW => ?_⟩
  · obtain ⟨q0, q1, q2, q3, q4, q5⟩ := q
    exact ⟨q0, q1, va_K.moved (u := U) (U := U.calling g mk a) (Vm.Alike.refl U.vm) q2, ⟨va_Z.moved (u := U) (U := U.calling g mk a) (Vm.Alike.refl U.vm) q3.1, va_T.moved (u := U) (U := U.calling g mk a) (Vm.Alike.refl U.vm) q3.2⟩, q4, EX.same (s := U) (U := U.calling g mk a) rfl q5⟩
  · have hsz : ∀ a : Nat, a < (xs F).heap.size → ¬ xA F a → H[a]? = (xs F).heap[a]? := fun a h1 h2 => hS.2.1 a h1 h2
    refine ⟨rfl, by rw [hU]; exact hw, va_K.moved hW.alike C.k, ⟨?_, ?_⟩, fun q hq => C.A q (Nat.le_trans hS.1 (by rw [hU] at hq; exact hq)), C.E.warm hW⟩
    · rw [hU]; exact (C.z.1.kept hsz).moved hW.alike
    · rw [hU]; exact (C.z.2.kept hsz).moved hW.alike
theorem ws_back (C : Cx F cc own dF cF sF) {H : Heap} {locs : List Loc} {ls : Array Slot} {st0 rest : List Value} {av : Array Value} (hl : LH ls (xn F) lv) (hS : va_S (xA F) (xs F).heap H locs)
    (hr : va_Run (xp F) (xl F) (xe F) (xR F) (xs F) (xm F) (xa F) (xb F) (xt F) (xc F) H locs cs ss mc ms (F0 (xm F) pc ls st0) rest (QcT Post F.1 av) (vA F.1))
    (k : ∀ (v : Option Value) (S' : Sto), Post v S' → WS F (pc + 3) lv (v.toList ++ rest) S' (cs + mc) (ss + ms)) : W (xp F) (xl F) (xe F) (xR F) (xs F) (xm F) (xa F) (xb F) (xt F) (xc F) H locs cs ss (xQ F) (F0 (xm F) pc ls st0) := by
  intro T hT X
  obtain ⟨v, st₀, t, T', L, h0, X', hL, e1, e2, ⟨⟨v', S', hv, hp, hw'⟩, hz, hk⟩, st⟩ := hr T hT X
  cases hv
  rw [h0] at hz hk
  obtain ⟨t2, a1, b1⟩ := k v S' hp ls T'.heap (locs ++ L) hl (by rw [e1]; exact hw')
    ⟨Nat.le_trans hS.1 (by rw [e1]; exact hz), fun q h1 h2 => by rw [e1, hk q (Nat.lt_of_lt_of_le h1 hS.1) h2]; exact hS.2.1 q h1 h2, fun q hq => by
      rcases List.mem_append.mp hq with h | h
      · exact hS.2.2 q h
      · exact hL q h⟩ T' rfl X'
  exact ⟨t2, st t2 a1, b1⟩
theorem ws_callV (C : Cx F cc own dF cF sF) {idx kd n b : Nat} {As rest : List Value} (hw0 : cV own idx kd mi n) (hM : CT F.1 mi mc ms (.ref b :: As) S Post) (d : At cc pc (.invokevirtual idx) 3 pc') (hst : st = As.reverse ++ .ref b :: rest) (hn : As.length = n) (hb : sK S b = kd) (hroom : (rest.map fun v => v.category).sum ≤ 8) (hd : mi.2.2.2.2 < dF) (hc : cs + mc ≤ cF) (hs : ss + ms ≤ sF)
    (k : ∀ (v : Option Value) (S' : Sto), Post v S' → WS F pc' lv (v.toList ++ rest) S' (cs + mc) (ss + ms)) : WS F pc lv st S cs ss := by
  obtain ⟨d, rfl⟩ := d
  obtain ⟨w1, w2, w3, w4, w5, w6⟩ := hw0
  intro ls H locs hl hw hS
  obtain ⟨q, hq⟩ := wl_get hw (cel_o hb w5 w6)
  have hpre := kk_pre C hw hS (.ref b :: As)
  refine ws_back C hl hS (va_runV ⟨C.x, C.b, C.ml, C.o, C.2.2.2.2.2.1⟩ hM ⟨cB C w1 w2 hd, C.t w3, C.t w4⟩ ⟨hpre.1, va_recv C.k (wl_P hw) (vCl_at w5 w6) hq, hpre.2⟩ rfl hn hl.1 hst (lv_room hroom) d ⟨by rw [C.1.2.2.1]; exact hc, by rw [C.1.2.2.2]; exact hs⟩) k
theorem ws_callS (C : Cx F cc own dF cF sF) {idx n : Nat} {As rest : List Value} (hw0 : cS own idx mi n) (hM : CT F.1 mi mc ms As S Post) (d : At cc pc (.invokestatic idx) 3 pc') (hst : st = As.reverse ++ rest) (hn : As.length = n) (hroom : (rest.map fun v => v.category).sum ≤ 8) (hd : mi.2.2.2.2 < dF) (hc : cs + mc ≤ cF) (hs : ss + ms ≤ sF)
    (k : ∀ (v : Option Value) (S' : Sto), Post v S' → WS F pc' lv (v.toList ++ rest) S' (cs + mc) (ss + ms)) : WS F pc lv st S cs ss := by
  obtain ⟨d, rfl⟩ := d
  obtain ⟨w1, w2, w3⟩ := hw0
  intro ls H locs hl hw hS
  exact ws_back C hl hS (va_runS ⟨C.x, C.b, C.ml, C.o, C.2.2.2.2.2.1⟩ hM ⟨cB C w1 w2 hd, C.t w3⟩ (kk_pre C hw hS As) rfl hn hl.1 hst (lv_room hroom) d ⟨by rw [C.1.2.2.1]; exact hc, by rw [C.1.2.2.2]; exact hs⟩) k
theorem ws_callI (C : Cx F cc own dF cF sF) {idx n b : Nat} {As rest : List Value} (hw0 : cI own idx mi n) (hM : CT F.1 mi mc ms (.ref b :: As) S Post) (d : At cc pc (.invokespecial idx) 3 pc') (hst : st = As.reverse ++ .ref b :: rest) (hn : As.length = n) (hroom : (rest.map fun v => v.category).sum ≤ 8) (hd : mi.2.2.2.2 < dF) (hc : cs + mc ≤ cF) (hs : ss + ms ≤ sF)
    (k : ∀ (v : Option Value) (S' : Sto), Post v S' → WS F pc' lv (v.toList ++ rest) S' (cs + mc) (ss + ms)) : WS F pc lv st S cs ss := by
  obtain ⟨d, rfl⟩ := d
  obtain ⟨w1, w2, w3, w4, w5⟩ := hw0
  intro ls H locs hl hw hS
  have hcb := cB (mc := mc) (ms := ms) C w1 w2 hd
  rw [w5] at hcb
  have hM' : Met (vL F.1) mi.1 (Cond.code mi.1 mi.2.1 mi.2.2.1 none :: TB) (rmD mi.2.2.2.2 mc ms) (va_Pc (.ref b :: As) (fun U => Wd (vD F.1) (vY F.1) (vA F.1) S U.heap ∧ KK (vD F.1) (vY F.1) (vA F.1) (vZ F.1) U U.heap)) (QcT Post F.1) mc ms (vA F.1) := by
    unfold CT at hM
    rw [w5] at hM
    exact hM
  exact ws_back C hl hS (va_runI ⟨C.x, C.b, C.ml, C.o, C.2.2.2.2.2.1⟩ hM' ⟨hcb, w4, C.t w3⟩ (kk_pre C hw hS (.ref b :: As)) rfl hn hl.1 hst (lv_room hroom) d ⟨by rw [C.1.2.2.1]; exact hc, by rw [C.1.2.2.2]; exact hs⟩) k
theorem ws_objInit (C : Cx F cc own dF cF sF) {idx a : Nat} (hl0 : Cond.methodLink own idx objectInit ∈ TB) (h1 : Cond.instanceMethod objectInit ∈ TB) (h2 : Cond.code objectInit ⟨#[0xb1]⟩ 1 none ∈ TB) (d : At cc pc (.invokespecial idx) 3 pc') (hroom : (st.map fun v => v.category).sum ≤ 8) (hd : 0 < dF) (k : WS F pc' lv st S cs ss) : WS F pc lv (.ref a :: st) S cs ss := by
  obtain ⟨d, rfl⟩ := d
  intro ls H locs hl hw hS
  have hlr := lv_room (m := xm F) (pc := pc) (ls := ls) (rest := .ref a :: st) hroom
  refine W.objInit C.x C.b C.o (C.t hl0) (C.t h1) (C.t h2) rfl (by rw [C.ml]; exact hl.1) (a := a) (rest := st) rfl d ?_ ?_ (k ls H locs hl hw hS)
  · have := C.1.1; omega
  · have := C.1.2.1; omega
end ROWS
