/-! two stores in one heap: the class's cells, and the reference's; calls that see one of them; the script -/
def Ap (S1 S2 : Sto) : Prop := ∀ a, sK S1 a = 0 ∨ sK S2 a = 0
theorem Ap.symm {S1 S2 : Sto} (h : Ap S1 S2) : Ap S2 S1 := fun a => (h a).symm
def mg (S1 S2 : Sto) : Sto := (fun a => if sK S2 a = 0 then sK S1 a else sK S2 a, fun f a => if sK S2 a = 0 then sI S1 f a else sI S2 f a, fun f a => if sK S2 a = 0 then sP S1 f a else sP S2 f a, fun k a => if sK S2 a = 0 then sE S1 k a else sE S2 k a, fun k a => if sK S2 a = 0 then sQ S1 k a else sQ S2 k a, fun a => if sK S2 a = 0 then sZ S1 a else sZ S2 a)
theorem cel_z {Y : Nat → ClassId} {S : Sto} {a : Nat} (h : sK S a = 0) : cel Y S a = none := by unfold cel; rw [if_pos h]
theorem cel_s {Y : Nat → ClassId} {S : Sto} {a : Nat} (h : sK S a ≠ 0) : ∃ e, cel Y S a = some e := by
  cases hc : cel Y S a with
  | none => exact absurd (cel_n hc) h
  | some e => exact ⟨e, rfl⟩
theorem mg_l {Y : Nat → ClassId} {S1 S2 : Sto} {a : Nat} (h : sK S2 a = 0) : cel Y (mg S1 S2) a = cel Y S1 a :=
  cel_congr (by show ite _ _ _ = _; rw [if_pos h]) (fun f => by show ite _ _ _ = _; rw [if_pos h]) (fun f => by show ite _ _ _ = _; rw [if_pos h]) (fun f => by show ite _ _ _ = _; rw [if_pos h]) (fun f => by show ite _ _ _ = _; rw [if_pos h]) (by show ite _ _ _ = _; rw [if_pos h])
theorem mg_r {Y : Nat → ClassId} {S1 S2 : Sto} {a : Nat} (h : sK S2 a ≠ 0) : cel Y (mg S1 S2) a = cel Y S2 a :=
  cel_congr (by show ite _ _ _ = _; rw [if_neg h]) (fun f => by show ite _ _ _ = _; rw [if_neg h]) (fun f => by show ite _ _ _ = _; rw [if_neg h]) (fun f => by show ite _ _ _ = _; rw [if_neg h]) (fun f => by show ite _ _ _ = _; rw [if_neg h]) (by show ite _ _ _ = _; rw [if_neg h])
theorem mg_swap {Y : Nat → ClassId} {S1 S2 : Sto} (h : Ap S1 S2) (a : Nat) : cel Y (mg S1 S2) a = cel Y (mg S2 S1) a := by
  by_cases h2 : sK S2 a = 0
  · rw [mg_l h2]
    by_cases h1 : sK S1 a = 0
    · rw [mg_l h1, cel_z h1, cel_z h2]
    · rw [mg_r h1]
  · rw [mg_r h2]
    rcases h a with h1 | h1
    · rw [mg_l h1]
    · exact absurd h1 h2
theorem mg_k1 {S1 S2 : Sto} (h : Ap S1 S2) {a kd : Nat} (hk : sK S1 a = kd) (h0 : 0 < kd) : sK (mg S1 S2) a = kd := by
  show ite _ _ _ = _
  rcases h a with h1 | h1
  · omega
  · rw [if_pos h1, hk]
/-- the cell that 'new' makes, alone -/
def one (S : Sto) (q kd : Nat) : Sto := (va_up (fun _ => 0) q kd, (newO S q kd).2)
theorem one_k {S : Sto} {q kd : Nat} : sK (one S q kd) q = kd := by simp [one, sK, va_up]
theorem one_n {S : Sto} {q kd a : Nat} (h : a ≠ q) : sK (one S q kd) a = 0 := by simp [one, sK, va_up, h]
theorem one_i {S : Sto} {q kd f : Nat} (h : f / 32 = kd) : sI (one S q kd) f q = 0 := by simp [one, newO, sI, h]
theorem one_ap {S : Sto} {q kd : Nat} (h : sK S q = 0) : Ap (one S q kd) S := fun a => by
  by_cases ha : a = q
  · subst ha; exact Or.inr h
  · exact Or.inl (one_n ha)
theorem one_mg {Y : Nat → ClassId} {S : Sto} {q kd : Nat} (h : sK S q = 0) (a : Nat) : cel Y (newO S q kd) a = cel Y (mg (one S q kd) S) a := by
  by_cases ha : a = q
  · subst ha
    rw [mg_l h]
    exact cel_congr (by rw [one_k]; simp [newO, sK, va_up]) (fun _ => rfl) (fun _ => rfl) (fun _ => rfl) (fun _ => rfl) rfl
  · rw [cel_nO a ha]
    by_cases h2 : sK S a = 0
    · rw [mg_l h2, cel_z h2, cel_z (one_n ha)]
    · rw [mg_r h2]
section ROWS
variable {F : Fx} {cc : ByteArray} {own : String} {pc pc' tgt : Nat} {lv : List (Option Value)} {st : List Value} {S S1 S2 : Sto} {cs ss : Nat} {dF cF sF : Nat} {mi : MI} {mc ms : Nat} {Post : Option Value → Sto → Prop}
theorem ws_cel {S' : Sto} (h : ∀ a, cel (xY F) S a = cel (xY F) S' a) (k : WS F pc lv st S' cs ss) : WS F pc lv st S cs ss := fun ls H locs hl hw hS => k ls H locs hl (fun a e he => hw a e (by rw [h a]; exact he)) hS
/-- the environment of a call that sees S1 alone -/
abbrev vO (F : Fx) (S2 : Sto) : Ev := (xl F, xD F, xY F, fun q => xA F q ∧ sK S2 q = 0, xz F)
theorem wd_1 {H : Heap} (hap : Ap S1 S2) (hw : Wd (xD F) (xY F) (xA F) (mg S1 S2) H) : Wd (xD F) (xY F) (vA (vO F S2)) S1 H := by
  intro a e he
  have h1 : sK S1 a ≠ 0 := fun z => by rw [cel_z z] at he; cases he
  have h2 : sK S2 a = 0 := (hap a).resolve_left h1
  have h3 := hw a e (by rw [mg_l h2]; exact he)
  exact ⟨h3.1, h3.2, h2⟩
theorem kk_pre1 (C : Cx F cc own dF cF sF) (hap : Ap S1 S2) {H : Heap} {locs : List Loc} (hw : Wd (xD F) (xY F) (xA F) (mg S1 S2) H) (hS : va_S (xA F) (xs F).heap H locs) (av : List Value) : PreS (xs F) H (va_Pc av (fun U => Wd (vD (vO F S2)) (vY (vO F S2)) (vA (vO F S2)) S1 U.heap ∧ KK (vD (vO F S2)) (vY (vO F S2)) (vA (vO F S2)) (vZ (vO F S2)) U U.heap)) av := by
  refine ⟨fun a U g mk q => ?_, fun U hU hW => ?_⟩
  · obtain ⟨q0, q1, q2, q3, q4, q5⟩ := q
    exact ⟨q0, q1, va_K.moved (u := U) (U := U.calling g mk a) (Vm.Alike.refl U.vm) q2, ⟨va_Z.moved (u := U) (U := U.calling g mk a) (Vm.Alike.refl U.vm) q3.1, va_T.moved (u := U) (U := U.calling g mk a) (Vm.Alike.refl U.vm) q3.2⟩, q4, EX.same (s := U) (U := U.calling g mk a) rfl q5⟩
  · have hsz : ∀ a : Nat, a < (xs F).heap.size → ¬ xA F a → H[a]? = (xs F).heap[a]? := fun a h1 h2 => hS.2.1 a h1 h2
    refine ⟨rfl, by rw [hU]; exact wd_1 hap hw, va_K.moved hW.alike C.k, ⟨?_, ?_⟩, fun q hq => ⟨C.A q (Nat.le_trans hS.1 (by rw [hU] at hq; exact hq)), ?_⟩, C.E.warm hW⟩
    · rw [hU]; exact ((C.z.1.kept hsz).moved hW.alike).narrow (fun _ h => h.1)
    · rw [hU]; exact ((C.z.2.kept hsz).moved hW.alike).narrow (fun _ h => h.1)
    · by_cases h2 : sK S2 q = 0
      · exact h2
      · obtain ⟨e, he⟩ := cel_s (Y := xY F) h2
        have := (hw q e (by rw [mg_r h2]; exact he)).1.lt
        rw [hU] at hq
        exact absurd hq (Nat.not_le.mpr this)
theorem ws_back1 (C : Cx F cc own dF cF sF) {H : Heap} {locs : List Loc} {ls : Array Slot} {st0 rest : List Value} {av : Array Value} (hl : LH ls (xn F) lv) (hw : Wd (xD F) (xY F) (xA F) (mg S1 S2) H) (hS : va_S (xA F) (xs F).heap H locs)
    (hr : va_Run (xp F) (xl F) (xe F) (xR F) (xs F) (xm F) (xa F) (xb F) (xt F) (xc F) H locs cs ss mc ms (F0 (xm F) pc ls st0) rest (QcT Post (vO F S2) av) (vA (vO F S2)))
    (k : ∀ (v : Option Value) (S' : Sto), Post v S' → Ap S' S2 → WS F (pc + 3) lv (v.toList ++ rest) (mg S' S2) (cs + mc) (ss + ms)) : W (xp F) (xl F) (xe F) (xR F) (xs F) (xm F) (xa F) (xb F) (xt F) (xc F) H locs cs ss (xQ F) (F0 (xm F) pc ls st0) := by
  intro T hT X
  obtain ⟨v, st₀, t, T', L, h0, X', hL, e1, e2, ⟨⟨v', S', hv, hp, hw'⟩, hz, hk⟩, st⟩ := hr T hT X
  cases hv
  rw [h0] at hz hk
  have hap' : Ap S' S2 := fun a => by
    by_cases h1 : sK S' a = 0
    · exact Or.inl h1
    · obtain ⟨e, he⟩ := cel_s (Y := xY F) h1
      exact Or.inr (hw' a e he).2.2
  have hwd : Wd (xD F) (xY F) (xA F) (mg S' S2) t.heap := by
    intro a e he
    by_cases h2 : sK S2 a = 0
    · rw [mg_l h2] at he
      exact ⟨(hw' a e he).1, (hw' a e he).2.1⟩
    · rw [mg_r h2] at he
      have h3 := hw a e (by rw [mg_r h2]; exact he)
      exact ⟨h3.1.kept (hk a h3.1.lt (fun z => h2 z.2)), h3.2⟩
  obtain ⟨t2, a1, b1⟩ := k v S' hp hap' ls T'.heap (locs ++ L) hl (by rw [e1]; exact hwd)
    ⟨Nat.le_trans hS.1 (by rw [e1]; exact hz), fun q h1 h2 => by rw [e1, hk q (Nat.lt_of_lt_of_le h1 hS.1) (fun z => h2 z.1)]; exact hS.2.1 q h1 h2, fun q hq => by
      rcases List.mem_append.mp hq with h | h
      · exact hS.2.2 q h
      · exact (hL q h).1⟩ T' rfl X'
  exact ⟨t2, st t2 a1, b1⟩
theorem ws_call1V (C : Cx F cc own dF cF sF) {idx kd n b : Nat} {As rest : List Value} (hw0 : cV own idx kd mi n) (hap : Ap S1 S2) (hM : CT (vO F S2) mi mc ms (.ref b :: As) S1 Post) (d : At cc pc (.invokevirtual idx) 3 pc') (hst : st = As.reverse ++ .ref b :: rest) (hn : As.length = n) (hb : sK S1 b = kd) (hroom : (rest.map fun v => v.category).sum ≤ 8) (hd : mi.2.2.2.2 < dF) (hc : cs + mc ≤ cF) (hs : ss + ms ≤ sF)
    (k : ∀ (v : Option Value) (S' : Sto), Post v S' → Ap S' S2 → WS F pc' lv (v.toList ++ rest) (mg S' S2) (cs + mc) (ss + ms)) : WS F pc lv st (mg S1 S2) cs ss := by
  obtain ⟨d, rfl⟩ := d
  obtain ⟨w1, w2, w3, w4, w5, w6⟩ := hw0
  intro ls H locs hl hw hS
  obtain ⟨q, hq⟩ := wl_get hw (cel_o (mg_k1 hap hb w5) w5 w6)
  have hpre := kk_pre1 C hap hw hS (.ref b :: As)
  refine ws_back1 C hl hw hS (va_runV ⟨C.x, C.b, C.ml, C.o, C.2.2.2.2.2.1⟩ hM ⟨cB C w1 w2 hd, C.t w3, C.t w4⟩ ⟨hpre.1, va_recv C.k (wl_P hw) (vCl_at w5 w6) hq, hpre.2⟩ rfl hn hl.1 hst (lv_room hroom) d ⟨by rw [C.1.2.2.1]; exact hc, by rw [C.1.2.2.2]; exact hs⟩) k
theorem ws_call1I (C : Cx F cc own dF cF sF) {idx n b : Nat} {As rest : List Value} (hw0 : cI own idx mi n) (hap : Ap S1 S2) (hM : CT (vO F S2) mi mc ms (.ref b :: As) S1 Post) (d : At cc pc (.invokespecial idx) 3 pc') (hst : st = As.reverse ++ .ref b :: rest) (hn : As.length = n) (hroom : (rest.map fun v => v.category).sum ≤ 8) (hd : mi.2.2.2.2 < dF) (hc : cs + mc ≤ cF) (hs : ss + ms ≤ sF)
    (k : ∀ (v : Option Value) (S' : Sto), Post v S' → Ap S' S2 → WS F pc' lv (v.toList ++ rest) (mg S' S2) (cs + mc) (ss + ms)) : WS F pc lv st (mg S1 S2) cs ss := by
  obtain ⟨d, rfl⟩ := d
  obtain ⟨w1, w2, w3, w4, w5⟩ := hw0
  intro ls H locs hl hw hS
  have hcb := cB (mc := mc) (ms := ms) C w1 w2 hd
  rw [w5] at hcb
  have hM' : Met (vL (vO F S2)) mi.1 (Cond.code mi.1 mi.2.1 mi.2.2.1 none :: TB) (rmD mi.2.2.2.2 mc ms) (va_Pc (.ref b :: As) (fun U => Wd (vD (vO F S2)) (vY (vO F S2)) (vA (vO F S2)) S1 U.heap ∧ KK (vD (vO F S2)) (vY (vO F S2)) (vA (vO F S2)) (vZ (vO F S2)) U U.heap)) (QcT Post (vO F S2)) mc ms (vA (vO F S2)) := by
    unfold CT at hM
    rw [w5] at hM
    exact hM
  exact ws_back1 C hl hw hS (va_runI ⟨C.x, C.b, C.ml, C.o, C.2.2.2.2.2.1⟩ hM' ⟨hcb, w4, C.t w3⟩ (kk_pre1 C hap hw hS (.ref b :: As)) rfl hn hl.1 hst (lv_room hroom) d ⟨by rw [C.1.2.2.1]; exact hc, by rw [C.1.2.2.2]; exact hs⟩) k
-- the script
theorem ws_slen (C : Cx F cc own dF cF sF) {b L : Nat} {sc : Nat → Int32} (hX : va_X b L sc (xs F) (xs F).heap) (hbA : ¬ xA F b) (d : At cc pc .arraylength 1 pc') (k : WS F pc' lv (.int (nI L) :: st) S cs ss) : WS F pc lv (.ref b :: st) S cs ss := by
  obtain ⟨d, rfl⟩ := d
  intro ls H locs hl hw hS
  have hb : b < (xs F).heap.size := by
    obtain ⟨scr, h1, -⟩ := hX
    exact (Array.getElem?_eq_some_iff.mp h1).1
  exact va_slen C.x C.b hX hb hbA hS d (k ls H locs hl hw hS)
theorem ws_sld (C : Cx F cc own dF cF sF) {b L i : Nat} {sc : Nat → Int32} (hX : va_X b L sc (xs F) (xs F).heap) (hbA : ¬ xA F b) (hL : L < 2 ^ 31) (hi : i < L) (d : At cc pc .iaload 1 pc') (k : WS F pc' lv (.int (sc i) :: st) S cs ss) : WS F pc lv (.int (nI i) :: .ref b :: st) S cs ss := by
  obtain ⟨d, rfl⟩ := d
  intro ls H locs hl hw hS
  have hb : b < (xs F).heap.size := by
    obtain ⟨scr, h1, -⟩ := hX
    exact (Array.getElem?_eq_some_iff.mp h1).1
  refine va_sld C.x C.b hX hb hbA hS (vp_in_nI hi hL) d ?_
  rw [nI_clamp (by omega)]
  exact k ls H locs hl hw hS
end ROWS
def cellV (L : Nat) (sc : Nat → Int32) (i : Nat) : Int32 := if i < L then sc i else 0
def PcX (V : Ev) (S : Sto) (b L : Nat) (sc : Nat → Int32) (U : State) : Prop := (Wd (vD V) (vY V) (vA V) S U.heap ∧ KK (vD V) (vY V) (vA V) (vZ V) U U.heap) ∧ va_X b L sc U U.heap
theorem c_L_cell {V : Ev} {b L : Nat} {sc : Nat → Int32} {S : Sto} (hbA : ¬ vA V b) (hL : L < 2 ^ 31) (i : Nat) (hi : i < 2 ^ 31) :
    Met (vL V) mi_L_cell.1 (Cond.code mi_L_cell.1 mi_L_cell.2.1 mi_L_cell.2.2.1 mi_L_cell.2.2.2.1 :: TB) (rmD 0 0 0) (va_Pc [.ref b, .int (nI i)] (PcX V S b L sc)) (QcT (Pi (cellV L sc i) (fun S' => S' = S)) V) 0 0 (vA V) := by
  refine Met.ofW (cc := mi_L_cell.2.1) (maxL := mi_L_cell.2.2.1) (ret := mi_L_cell.2.2.2.1) (by decide +kernel) rfl ?_
  intro p e s m args below meth c s₁ B hml hv
  obtain ⟨rfl, ⟨hW, hK⟩, hX⟩ := hv
  have hts : ∀ w ∈ TB, w.before [Value.ref b, .int (nI i)].toArray s = true := fun w hw => atoms_spec (ws := Cond.code mi_L_cell.1 mi_L_cell.2.1 mi_L_cell.2.2.1 mi_L_cell.2.2.2.1 :: TB) B.pre w (List.mem_cons_of_mem _ hw)
  have body : ∀ F : Fx, F.1 = V → xn F = 2 → Cx F method_2_code "ChainVersionsLaw" 0 0 0 → RT F mi_L_cell 0 0 (Pi (cellV L sc i) (fun S' => S' = S)) → va_X b L sc (xs F) (xs F).heap → WS F 0 [some (.ref b), some (.int (nI i))] [] S 0 0 := by
    intro F hF hn C R hX
    have hbA' : ¬ xA F b := by
      show ¬ vA F.1 b
      rw [hF]
      exact hbA
    have rt : ∀ x : Int32, x = cellV L sc i → WS F 13 [some (.ref b), some (.int (nI i))] [.int x] S 0 0 := by
      intro x hx
      subst hx
      exact ws_iret C R d_L_cell_13 rfl (Nat.le_refl _) (Nat.le_refl _) ⟨rfl, rfl⟩
    refine ws_iload_n C d_L_cell_0 rfl ?_
    refine ws_aload_n C d_L_cell_1 rfl ?_
    refine ws_slen C hX hbA' d_L_cell_2 ?_
    refine ws_icmp_geN C d_L_cell_3 hi hL (fun h => ?_) (fun h => ?_)
    · exact ws_iconst C 0 d_L_cell_12 rfl (rt 0 (by unfold cellV; rw [if_neg (by omega)]))
    · refine ws_aload_n C d_L_cell_6 rfl ?_
      refine ws_iload_n C d_L_cell_7 rfl ?_
      refine ws_sld C hX hbA' hL (by omega) d_L_cell_8 ?_
      exact ws_goto C d_L_cell_9 (rt _ (by unfold cellV; rw [if_pos (by omega)]))
  have k := body (V, (p, e, rmD 0 0 0, s, m, [Value.ref b, .int (nI i)].toArray, below), (meth, c, MQ below (QcT (Pi (cellV L sc i) (fun S' => S' = S)) V) [Value.ref b, .int (nI i)].toArray s 0 0 (vA V)), 2) rfl rfl
    ⟨⟨Nat.le_refl _, Nat.le_refl _, rfl, rfl⟩, B.exec, B.bytes, hml, findClass_of_methodNamed B.named, hts, hK⟩ ⟨rfl, B.returns, B.notSynchronized, (name_of_methodNamed B.named B.method).1⟩ hX
  rw [lg_entry_eq]
  exact k _ s.heap [] (LH.entry (av := [Value.ref b, .int (nI i)]) (n := 2) (by intro v hv; rcases List.mem_cons.mp hv with rfl | hv; rfl; rcases List.mem_cons.mp hv with rfl | hv; rfl; cases hv) (Nat.le_refl _)) hW va_S.rf
section ROWS
variable {F : Fx} {cc : ByteArray} {own : String} {pc pc' tgt : Nat} {lv : List (Option Value)} {st : List Value} {S S1 S2 : Sto} {cs ss : Nat} {dF cF sF : Nat}
theorem ws_cell (C : Cx F cc "ChainVersionsLaw" dF cF sF) {b L : Nat} {sc : Nat → Int32} {i : Nat} (hX : va_X b L sc (xs F) (xs F).heap) (hbA : ¬ xA F b) (hL : L < 2 ^ 31) (hi : i < 2 ^ 31) (d : At cc pc (.invokestatic 9) 3 pc') (hroom : (st.map fun v => v.category).sum ≤ 8) (hd : 0 < dF) (hc : cs ≤ cF) (hs : ss ≤ sF)
    (k : WS F pc' lv (.int (cellV L sc i) :: st) S cs ss) : WS F pc lv (.int (nI i) :: .ref b :: st) S cs ss := by
  obtain ⟨d, rfl⟩ := d
  obtain ⟨w1, w2, w3⟩ := w_L_9
  intro ls H locs hl hw hS
  have hb : b < (xs F).heap.size := by
    obtain ⟨scr, h1, -⟩ := hX
    exact (Array.getElem?_eq_some_iff.mp h1).1
  have hpre := kk_pre C hw hS [Value.ref b, .int (nI i)]
  have hpre' : PreS (xs F) H (va_Pc [Value.ref b, .int (nI i)] (PcX F.1 S b L sc)) [Value.ref b, .int (nI i)] := by
    refine ⟨fun a U g mk q => ?_, fun U hU hW => ?_⟩
    · obtain ⟨q0, q1, q2⟩ := q
      have h1 := hpre.1 a U g mk ⟨q0, q1⟩
      exact ⟨h1.1, h1.2, va_X.moved (u := U) (U := U.calling g mk a) (Vm.Alike.refl U.vm) q2⟩
    · have h1 := hpre.2 U hU hW
      refine ⟨h1.1, h1.2, ?_⟩
      rw [hU]
      exact (hX.kept (hS.2.1 b hb hbA)).moved hW.alike
  refine ws_back C hl hS (va_runS ⟨C.x, C.b, C.ml, C.o, C.2.2.2.2.2.1⟩ (c_L_cell (V := F.1) (S := S) (sc := sc) hbA hL i hi) ⟨cB C w1 w2 hd, C.t w3⟩ hpre' rfl rfl hl.1 rfl (lv_room hroom) d ⟨by rw [C.1.2.2.1]; exact hc, by rw [C.1.2.2.2]; exact hs⟩) ?_
  rintro v S' ⟨rfl, rfl⟩
  exact k
end ROWS
