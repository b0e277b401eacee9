/-! the class: its constructor -/
theorem okCl : cOK mi_Cl_init 0 := ⟨(tb_at 171 (by decide +kernel) (by decide +kernel)), (tb_at 58 (by decide +kernel) (by decide +kernel)), by decide +kernel, by decide +kernel, by decide +kernel, by decide⟩
theorem imCl : Cond.instanceMethod mi_Cl_init.1 ∈ TB := (tb_at 170 (by decide +kernel) (by decide +kernel))
theorem tyk_x0 : tyk 6 0 = .array (.object "ChainVersions$Node") := by decide +kernel
theorem tyk_x1 : tyk 6 1 = .array (.object "ChainVersions$Client") := by decide +kernel
theorem tyk_x2 : tyk 6 2 = .object "java/util/ArrayList" := by decide +kernel
set_option maxHeartbeats 4000000 in
set_option maxRecDepth 100000 in
theorem c_Cl_init {V : Ev} {S : Sto} {q : Nat} (hK : sK S q = 2) : CT V mi_Cl_init 0 0 [.ref q] S (Pv (fun S' => S' = setI (setI S 64 q (nI 0)) 68 q (-1))) := by
  refine CT.of (cc := prog_2_method_1_code) (own := "ChainVersions$Client") (nL := 1) (d := 1) (by decide) rfl rfl rfl rfl (by simp [Value.category]) (Nat.le_of_ble_eq_true rfl) rfl ?_
  intro F hV hn C R
  subst hV
  refine ws_aload_n C d_Cl_init_0 rfl ?_
  refine ws_objInit C (tb_at 172 (by decide +kernel) (by decide +kernel)) obj_1 obj_2 d_Cl_init_1 (Nat.le_of_ble_eq_true rfl) (by decide) ?_
  refine ws_aload_n C d_Cl_init_4 rfl ?_
  refine ws_iconst C (nI 0) d_Cl_init_5 (by decide) ?_
  refine ws_putI C d_Cl_init_6 f_Cl_9 rfl rfl ⟨rfl, rfl⟩ hK ?_
  refine ws_aload_n C d_Cl_init_9 rfl ?_
  refine ws_iconst C (-1) d_Cl_init_10 (by decide) ?_
  refine ws_putI C d_Cl_init_11 f_Cl_15 rfl rfl ⟨rfl, rfl⟩ hK ?_
  exact ws_vret C R d_Cl_init_14 rfl (by decide) (by decide) ⟨rfl, rfl⟩
set_option maxHeartbeats 4000000 in
set_option maxRecDepth 100000 in
theorem c_AbC_init {V : Ev} {S : Sto} {q : Nat} : CT V mi_AbC_init 0 0 [.ref q] S (Pv (fun S' => S' = S)) := by
  refine CT.of (cc := prog_14_method_1_code) (own := "java/util/AbstractCollection") (nL := 1) (d := 1) (by decide) rfl rfl rfl rfl (by simp [Value.category]) (Nat.le_of_ble_eq_true rfl) rfl ?_
  intro F hV hn C R
  subst hV
  refine ws_aload_n C d_AbC_init_0 rfl ?_
  refine ws_objInit C (tb_at 90 (by decide +kernel) (by decide +kernel)) obj_1 obj_2 d_AbC_init_1 (Nat.le_of_ble_eq_true rfl) (by decide) ?_
  exact ws_vret C R d_AbC_init_4 rfl (by decide) (by decide) ⟨rfl, rfl⟩
set_option maxHeartbeats 4000000 in
set_option maxRecDepth 100000 in
theorem c_AbL_init {V : Ev} {S : Sto} {q : Nat} (hK : sK S q = 1) : CT V mi_AbL_init 0 0 [.ref q] S (Pv (fun S' => S' = setI S 32 q (nI 0))) := by
  refine CT.of (cc := prog_15_method_1_code) (own := "java/util/AbstractList") (nL := 1) (d := 2) (by decide) rfl rfl rfl rfl (by simp [Value.category]) (Nat.le_of_ble_eq_true rfl) rfl ?_
  intro F hV hn C R
  subst hV
  refine ws_aload_n C d_AbL_init_0 rfl ?_
  refine ws_callIv C w_AbL_1 (As := []) c_AbC_init d_AbL_init_1 rfl rfl (Nat.le_of_ble_eq_true rfl) (by decide) (by decide) (by decide) (fun S1 hS1 => ?_)
  subst hS1
  refine ws_aload_n C d_AbL_init_4 rfl ?_
  refine ws_iconst C (nI 0) d_AbL_init_5 (by decide) ?_
  refine ws_putI C d_AbL_init_6 f_AbL_7 rfl rfl ⟨rfl, rfl⟩ hK ?_
  exact ws_vret C R d_AbL_init_9 rfl (by decide) (by decide) ⟨rfl, rfl⟩
set_option maxHeartbeats 4000000 in
set_option maxRecDepth 100000 in
theorem c_AL_init {V : Ev} {S : Sto} {q : Nat} (hK : sK S q = 1) : CT V mi_AL_init 0 0 [.ref q] S (Pv (fun S' => S' = setP (setI S 32 q (nI 0)) 33 q (some (vZ V)))) := by
  refine CT.of (cc := prog_16_method_2_code) (own := "java/util/ArrayList") (nL := 1) (d := 3) (by decide) rfl rfl rfl rfl (by simp [Value.category]) (Nat.le_of_ble_eq_true rfl) rfl ?_
  intro F hV hn C R
  subst hV
  refine ws_aload_n C d_AL_init_0 rfl ?_
  refine ws_callIv C w_AL_1 (As := []) (c_AbL_init hK) d_AL_init_1 rfl rfl (Nat.le_of_ble_eq_true rfl) (by decide) (by decide) (by decide) (fun S1 hS1 => ?_)
  subst hS1
  refine ws_aload_n C d_AL_init_4 rfl ?_
  refine ws_getZ C d_AL_init_5 (tb_at 91 (by decide +kernel) (by decide +kernel)) ?_
  refine ws_putR C (some (vZ F.1)) rfl d_AL_init_8 f_AL_9 rfl rfl (by rw [show tyk (33 / 32) (33 % 32) = _ from tyk_el]; exact ⟨rfl, rfl⟩) hK ?_
  exact ws_vret C R d_AL_init_11 rfl (by decide) (by decide) ⟨rfl, rfl⟩
theorem mm_eq (x : Int32) (em : nI (mkN x) = if x < nI 1 then nI 1 else if nI 3 < x then nI 3 else x) : (if nI 1 < (if x < nI 3 then x else nI 3) then (if x < nI 3 then x else nI 3) else nI 1) = nI (mkN x) := by
  rw [em]
  have l1 : (nI 1).toInt = 1 := by decide
  have l3 : (nI 3).toInt = 3 := by decide
  by_cases a : x < nI 1 <;> by_cases b : nI 3 < x <;> by_cases c : x < nI 3 <;> simp only [a, b, c, if_true, if_false] <;> rw [Int32.lt_iff_toInt_lt] at a b c <;> rw [l1] at a <;> rw [l3] at b c
  all_goals first | (exfalso; omega) | skip
  all_goals first | rfl | skip
  · rw [if_neg (by rw [Int32.lt_iff_toInt_lt, l1]; omega)]
  · by_cases d : nI 1 < x
    · rw [if_pos d]
    · rw [if_neg d]; rw [Int32.lt_iff_toInt_lt, l1] at d; exact Int32.toInt_inj.mp (by rw [l1]; omega)
  · rw [if_pos (by decide)]; exact Int32.toInt_inj.mp (by rw [l3]; omega)
set_option maxHeartbeats 4000000 in
set_option maxRecDepth 100000 in
theorem c_X_init {V : Ev} {S : Sto} {o : Nat} (k6 : sK S o = 6) (i197 : sI S 197 o = nI 0) (x : Int32) : CT V mi_X_init 14 362 [.ref o, .int x] S (Pv (XO (vZ V) o (iniG x))) := by
  refine CT.of (cc := prog_1_method_1_code) (own := "ChainVersions") (nL := 5) (d := 4) (by decide) rfl rfl rfl rfl (by simp [Value.category]) (Nat.le_of_ble_eq_true rfl) rfl ?_
  intro F hV hn C R
  subst hV
  have hin : (xt F).name = "<init>" := R.2.2.2
  refine ws_aload_n C d_X_init_0 rfl ?_
  refine ws_objInit C (tb_at 72 (by decide +kernel) (by decide +kernel)) obj_1 obj_2 d_X_init_1 (Nat.le_of_ble_eq_true rfl) (by decide) ?_
  refine ws_aload_n C d_X_init_4 rfl ?_
  refine ws_bipush C (nI 6) d_X_init_5 (by decide) ?_
  refine ws_newq (kd := 11) (n := 6) C d_X_init_7 (by decide) (by decide) (by decide) rfl (tb_at 75 (by decide +kernel) (by decide +kernel)) C.E.2.1.1 (by decide) (by decide) (fun a11 hq => ?_)
  have F1 : SF S (newA S a11 11 6) := (SF.rf S).nA hq (by decide)
  replace i197 : sI (newA S a11 11 6) 197 o = nI 0 := (F1.2.1 197 o k6).1.trans i197
  replace k6 : sK (newA S a11 11 6) o = 6 := (F1.1 o (by rw [k6]; decide)).1.trans k6
  have k11 : sK (newA S a11 11 6) a11 = 11 := by show va_up (sK S) a11 11 a11 = 11; rw [va_up, if_pos rfl]
  have z11 : sZ (newA S a11 11 6) a11 = 6 := by show va_up (sZ S) a11 6 a11 = 6; rw [va_up, if_pos rfl]
  have q11 : ∀ v, sQ (newA S a11 11 6) 11 a11 v = none := fun v => by show (if 11 = 11 ∧ a11 = a11 then none else sQ S 11 a11 v) = none; rw [if_pos ⟨rfl, rfl⟩]
  clear F1
  generalize newA S a11 11 6 = S at *
  refine ws_putFR C hin (some a11) rfl d_X_init_10 f_X_11 rfl rfl rfl (by rw [show tyk (192 / 32) (192 % 32) = _ from tyk_x0]; exact ⟨rfl, rfl⟩) k6 ?_
  replace k6 : sK (setP S 192 o (some a11)) o = 6 := k6
  replace i197 : sI (setP S 192 o (some a11)) 197 o = nI 0 := i197
  replace k11 : sK (setP S 192 o (some a11)) a11 = 11 := k11
  replace z11 : sZ (setP S 192 o (some a11)) a11 = 6 := z11
  replace q11 : ∀ v, sQ (setP S 192 o (some a11)) 11 a11 v = none := q11
  have p192 : sP (setP S 192 o (some a11)) 192 o = some a11 := by
    show up2 (sP S) 192 o (some a11) 192 o = _
    rw [up2, if_pos ⟨rfl, rfl⟩]
  generalize setP S 192 o (some a11) = S at *
  refine ws_aload_n C d_X_init_13 rfl ?_
  refine ws_iconst C (nI 3) d_X_init_14 (by decide) ?_
  refine ws_newq (kd := 12) (n := 3) C d_X_init_15 (by decide) (by decide) (by decide) rfl (tb_at 77 (by decide +kernel) (by decide +kernel)) C.E.2.1.2.1 (by decide) (by decide) (fun a12 hq => ?_)
  have F1 : SF S (newA S a12 12 3) := (SF.rf S).nA hq (by decide)
  replace i197 : sI (newA S a12 12 3) 197 o = nI 0 := (F1.2.1 197 o k6).1.trans i197
  replace z11 : sZ (newA S a12 12 3) a11 = 6 := (F1.1 a11 (by rw [k11]; decide)).2.trans z11
  replace q11 : ∀ v, sQ (newA S a12 12 3) 11 a11 v = none := fun v => (congrFun (F1.2.2 11 a11 k11).2 v).trans (q11 v)
  replace p192 : sP (newA S a12 12 3) 192 o = some a11 := (F1.2.1 192 o k6).2.trans p192
  replace k6 : sK (newA S a12 12 3) o = 6 := (F1.1 o (by rw [k6]; decide)).1.trans k6
  replace k11 : sK (newA S a12 12 3) a11 = 11 := (F1.1 a11 (by rw [k11]; decide)).1.trans k11
  have k12 : sK (newA S a12 12 3) a12 = 12 := by show va_up (sK S) a12 12 a12 = 12; rw [va_up, if_pos rfl]
  have z12 : sZ (newA S a12 12 3) a12 = 3 := by show va_up (sZ S) a12 3 a12 = 3; rw [va_up, if_pos rfl]
  clear F1
  generalize newA S a12 12 3 = S at *
  refine ws_putFR C hin (some a12) rfl d_X_init_18 f_X_17 rfl rfl rfl (by rw [show tyk (193 / 32) (193 % 32) = _ from tyk_x1]; exact ⟨rfl, rfl⟩) k6 ?_
  replace k6 : sK (setP S 193 o (some a12)) o = 6 := k6
  replace i197 : sI (setP S 193 o (some a12)) 197 o = nI 0 := i197
  replace k11 : sK (setP S 193 o (some a12)) a11 = 11 := k11
  replace z11 : sZ (setP S 193 o (some a12)) a11 = 6 := z11
  replace q11 : ∀ v, sQ (setP S 193 o (some a12)) 11 a11 v = none := q11
  replace p192 : sP (setP S 193 o (some a12)) 192 o = some a11 := by
    show up2 (sP S) 193 o (some a12) 192 o = _
    rw [up2, if_neg (fun z => absurd z.1 (by decide))]; exact p192
  replace k12 : sK (setP S 193 o (some a12)) a12 = 12 := k12
  replace z12 : sZ (setP S 193 o (some a12)) a12 = 3 := z12
  have p193 : sP (setP S 193 o (some a12)) 193 o = some a12 := by
    show up2 (sP S) 193 o (some a12) 193 o = _
    rw [up2, if_pos ⟨rfl, rfl⟩]
  generalize setP S 193 o (some a12) = S at *
  refine ws_aload_n C d_X_init_21 rfl ?_
  refine ws_new (kd := 1) (n := 3) C d_X_init_22 (by decide) (by decide) rfl (tb_at 79 (by decide +kernel) (by decide +kernel)) (tb_at 80 (by decide +kernel) (by decide +kernel)) (tb_at 54 (by decide +kernel) (by decide +kernel)) (by decide) (by decide) (fun a1 hq => ?_)
  have F1 : SF S (newO S a1 1) := (SF.rf S).nO hq (by decide)
  replace i197 : sI (newO S a1 1) 197 o = nI 0 := (F1.2.1 197 o k6).1.trans i197
  replace z11 : sZ (newO S a1 1) a11 = 6 := (F1.1 a11 (by rw [k11]; decide)).2.trans z11
  replace q11 : ∀ v, sQ (newO S a1 1) 11 a11 v = none := fun v => (congrFun (F1.2.2 11 a11 k11).2 v).trans (q11 v)
  replace p192 : sP (newO S a1 1) 192 o = some a11 := (F1.2.1 192 o k6).2.trans p192
  replace z12 : sZ (newO S a1 1) a12 = 3 := (F1.1 a12 (by rw [k12]; decide)).2.trans z12
  replace p193 : sP (newO S a1 1) 193 o = some a12 := (F1.2.1 193 o k6).2.trans p193
  replace k6 : sK (newO S a1 1) o = 6 := (F1.1 o (by rw [k6]; decide)).1.trans k6
  replace k11 : sK (newO S a1 1) a11 = 11 := (F1.1 a11 (by rw [k11]; decide)).1.trans k11
  replace k12 : sK (newO S a1 1) a12 = 12 := (F1.1 a12 (by rw [k12]; decide)).1.trans k12
  have k1 : sK (newO S a1 1) a1 = 1 := newO_K _ _ _
  have i34 : sI (newO S a1 1) 34 a1 = nI 0 := newO_I _ _ _ _ rfl
  clear F1
  generalize newO S a1 1 = S at *
  refine ws_dup C d_X_init_25 rfl ?_
  refine ws_callIv C w_X_23 (As := []) (c_AL_init k1) d_X_init_26 rfl rfl (Nat.le_of_ble_eq_true rfl) (by decide) (by decide) (by decide) (fun S1 hS1 => ?_)
  subst hS1
  replace k6 : sK (setI S 32 a1 (nI 0)) o = 6 := k6
  replace i197 : sI (setI S 32 a1 (nI 0)) 197 o = nI 0 := by
    show up2 (sI S) 32 a1 (nI 0) 197 o = _
    rw [up2, if_neg (fun z => absurd z.1 (by decide))]; exact i197
  replace k11 : sK (setI S 32 a1 (nI 0)) a11 = 11 := k11
  replace z11 : sZ (setI S 32 a1 (nI 0)) a11 = 6 := z11
  replace q11 : ∀ v, sQ (setI S 32 a1 (nI 0)) 11 a11 v = none := q11
  replace p192 : sP (setI S 32 a1 (nI 0)) 192 o = some a11 := p192
  replace k12 : sK (setI S 32 a1 (nI 0)) a12 = 12 := k12
  replace z12 : sZ (setI S 32 a1 (nI 0)) a12 = 3 := z12
  replace p193 : sP (setI S 32 a1 (nI 0)) 193 o = some a12 := p193
  replace k1 : sK (setI S 32 a1 (nI 0)) a1 = 1 := k1
  replace i34 : sI (setI S 32 a1 (nI 0)) 34 a1 = nI 0 := by
    show up2 (sI S) 32 a1 (nI 0) 34 a1 = _
    rw [up2, if_neg (fun z => absurd z.1 (by decide))]; exact i34
  generalize setI S 32 a1 (nI 0) = S at *
  replace k6 : sK (setP S 33 a1 (some (vZ F.1))) o = 6 := k6
  replace i197 : sI (setP S 33 a1 (some (vZ F.1))) 197 o = nI 0 := i197
  replace k11 : sK (setP S 33 a1 (some (vZ F.1))) a11 = 11 := k11
  replace z11 : sZ (setP S 33 a1 (some (vZ F.1))) a11 = 6 := z11
  replace q11 : ∀ v, sQ (setP S 33 a1 (some (vZ F.1))) 11 a11 v = none := q11
  replace p192 : sP (setP S 33 a1 (some (vZ F.1))) 192 o = some a11 := by
    show up2 (sP S) 33 a1 (some (vZ F.1)) 192 o = _
    rw [up2, if_neg (fun z => absurd z.1 (by decide))]; exact p192
  replace k12 : sK (setP S 33 a1 (some (vZ F.1))) a12 = 12 := k12
  replace z12 : sZ (setP S 33 a1 (some (vZ F.1))) a12 = 3 := z12
  replace p193 : sP (setP S 33 a1 (some (vZ F.1))) 193 o = some a12 := by
    show up2 (sP S) 33 a1 (some (vZ F.1)) 193 o = _
    rw [up2, if_neg (fun z => absurd z.1 (by decide))]; exact p193
  replace k1 : sK (setP S 33 a1 (some (vZ F.1))) a1 = 1 := k1
  replace i34 : sI (setP S 33 a1 (some (vZ F.1))) 34 a1 = nI 0 := i34
  have p33 : sP (setP S 33 a1 (some (vZ F.1))) 33 a1 = some (vZ F.1) := by
    show up2 (sP S) 33 a1 (some (vZ F.1)) 33 a1 = _
    rw [up2, if_pos ⟨rfl, rfl⟩]
  generalize setP S 33 a1 (some (vZ F.1)) = S at *
  refine ws_putFR C hin (some a1) rfl d_X_init_29 f_X_24 rfl rfl rfl (by rw [show tyk (194 / 32) (194 % 32) = _ from tyk_x2]; exact ⟨rfl, rfl⟩) k6 ?_
  replace k6 : sK (setP S 194 o (some a1)) o = 6 := k6
  replace i197 : sI (setP S 194 o (some a1)) 197 o = nI 0 := i197
  replace k11 : sK (setP S 194 o (some a1)) a11 = 11 := k11
  replace z11 : sZ (setP S 194 o (some a1)) a11 = 6 := z11
  replace q11 : ∀ v, sQ (setP S 194 o (some a1)) 11 a11 v = none := q11
  replace p192 : sP (setP S 194 o (some a1)) 192 o = some a11 := by
    show up2 (sP S) 194 o (some a1) 192 o = _
    rw [up2, if_neg (fun z => absurd z.1 (by decide))]; exact p192
  replace k12 : sK (setP S 194 o (some a1)) a12 = 12 := k12
  replace z12 : sZ (setP S 194 o (some a1)) a12 = 3 := z12
  replace p193 : sP (setP S 194 o (some a1)) 193 o = some a12 := by
    show up2 (sP S) 194 o (some a1) 193 o = _
    rw [up2, if_neg (fun z => absurd z.1 (by decide))]; exact p193
  replace k1 : sK (setP S 194 o (some a1)) a1 = 1 := k1
  replace i34 : sI (setP S 194 o (some a1)) 34 a1 = nI 0 := i34
  replace p33 : sP (setP S 194 o (some a1)) 33 a1 = some (vZ F.1) := by
    show up2 (sP S) 194 o (some a1) 33 a1 = _
    rw [up2, if_neg (fun z => absurd z.1 (by decide))]; exact p33
  have p194 : sP (setP S 194 o (some a1)) 194 o = some a1 := by
    show up2 (sP S) 194 o (some a1) 194 o = _
    rw [up2, if_pos ⟨rfl, rfl⟩]
  generalize setP S 194 o (some a1) = S at *
  refine ws_iconst C (nI 1) d_X_init_32 (by decide) ?_
  refine ws_iconst C (nI 3) d_X_init_33 (by decide) ?_
  refine ws_iload_n C d_X_init_34 rfl ?_
  refine ws_mmin C (tb_at 105 (by decide +kernel) (by decide +kernel)) d_X_init_35 (by decide) (by decide) (by decide) (Nat.le_of_ble_eq_true rfl) ?_
  refine ws_mmax C (tb_at 108 (by decide +kernel) (by decide +kernel)) d_X_init_38 (by decide) (by decide) (by decide) (Nat.le_of_ble_eq_true rfl) ?_
  obtain ⟨hm, em⟩ := mkN_of x
  refine ws_top (nI (mkN x)) (mm_eq x em) ?_
  have R : RT F mi_X_init 14 362 (Pv (XO (vZ F.1) o (inT (mkN x) (mkN x)))) := R
  generalize mkN x = m at *
  refine ws_istore_n C d_X_init_41 (by rw [hn]; decide) ?_
  refine ws_iload_n C d_X_init_42 rfl ?_
  refine ws_newi C d_X_init_43 (by omega) arr_I (by decide) (by omega) (fun a9 hq => ?_)
  have F1 : SF S (newA S a9 9 m) := (SF.rf S).nA hq (by decide)
  replace i197 : sI (newA S a9 9 m) 197 o = nI 0 := (F1.2.1 197 o k6).1.trans i197
  replace z11 : sZ (newA S a9 9 m) a11 = 6 := (F1.1 a11 (by rw [k11]; decide)).2.trans z11
  replace q11 : ∀ v, sQ (newA S a9 9 m) 11 a11 v = none := fun v => (congrFun (F1.2.2 11 a11 k11).2 v).trans (q11 v)
  replace p192 : sP (newA S a9 9 m) 192 o = some a11 := (F1.2.1 192 o k6).2.trans p192
  replace z12 : sZ (newA S a9 9 m) a12 = 3 := (F1.1 a12 (by rw [k12]; decide)).2.trans z12
  replace p193 : sP (newA S a9 9 m) 193 o = some a12 := (F1.2.1 193 o k6).2.trans p193
  replace i34 : sI (newA S a9 9 m) 34 a1 = nI 0 := (F1.2.1 34 a1 k1).1.trans i34
  replace p33 : sP (newA S a9 9 m) 33 a1 = some (vZ F.1) := (F1.2.1 33 a1 k1).2.trans p33
  replace p194 : sP (newA S a9 9 m) 194 o = some a1 := (F1.2.1 194 o k6).2.trans p194
  replace k6 : sK (newA S a9 9 m) o = 6 := (F1.1 o (by rw [k6]; decide)).1.trans k6
  replace k11 : sK (newA S a9 9 m) a11 = 11 := (F1.1 a11 (by rw [k11]; decide)).1.trans k11
  replace k12 : sK (newA S a9 9 m) a12 = 12 := (F1.1 a12 (by rw [k12]; decide)).1.trans k12
  replace k1 : sK (newA S a9 9 m) a1 = 1 := (F1.1 a1 (by rw [k1]; decide)).1.trans k1
  have k9 : sK (newA S a9 9 m) a9 = 9 := by show va_up (sK S) a9 9 a9 = 9; rw [va_up, if_pos rfl]
  have z9 : sZ (newA S a9 9 m) a9 = m := by show va_up (sZ S) a9 m a9 = m; rw [va_up, if_pos rfl]
  clear F1
  generalize newA S a9 9 m = S at *
  have hB : B1 (vZ F.1) o a11 a12 a1 a9 m S := ⟨⟨k6, k11, z11, k12, z12, k1, k9, z9⟩, ⟨p192, p193, p194, p33⟩, ⟨i34, i197⟩, q11⟩
  clear k6 k11 z11 k12 z12 k1 k9 z9 p192 p193 p194 p33 i34 i197 q11
  refine ws_astore_n C d_X_init_45 (by rw [hn]; decide) ?_
  refine ws_iconst C (nI 0) d_X_init_46 (by decide) ?_
  refine ws_istore C d_X_init_47 (by rw [hn]; decide) ?_
  suffices hL : ∀ n i (S : Sto), i + n = m → B1 (vZ F.1) o a11 a12 a1 a9 m S → (∀ j, j < i → sE S 9 a9 j = nI j) → WS F 49 [some (.ref o), some (.int x), some (.int (nI m)), some (.ref a9), some (.int (nI i))] [] S 4 15 from ws_widen (by omega) (by omega) (hL m 0 S (by omega) hB (fun j hj => absurd hj (by omega)))
  clear hB
  intro n
  induction n with
  | zero =>
    intro i S hi hB hel
    have hie : i = m := by omega
    rw [hie] at hel
    refine ws_iload C d_X_init_49 rfl ?_
    refine ws_iload_n C d_X_init_51 rfl ?_
    refine ws_icmp_geN C d_X_init_52 (by omega) (by omega) (fun h52 => ?_) (fun h52 => ?_)
    · refine ws_aload_n C d_X_init_67 rfl ?_
      refine ws_new (kd := 3) (n := 2) C d_X_init_68 (by decide) (by decide) rfl (tb_at 111 (by decide +kernel) (by decide +kernel)) (tb_at 112 (by decide +kernel) (by decide +kernel)) (tb_at 56 (by decide +kernel) (by decide +kernel)) (by decide) (by decide) (fun q hq => ?_)
      have hqo : o ≠ q := fun z => by have := hB.1.1; rw [z, hq] at this; cases this
      refine ws_dup C d_X_init_71 rfl ?_
      refine ws_iconst C (nI 1) d_X_init_72 (by decide) ?_
      refine ws_aload_n C d_X_init_73 rfl ?_
      refine ws_callIv C w_X_39 (As := [_, _]) (c_Cf_init (newO_K _ _ _)) d_X_init_74 rfl rfl (Nat.le_of_ble_eq_true rfl) (by decide) (by decide) (by decide) (fun S5 hS5 => ?_)
      subst hS5
      refine ws_putR C (some q) rfl d_X_init_77 f_X_42 rfl rfl (by rw [show tyk (195 / 32) (195 % 32) = _ from tyk_xn]; exact ⟨rfl, rfl⟩) (by show va_up (sK S) q 3 o = 6; rw [va_up, if_neg hqo]; exact hB.1.1) ?_
      have hP := hB.px hel hq
      generalize setP (setP (setI (newO S q 3) 96 q (nI 1)) 97 q (some a9)) 195 o (some q) = S at *
      have ho : h0 o a11 a12 a1 a9 q 6 0 = o := rfl
      generalize h0 o a11 a12 a1 a9 q = h at *
      refine ws_iconst C (nI 0) d_X_init_80 (by decide) ?_
      refine ws_istore C d_X_init_81 (by rw [hn]; decide) ?_
      clear hB hel hq
      suffices hL : ∀ n i (h : Nat → Nat → Nat) (S : Sto), i + n = m → h 6 0 = o → PX (vZ F.1) h m i 0 S → WS F 83 [some (.ref o), some (.int x), some (.int (nI m)), some (.ref a9), some (.int (nI i))] [] S (5 + 2 * i) (17 + 108 * i) from hL m 0 h S (by omega) ho hP
      clear hP ho
      clear h S
      intro n
      induction n with
      | zero =>
        intro i h S hi ho hP
        have hie : i = m := by omega
        rw [hie] at hP
        subst ho
        refine ws_iload C d_X_init_83 rfl ?_
        refine ws_iload_n C d_X_init_85 rfl ?_
        refine ws_icmp_geN C d_X_init_86 (by omega) (by omega) (fun h86 => ?_) (fun h86 => ?_)
        · refine ws_aload_n C d_X_init_116 rfl ?_
          refine ws_iload_n C d_X_init_117 rfl ?_
          refine ws_putI C d_X_init_118 f_X_49 rfl rfl ⟨rfl, rfl⟩ hP.1.1 ?_
          have hP1 := hP.cnt (nI m)
          have hc1 : sI (setI S 196 (h 6 0) (nI m)) 196 (h 6 0) = nI m := sI_at
          generalize setI S 196 (h 6 0) (nI m) = S at *
          refine ws_iconst C (nI 0) d_X_init_121 (by decide) ?_
          refine ws_istore C d_X_init_122 (by rw [hn]; decide) ?_
          clear hP
          suffices hL : ∀ n i (h1 : Nat → Nat → Nat) (S : Sto), i + n = 3 → h1 6 0 = h 6 0 → PX (vZ F.1) h1 m m i S → sI S 196 (h1 6 0) = nI m → WS F 124 [some (.ref (h 6 0)), some (.int x), some (.int (nI m)), some (.ref a9), some (.int (nI i))] [] S (11 + i) (341 + 7 * i) from ws_widen (by omega) (by omega) (hL 3 0 h S (by omega) rfl hP1 hc1)
          clear hP1 hc1
          intro n
          induction n with
          | zero =>
            intro i h1 S hi ho hP hc
            have hie : i = 3 := by omega
            rw [hie] at hP
            refine ws_iload C d_X_init_124 rfl ?_
            refine ws_iconst C (nI 3) d_X_init_126 (by decide) ?_
            refine ws_icmp_geN C d_X_init_127 (by omega) (by omega) (fun h127 => ?_) (fun h127 => ?_)
            · exact ws_vret C R d_X_init_150 rfl (by omega) (by omega) ⟨rfl, XE_at (hP.end_ hm hc) ho⟩
            · omega
          | succ n ih =>
            intro i h1 S hi ho hP hc
            rw [← ho]
            refine ws_iload C d_X_init_124 rfl ?_
            refine ws_iconst C (nI 3) d_X_init_126 (by decide) ?_
            refine ws_icmp_geN C d_X_init_127 (by omega) (by omega) (fun h127 => ?_) (fun h127 => ?_)
            · omega
            · refine ws_aload_n C d_X_init_130 rfl ?_
              refine ws_getP C d_X_init_131 f_X_17 rfl hP.1.1 hP.2.1.2.1 ?_
              refine ws_iload C d_X_init_134 rfl ?_
              refine ws_new (kd := 2) (n := 7) C d_X_init_136 (by decide) (by decide) rfl (tb_at 77 (by decide +kernel) (by decide +kernel)) (tb_at 168 (by decide +kernel) (by decide +kernel)) (tb_at 58 (by decide +kernel) (by decide +kernel)) (by omega) (by omega) (fun q hq => ?_)
              refine ws_dup C d_X_init_139 rfl ?_
              refine ws_callIN C okCl imCl (c_Cl_init (newO_K S q 2)) d_X_init_140 (Nat.le_of_ble_eq_true rfl) (by decide) (by omega) (by omega) (fun v S1 hS1 => ?_)
              obtain ⟨rfl, rfl⟩ := hS1
              have F1 : SF S (setI (setI (newO S q 2) 64 q (nI 0)) 68 q (-1)) := (((SF.rf S).nO hq (by decide)).I hq (by decide)).I hq (by decide)
              have hCL : CL (setI (setI (newO S q 2) 64 q (nI 0)) 68 q (-1)) q := ⟨newO_K S q 2, (sI_nt (by decide)).trans sI_at, (sI_nt (by decide)).trans ((sI_nt (by decide)).trans (newO_I S q 2 65 rfl)), (sI_nt (by decide)).trans ((sI_nt (by decide)).trans (newO_I S q 2 66 rfl)), (sI_nt (by decide)).trans ((sI_nt (by decide)).trans (newO_I S q 2 67 rfl)), sI_at, (sI_nt (by decide)).trans ((sI_nt (by decide)).trans (newO_I S q 2 69 rfl)), (sI_nt (by decide)).trans ((sI_nt (by decide)).trans (newO_I S q 2 70 rfl))⟩
              have hP4 := hP.sf F1
              have hc4 : sI (setI (setI (newO S q 2) 64 q (nI 0)) 68 q (-1)) 196 (h1 6 0) = nI m := (F1.2.1 196 _ hP.1.1).1.trans hc
              generalize setI (setI (newO S q 2) 64 q (nI 0)) 68 q (-1) = S4 at *
              refine ws_aast (kd := 12) (ko := 2) C d_X_init_143 (Or.inr (Or.inl ⟨rfl, rfl⟩)) hP4.1.2.2.2.1 hCL.1 (by rw [hP4.1.2.2.2.2.1]; omega) (by rw [hP4.1.2.2.2.2.1]; decide) ?_
              refine ws_iinc C _ d_X_init_144 rfl (inc1 _) (by rw [hn]; decide) ?_
              refine ws_goto C d_X_init_147 ?_
              have hP5 := hP.cli F1 hCL hq
              rw [ho]
              exact ws_widen (by omega) (by omega) (ih (i + 1) _ _ (by omega) (by rw [up2, if_neg (fun z => absurd z.1 (by decide))]; exact ho) hP5 (by rw [up2, if_neg (fun z => absurd z.1 (by decide))]; exact hc4))
        · omega
      | succ n ih =>
        intro i h S hi ho hP
        subst ho
        refine ws_iload C d_X_init_83 rfl ?_
        refine ws_iload_n C d_X_init_85 rfl ?_
        refine ws_icmp_geN C d_X_init_86 (by omega) (by omega) (fun h86 => ?_) (fun h86 => ?_)
        · omega
        · refine ws_aload_n C d_X_init_89 rfl ?_
          refine ws_getP C d_X_init_90 f_X_11 rfl hP.1.1 hP.2.1.1 ?_
          refine ws_iload C d_X_init_93 rfl ?_
          refine ws_new (kd := 4) (n := 8) C d_X_init_95 (by decide) (by decide) rfl (tb_at 75 (by decide +kernel) (by decide +kernel)) (tb_at 128 (by decide +kernel) (by decide +kernel)) (tb_at 57 (by decide +kernel) (by decide +kernel)) (by omega) (by omega) (fun qn hqn => ?_)
          have F1 : SF S (newO S qn 4) := (SF.rf S).nO hqn (by decide)
          have hP1 := hP.sf F1
          refine ws_dup C d_X_init_98 rfl ?_
          refine ws_iload C d_X_init_99 rfl ?_
          refine ws_aload_n C d_X_init_101 rfl ?_
          refine ws_getP C d_X_init_102 f_X_42 rfl hP1.1.1 hP1.2.1.2.2.2.1 ?_
          refine ws_iconst C (nI 1) d_X_init_105 (by decide) ?_
          refine ws_callIv C w_X_46 (As := [_, _, _]) (c_Nd_init (rd := 1) (newO_K _ _ _) (Or.inr rfl)) d_X_init_106 rfl rfl (Nat.le_of_ble_eq_true rfl) (by decide) (by omega) (by omega) (fun S3 hS3 => ?_)
          obtain ⟨ql, hql, rfl⟩ := hS3
          have hNN := NdS_nn (n := i) (vw := h 3 1) (rd := 1) (newO_K S qn 4) hql ⟨newO_I S qn 4 133 rfl, newO_I S qn 4 134 rfl, newO_I S qn 4 135 rfl⟩
          have F2 := NdS_sf (n := i) (vw := h 3 1) (rd := 1) F1 hqn hql
          have hql0 := F1.z hql
          generalize NdS (newO S qn 4) qn ql i (h 3 1) 1 = S4 at *
          have hP4 := hP.sf F2
          refine ws_aast (kd := 11) (ko := 4) C d_X_init_109 (Or.inl ⟨rfl, rfl⟩) hP4.1.2.1 hNN.1 (by rw [hP4.1.2.2.1]; omega) (by rw [hP4.1.2.2.1]; decide) ?_
          refine ws_iinc C _ d_X_init_110 rfl (inc1 _) (by rw [hn]; decide) ?_
          refine ws_goto C d_X_init_113 ?_
          have hP5 := hP.node F2 hNN hqn hql0
          exact ws_widen (by omega) (by omega) (ih (i + 1) _ _ (by omega) (by rw [up2, if_neg (fun z => absurd z.1 (by decide)), up2, if_neg (fun z => absurd z.1 (by decide))]) hP5)
    · omega
  | succ n ih =>
    intro i S hi hB hel
    refine ws_iload C d_X_init_49 rfl ?_
    refine ws_iload_n C d_X_init_51 rfl ?_
    refine ws_icmp_geN C d_X_init_52 (by omega) (by omega) (fun h52 => ?_) (fun h52 => ?_)
    · omega
    · refine ws_aload_n C d_X_init_55 rfl ?_
      refine ws_iload C d_X_init_56 rfl ?_
      refine ws_iload C d_X_init_58 rfl ?_
      refine ws_iast C d_X_init_60 hB.1.2.2.2.2.2.2.1 (by rw [hB.1.2.2.2.2.2.2.2]; omega) (by rw [hB.1.2.2.2.2.2.2.2]; omega) ?_
      refine ws_iinc C _ d_X_init_61 rfl (inc1 _) (by rw [hn]; decide) ?_
      refine ws_goto C d_X_init_64 ?_
      exact ih (i + 1) _ (by omega) hB (fun j hj => by
        show up3 (sE S) 9 a9 i (nI i) 9 a9 j = nI j
        rw [up3]
        by_cases hji : j = i
        · rw [if_pos ⟨rfl, rfl, hji⟩, hji]
        · rw [if_neg (fun z => hji z.2.2)]; exact hel j (by omega))
