/-! the class: configurations and nodes made; join, tick -/
theorem tyk_cm : tyk 3 1 = .array .int := by decide +kernel
theorem tyk_nl : tyk 4 1 = .array (.object "ChainVersions$Update") := by decide +kernel
set_option maxHeartbeats 4000000 in
set_option maxRecDepth 100000 in
theorem c_Cf_init {V : Ev} {S : Sto} {q qa : Nat} {x : Int32} (hK : sK S q = 3) : CT V mi_Cf_init 0 0 [.ref q, .int x, .ref qa] S (Pv (fun S' => S' = setP (setI S 96 q x) 97 q (some qa))) := by
  refine CT.of (cc := prog_3_method_1_code) (own := "ChainVersions$Configuration") (nL := 3) (d := 1) (by decide) rfl rfl rfl rfl (by simp [Value.category]) (Nat.le_of_ble_eq_true rfl) rfl ?_
  intro F hV hn C R
  subst hV
  have hin : (xt F).name = "<init>" := R.2.2.2
  refine ws_aload_n C d_Cf_init_0 rfl ?_
  refine ws_objInit C (tb_at 116 (by decide +kernel) (by decide +kernel)) obj_1 obj_2 d_Cf_init_1 (Nat.le_of_ble_eq_true rfl) (by decide) ?_
  refine ws_aload_n C d_Cf_init_4 rfl ?_
  refine ws_iload_n C d_Cf_init_5 rfl ?_
  refine ws_putFI C hin d_Cf_init_6 f_Cf_9 rfl rfl rfl ⟨rfl, rfl⟩ hK ?_
  refine ws_aload_n C d_Cf_init_9 rfl ?_
  refine ws_aload_n C d_Cf_init_10 rfl ?_
  refine ws_putFR C hin (some qa) rfl d_Cf_init_11 f_Cf_15 rfl rfl rfl (by rw [show tyk (97 / 32) (97 % 32) = .array .int from tyk_cm]; exact ⟨rfl, rfl⟩) hK ?_
  exact ws_vret C R d_Cf_init_14 rfl (by decide) (by decide) ⟨rfl, rfl⟩
set_option maxHeartbeats 4000000 in
set_option maxRecDepth 100000 in
theorem c_Cf_with {V : Ev} {h : Nat → Nat → Nat} {t : Nat → Nat} {G : GS} {S : Sto} {r : Rg} (hX : XR (vZ V) h t r G S) (hO : OK G) {e x : Nat} (he : 1 ≤ e ∧ e ≤ G.1 8 0) : CT V mi_Cf_with 2 9 [.ref (h 3 e), .int (nI x)] S (fun v S' => ∃ q qa, v = some (.ref q) ∧ XR (vZ V) h t r G S' ∧ NC S' q qa (e + 1) (mem (G.1 7 e) ++ [x])) := by
  refine CT.of (cc := prog_3_method_6_code) (own := "ChainVersions$Configuration") (nL := 3) (d := 2) (by decide) rfl rfl rfl rfl (by simp [Value.category]) (Nat.le_of_ble_eq_true rfl) rfl ?_
  intro F hV hn C R
  subst hV
  have hml := mem_len (G.1 7 e)
  have hR : XE (vZ F.1) h t G S := ⟨r, hX⟩
  refine ws_aload_n C d_Cf_with_0 rfl ?_
  refine wx_getP C hR 97 e (h 9 e) d_Cf_with_1 f_Cf_15 rfl rfl (dpF he) rfl ?_
  refine wx_mln C hR d_Cf_with_4 he ?_
  refine ws_iconst C (nI 1) d_Cf_with_5 (by decide) ?_
  refine ws_iaddN C d_Cf_with_6 ?_
  refine ws_newi C d_Cf_with_7 (by omega) arr_I (by decide) (by omega) (fun qa hqa => ?_)
  have F1 : SF S (newA S qa 9 ((mem (G.1 7 e)).length + 1)) := (SF.rf S).nA hqa (by decide)
  have hX1 := hX.sf F1
  have hR : XE (vZ F.1) h t G _ := ⟨r, hX1⟩
  refine ws_astore_n C d_Cf_with_9 (by rw [hn]; decide) ?_
  refine ws_aload_n C d_Cf_with_10 rfl ?_
  refine wx_getP C hR 97 e (h 9 e) d_Cf_with_11 f_Cf_15 rfl rfl (dpF he) rfl ?_
  refine ws_iconst C (nI 0) d_Cf_with_14 (by decide) ?_
  refine ws_aload_n C d_Cf_with_15 rfl ?_
  refine ws_iconst C (nI 0) d_Cf_with_16 (by decide) ?_
  refine ws_aload_n C d_Cf_with_17 rfl ?_
  refine wx_getP C hR 97 e (h 9 e) d_Cf_with_18 f_Cf_15 rfl rfl (dpF he) rfl ?_
  refine wx_mln C hR d_Cf_with_21 he ?_
  have hk9 := hX1.1.1 9 e (dkM he)
  have hz9 := (hX1.2.2.2.1.2.1 e he.1 he.2).1
  have hkA : sK (newA S qa 9 ((mem (G.1 7 e)).length + 1)) qa = 9 := by show va_up (sK S) qa 9 qa = 9; rw [va_up, if_pos rfl]
  have hzA : sZ (newA S qa 9 ((mem (G.1 7 e)).length + 1)) qa = (mem (G.1 7 e)).length + 1 := by show va_up (sZ S) qa _ qa = _; rw [va_up, if_pos rfl]
  refine ws_copyI (sp := 0) (dp := 0) (n := (mem (G.1 7 e)).length) C (tb_at 601 (by decide +kernel) (by decide +kernel)) d_Cf_with_22 hk9 hkA (by rw [hz9]; omega) (by rw [hzA]; omega) (by rw [hz9]; omega) (by rw [hzA]; omega) (by decide) (Nat.le_of_ble_eq_true rfl) ?_
  have F2 := F1.cpE (k := 9) (a0 := h 9 e) (sp := 0) (dp := 0) (n := (mem (G.1 7 e)).length) hqa (by decide)
  have hX2 := hX.sf F2
  have hR : XE (vZ F.1) h t G _ := ⟨r, hX2⟩
  refine ws_aload_n C d_Cf_with_25 rfl ?_
  refine ws_aload_n C d_Cf_with_26 rfl ?_
  refine wx_getP C hR 97 e (h 9 e) d_Cf_with_27 f_Cf_15 rfl rfl (dpF he) rfl ?_
  refine wx_mln C hR d_Cf_with_30 he ?_
  refine ws_iload_n C d_Cf_with_31 rfl ?_
  refine ws_iast C d_Cf_with_32 hkA (by show _ < sZ (newA S qa 9 ((mem (G.1 7 e)).length + 1)) qa; rw [hzA]; omega) (by show sZ (newA S qa 9 ((mem (G.1 7 e)).length + 1)) qa < _; rw [hzA]; omega) ?_
  have F3 := F2.E (k := 9) (i := (mem (G.1 7 e)).length) (x := nI x) hqa (by decide)
  have hX3 := hX.sf F3
  refine ws_new (kd := 3) (n := 2) C d_Cf_with_33 (by decide) (by decide) rfl (tb_at 602 (by decide +kernel) (by decide +kernel)) (tb_at 112 (by decide +kernel) (by decide +kernel)) (tb_at 56 (by decide +kernel) (by decide +kernel)) (by decide) (by omega) (fun q hq => ?_)
  have hX4 := hX3.sf ((SF.rf _).nO (kd := 3) hq (by decide))
  have hR : XE (vZ F.1) h t G _ := ⟨r, hX4⟩
  refine ws_dup C d_Cf_with_36 rfl ?_
  refine ws_aload_n C d_Cf_with_37 rfl ?_
  refine wx_getI C hR 96 e (nI e) d_Cf_with_38 f_Cf_9 rfl rfl (dmF he) rfl ?_
  refine ws_iconst C (nI 1) d_Cf_with_41 (by decide) ?_
  refine ws_iaddN C d_Cf_with_42 ?_
  refine ws_aload_n C d_Cf_with_43 rfl ?_
  refine ws_callIv C w_Cf_29 (As := [_, _]) (c_Cf_init (newO_K _ _ _)) d_Cf_with_44 rfl rfl (Nat.le_of_ble_eq_true rfl) (by decide) (by decide) (by omega) (fun S5 hS5 => ?_)
  subst hS5
  exact ws_aret C R d_Cf_with_47 rfl (Or.inl ⟨_, rfl⟩) (Or.inr ⟨_, rfl⟩) (by omega) (by omega) ⟨q, qa, rfl, hX.sf (wS_sf hqa hq), wS_nc hqa hq (hX.1.1 9 e (dkM he)) rfl (hX.2.2.2.1.2.1 e he.1 he.2).2⟩
set_option maxHeartbeats 4000000 in
set_option maxRecDepth 100000 in
theorem c_Nd_init {V : Ev} {S : Sto} {q n vw rd : Nat} (hK : sK S q = 4) (hrd : rd = 0 ∨ rd = 1) : CT V mi_Nd_init 1 100 [.ref q, .int (nI n), .ref vw, .int (nI rd)] S (Pv (fun S' => ∃ ql, sK S ql = 0 ∧ S' = NdS S q ql n vw rd)) := by
  refine CT.of (cc := prog_5_method_1_code) (own := "ChainVersions$Node") (nL := 4) (d := 1) (by decide) rfl rfl rfl rfl (by simp [Value.category]) (Nat.le_of_ble_eq_true rfl) rfl ?_
  intro F hV hn C R
  subst hV
  have hin : (xt F).name = "<init>" := R.2.2.2
  refine ws_aload_n C d_Nd_init_0 rfl ?_
  refine ws_objInit C (tb_at 132 (by decide +kernel) (by decide +kernel)) obj_1 obj_2 d_Nd_init_1 (Nat.le_of_ble_eq_true rfl) (by decide) ?_
  refine ws_aload_n C d_Nd_init_4 rfl ?_
  refine ws_bipush C (nI 100) d_Nd_init_5 (by decide) ?_
  refine ws_newq (kd := 13) C d_Nd_init_7 (by decide) (by decide) (by decide) rfl (tb_at 133 (by decide +kernel) (by decide +kernel)) C.E.2.1.2.2.1 (by decide) (by decide) (fun ql hql => ?_)
  have hqq : q ≠ ql := fun z => by rw [z, hql] at hK; cases hK
  have hK1 : sK (newA S ql 13 100) q = 4 := by show va_up (sK S) ql 13 q = 4; rw [va_up, if_neg hqq]; exact hK
  refine ws_putFR C hin (some ql) rfl d_Nd_init_10 f_Nd_11 rfl rfl rfl (by rw [show tyk (129 / 32) (129 % 32) = _ from tyk_nl]; exact ⟨rfl, rfl⟩) hK1 ?_
  refine ws_aload_n C d_Nd_init_13 rfl ?_
  refine ws_iconst C (nI 1) d_Nd_init_14 (by decide) ?_
  refine ws_putI C d_Nd_init_15 f_Nd_17 rfl rfl ⟨rfl, rfl⟩ hK1 ?_
  refine ws_aload_n C d_Nd_init_18 rfl ?_
  refine ws_iload_n C d_Nd_init_19 rfl ?_
  refine ws_putFI C hin d_Nd_init_20 f_Nd_21 rfl rfl rfl ⟨rfl, rfl⟩ hK1 ?_
  refine ws_aload_n C d_Nd_init_23 rfl ?_
  refine ws_aload_n C d_Nd_init_24 rfl ?_
  refine ws_putR C (some vw) rfl d_Nd_init_25 f_Nd_25 rfl rfl (by rw [show tyk (130 / 32) (130 % 32) = _ from tyk_nv]; exact ⟨rfl, rfl⟩) hK1 ?_
  refine ws_aload_n C d_Nd_init_28 rfl ?_
  refine ws_iload_n C d_Nd_init_29 rfl ?_
  refine ws_putI C d_Nd_init_30 f_Nd_29 rfl rfl (by rcases hrd with rfl | rfl <;> exact ⟨rfl, rfl⟩) hK1 ?_
  exact ws_vret C R d_Nd_init_33 rfl (by decide) (by decide) ⟨rfl, ⟨ql, hql, rfl⟩⟩
theorem tyk_xn : tyk 6 3 = .object "ChainVersions$Configuration" := by decide +kernel
theorem XE_at {z o : Nat} {h : Nat → Nat → Nat} {t : Nat → Nat} {G : GS} {S : Sto} (H : XE z h t G S) (ho : h 6 0 = o) : XO z o G S := ho ▸ H.out
set_option maxHeartbeats 4000000 in
set_option maxRecDepth 100000 in
theorem c_X_join {V : Ev} {o : Nat} {G : GS} {S : Sto} (hR : XO (vZ V) o G S) (hO : OK G) (hW : WF G) (hU : G.1 2 (G.1 0 0) = 0 ∧ G.1 28 (G.1 0 0) = 0 ∧ G.1 4 (G.1 0 0) = 0 ∧ G.1 5 (G.1 0 0) = 0) : CT V mi_X_join 4 117 [.ref o] S (Pi (jnF G).1 (XO (vZ V) o (jnF G).2)) := by
  refine CT.of (cc := prog_1_method_11_code) (own := "ChainVersions") (nL := 2) (d := 3) (by decide) rfl rfl rfl rfl (by simp [Value.category]) (Nat.le_of_ble_eq_true rfl) rfl ?_
  intro F hV hn C R
  subst hV
  obtain ⟨h, rfl, hR⟩ := hR
  have hb0 := hW.1
  refine ws_aload_n C d_X_join_0 rfl ?_
  refine wx_getI C hR 196 0 (nI (G.1 0 0)) d_X_join_1 f_X_49 rfl rfl (dmX (by decide)) rfl ?_
  refine ws_bipush C (nI 6) d_X_join_4 (by decide) ?_
  refine ws_icmp_ltN C d_X_join_6 (by omega) (by omega) (fun h6 => ?_) (fun h6 => ?_)
  · obtain ⟨r, hX⟩ := id hR
    have hlt := mask_lt hW (Nat.le_refl _)
    have hb7 : G.1 7 (G.1 8 0) ≤ 63 := hO 7 _
    have hmem := mk_8 (G.1 0 0) h6 (G.1 7 (G.1 8 0)) (by omega) hlt
    have hs : jnF G = (nI (G.1 0 0), gN (gN (gN (gN (gN G 0 0 (G.1 0 0 + 1)) 8 0 (G.1 8 0 + 1)) 7 (G.1 8 0 + 1) (G.1 7 (G.1 8 0) ||| 1 <<< G.1 0 0)) 1 (G.1 0 0) 1) 3 (G.1 0 0) (G.1 8 0 + 1)) := by rw [jnF, if_neg (by omega)]
    rw [← jn_eq] at hs
    refine ws_aload_n C d_X_join_11 rfl ?_
    refine wx_getI C hR 196 0 (nI (G.1 0 0)) d_X_join_12 f_X_49 rfl rfl (dmX (by decide)) rfl ?_
    refine ws_istore_n C d_X_join_15 (by rw [hn]; decide) ?_
    refine ws_aload_n C d_X_join_16 rfl ?_
    refine ws_aload_n C d_X_join_17 rfl ?_
    refine wx_getP C hR 195 0 (h 3 (G.1 8 0)) d_X_join_18 f_X_42 rfl rfl (dpX (by decide)) rfl ?_
    refine ws_iload_n C d_X_join_21 rfl ?_
    refine ws_callV C w_X_163 (As := [_]) (c_Cf_with (x := G.1 0 0) hX hO hW.nw) d_X_join_22 rfl rfl (hX.1.1 3 _ (dkF hW.nw)) (Nat.le_of_ble_eq_true rfl) (by decide) (by decide) (by decide) (fun v S1 hS1 => ?_)
    obtain ⟨q, qa, rfl, hX1, hN⟩ := hS1
    rw [← hmem] at hN
    refine ws_putR C (some q) rfl d_X_join_25 f_X_42 rfl rfl (by rw [show tyk (195 / 32) (195 % 32) = _ from tyk_xn]; exact ⟨rfl, rfl⟩) (hX1.1.1 6 0 dk6) ?_
    have hX2 := hX1.conf hW hN
    generalize hh2 : up2 (up2 h 3 (G.1 8 0 + 1) q) 9 (G.1 8 0 + 1) qa = h2 at hX2
    have e6 : h 6 0 = h2 6 0 := by rw [← hh2]; rfl
    have e3 : h2 3 (G.1 8 0 + 1) = q := by rw [← hh2, up2, if_neg (fun z => absurd z.1 (by decide)), up2, if_pos ⟨rfl, rfl⟩]
    rw [e6] at R ⊢
    rw [e6] at hX2
    generalize setP S1 195 (h2 6 0) (some q) = S2 at *
    have g0 : (gN (gN G 8 0 (G.1 8 0 + 1)) 7 (G.1 8 0 + 1) (G.1 7 (G.1 8 0) ||| 1 <<< G.1 0 0)).1 0 0 = G.1 0 0 := by rw [gN_ne _ (by decide), gN_ne _ (by decide)]
    have g8 : (gN (gN G 8 0 (G.1 8 0 + 1)) 7 (G.1 8 0 + 1) (G.1 7 (G.1 8 0) ||| 1 <<< G.1 0 0)).1 8 0 = G.1 8 0 + 1 := by rw [gN_ne _ (by decide), gN_eq]
    have gz : (gN (gN G 8 0 (G.1 8 0 + 1)) 7 (G.1 8 0 + 1) (G.1 7 (G.1 8 0) ||| 1 <<< G.1 0 0)).1 2 (G.1 0 0) = 0 ∧ (gN (gN G 8 0 (G.1 8 0 + 1)) 7 (G.1 8 0 + 1) (G.1 7 (G.1 8 0) ||| 1 <<< G.1 0 0)).1 28 (G.1 0 0) = 0 ∧ (gN (gN G 8 0 (G.1 8 0 + 1)) 7 (G.1 8 0 + 1) (G.1 7 (G.1 8 0) ||| 1 <<< G.1 0 0)).1 4 (G.1 0 0) = 0 ∧ (gN (gN G 8 0 (G.1 8 0 + 1)) 7 (G.1 8 0 + 1) (G.1 7 (G.1 8 0) ||| 1 <<< G.1 0 0)).1 5 (G.1 0 0) = 0 := by simp only [gN_ne _ (show (2 : Nat) ≠ 7 by decide), gN_ne _ (show (2 : Nat) ≠ 8 by decide), gN_ne _ (show (28 : Nat) ≠ 7 by decide), gN_ne _ (show (28 : Nat) ≠ 8 by decide), gN_ne _ (show (4 : Nat) ≠ 7 by decide), gN_ne _ (show (4 : Nat) ≠ 8 by decide), gN_ne _ (show (5 : Nat) ≠ 7 by decide), gN_ne _ (show (5 : Nat) ≠ 8 by decide)]; exact hU
    generalize gN (gN G 8 0 (G.1 8 0 + 1)) 7 (G.1 8 0 + 1) (G.1 7 (G.1 8 0) ||| 1 <<< G.1 0 0) = G2 at *
    have hR2 : XE (vZ F.1) h2 (fun _ => 0) G2 S2 := ⟨r, hX2⟩
    refine ws_aload_n C d_X_join_28 rfl ?_
    refine wx_getP C hR2 192 0 (h2 11 0) d_X_join_29 f_X_11 rfl rfl (dpX (by decide)) rfl ?_
    refine ws_iload_n C d_X_join_32 rfl ?_
    refine ws_new (kd := 4) (n := 8) C d_X_join_33 (by decide) (by decide) rfl (tb_at 75 (by decide +kernel) (by decide +kernel)) (tb_at 128 (by decide +kernel) (by decide +kernel)) (tb_at 57 (by decide +kernel) (by decide +kernel)) (by decide) (by decide) (fun qn hqn => ?_)
    have F1 : SF S2 (newO S2 qn 4) := (SF.rf S2).nO hqn (by decide)
    have hR3 : XE (vZ F.1) h2 (fun _ => 0) G2 (newO S2 qn 4) := ⟨r, hX2.sf F1⟩
    refine ws_dup C d_X_join_36 rfl ?_
    refine ws_iload_n C d_X_join_37 rfl ?_
    refine ws_aload_n C d_X_join_38 rfl ?_
    refine wx_getP C hR3 195 0 q d_X_join_39 f_X_42 rfl rfl (dpX (by decide)) (by show h2 3 (G2.1 8 0) = q; rw [g8]; exact e3) ?_
    refine ws_iconst C (nI 0) d_X_join_42 (by decide) ?_
    refine ws_callIv C w_X_46 (As := [_, _, _]) (c_Nd_init (rd := 0) (newO_K _ _ _) (Or.inl rfl)) d_X_join_43 rfl rfl (Nat.le_of_ble_eq_true rfl) (by decide) (by decide) (by decide) (fun S3 hS3 => ?_)
    obtain ⟨ql, hql, rfl⟩ := hS3
    have hNN := NdS_nn (n := G.1 0 0) (vw := q) (rd := 0) (newO_K S2 qn 4) hql ⟨newO_I S2 qn 4 133 rfl, newO_I S2 qn 4 134 rfl, newO_I S2 qn 4 135 rfl⟩
    have F2 := NdS_sf (n := G.1 0 0) (vw := q) (rd := 0) F1 hqn hql
    have hX4 := hX2.sf F2
    have hql0 := F1.z hql
    generalize NdS (newO S2 qn 4) qn ql (G.1 0 0) q 0 = S4 at *
    have hq4 : ∀ v, v < G.1 0 0 → h2 4 v ≠ qn := fun v hv z => by have := hX2.1.1 4 v (dkN (by rw [g0]; exact hv)); rw [z, hqn] at this; cases this
    have hq13 : ∀ v, v < G.1 0 0 → h2 13 v ≠ ql := fun v hv z => by have := hX2.1.1 13 v (dkG (by rw [g0]; exact hv)); rw [z, hql0] at this; cases this
    refine ws_aast (kd := 11) (ko := 4) C d_X_join_46 (Or.inl ⟨rfl, rfl⟩) (hX4.1.1 11 0 dk11) hNN.1 (by rw [hX4.2.2.2.1.1.1]; exact h6) (by rw [hX4.2.2.2.1.1.1]; decide) ?_
    refine ws_aload_n C d_X_join_47 rfl ?_
    refine ws_dup C d_X_join_48 rfl ?_
    refine ws_getI C d_X_join_49 f_X_49 rfl (hX4.1.1 6 0 dk6) ?_
    refine ws_top (nI (G.1 0 0)) (by refine (hX4.2.1 196 0 (dmX (by decide))).trans ?_; show nI (G2.1 0 0) = _; rw [g0]) ?_
    refine ws_iconst C (nI 1) d_X_join_52 (by decide) ?_
    refine ws_iaddN C d_X_join_53 ?_
    refine ws_putI C d_X_join_54 f_X_49 rfl rfl ⟨rfl, rfl⟩ (hX4.1.1 6 0 dk6) ?_
    have hX5 := hX4.node (q := qn) (ql := ql) (n := G.1 0 0) g0.symm h6 (by rw [g8, e3]; exact hNN) hq4 hq13 gz
    rw [g8] at hX5
    refine ws_iload_n C d_X_join_57 rfl ?_
    exact ws_iret C R d_X_join_58 rfl (by decide) (by decide) ⟨by rw [hs], by rw [hs]; exact XE_at ⟨r, hX5⟩ rfl⟩
  · refine ws_iconst C (-1) d_X_join_9 (by decide) ?_
    exact ws_iret C R d_X_join_10 rfl (by decide) (by decide) ⟨by rw [jnF, if_pos (by omega)], by rw [jnF, if_pos (by omega)]; exact hR.out⟩
