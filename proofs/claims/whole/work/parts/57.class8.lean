/-! the class: reads served, messages received -/
theorem valAt_if {G : GS} {v n : Nat} (h : n ≤ G.1 4 v) : (if 1 ≤ n ∧ n ≤ G.1 4 v then G.2 10 (128 * v + n) else 0) = valAt G v n := by
  unfold valAt
  by_cases n0 : n = 0
  · rw [if_pos n0, if_neg (by omega)]
  · rw [if_neg n0, if_pos (by omega)]
set_option maxHeartbeats 4000000 in
set_option maxRecDepth 100000 in
theorem c_X_finishRead {V : Ev} {h : Nat → Nat → Nat} {t : Nat → Nat} {G : GS} {S : Sto} {r : Rg} (hR : XR (vZ V) h t r G S) (hO : OK G) {c v n : Nat} (hc : c < 3) (hv : v < G.1 0 0) (hn4 : n ≤ G.1 4 v) : CT V mi_X_finishRead 0 0 [.ref (h 2 c), .ref (h 4 v), .int (nI n)] S (Pv (XE (vZ V) h t (don G c v n))) := by
  refine CT.of (cc := prog_1_method_32_code) (own := "ChainVersions") (nL := 3) (d := 2) (by decide) rfl rfl rfl rfl (by simp [Value.category]) (Nat.le_of_ble_eq_true rfl) rfl ?_
  intro F hV hn C R
  subst hV
  have hb4 : G.1 4 v ≤ 100 := hO 4 v
  refine ws_aload_n C d_X_finishRead_0 rfl ?_
  refine ws_iconst C (nI 4) d_X_finishRead_1 (by decide) ?_
  refine ws_iload_n C d_X_finishRead_2 rfl ?_
  refine ws_aload_n C d_X_finishRead_3 rfl ?_
  refine ws_iload_n C d_X_finishRead_4 rfl ?_
  refine ws_callVi C w_X_197 (As := [_]) (c_Nd_valueOf hR hO hv (show n < 2 ^ 31 by omega) (P := fun S' => S = S') rfl) d_X_finishRead_5 rfl rfl (hR.1.1 4 v (dkN hv)) (Nat.le_of_ble_eq_true rfl) (by decide) (by decide) (by decide) (fun S' hS' => ?_)
  subst hS'
  rw [valAt_if hn4]
  refine ws_callVv C w_X_263 (As := [_, _, _]) (c_Cl_finish ⟨r, hR⟩ hO hc) d_X_finishRead_8 rfl rfl (XE.k ⟨r, hR⟩ (dkC hc)) (Nat.le_of_ble_eq_true rfl) (by decide) (by decide) (by decide) (fun S hS => ?_)
  exact ws_vret C R d_X_finishRead_11 rfl (by decide) (by decide) ⟨rfl, hS⟩
set_option maxHeartbeats 4000000 in
set_option maxRecDepth 100000 in
theorem c_X_settleUpTo {V : Ev} {h : Nat → Nat → Nat} {t : Nat → Nat} {G : GS} {S : Sto} (hR : XE (vZ V) h t G S) (hO : OK G) (hW : WF G) {v : Nat} (hv : v < G.1 0 0) {a : Nat} (ha : a ≤ G.1 4 v) : CT V mi_X_settleUpTo 2 2209 [.ref (h 6 0), .ref (h 4 v), .int (nI a)] S (Pv (XE (vZ V) h t (if G.1 5 v < a then snd (gN G 5 v a) v (prd G v) 2 a 0 else G))) := by
  refine CT.of (cc := prog_1_method_37_code) (own := "ChainVersions") (nL := 3) (d := 9) (by decide) rfl rfl rfl rfl (by simp [Value.category]) (Nat.le_of_ble_eq_true rfl) rfl ?_
  intro F hV hn C R
  subst hV
  have hb4 : G.1 4 v ≤ 100 := hO 4 v
  refine ws_iload_n C d_X_settleUpTo_0 rfl ?_
  refine ws_aload_n C d_X_settleUpTo_1 rfl ?_
  refine wx_getI C hR 135 v (nI (G.1 5 v)) d_X_settleUpTo_2 f_X_191 rfl rfl (dmN (by decide) hv) rfl ?_
  refine ws_icmp_leN C d_X_settleUpTo_5 (by first | omega | exact okl hO _ _) (by first | omega | exact okl hO _ _) (fun h5 => ?_) (fun h5 => ?_)
  · exact ws_vret C R d_X_settleUpTo_18 rfl (by decide) (by decide) ⟨rfl, by rw [if_neg (by omega)]; exact hR⟩
  · refine ws_aload_n C d_X_settleUpTo_8 rfl ?_
    refine ws_iload_n C d_X_settleUpTo_9 rfl ?_
    refine wx_putN C hR 135 v 5 d_X_settleUpTo_10 f_X_191 rfl rfl rfl rfl rfl ⟨rfl, rfl⟩ (dmN (by decide) hv) (fun S hR => ?_)
    refine ws_aload_n C d_X_settleUpTo_13 rfl ?_
    refine ws_aload_n C d_X_settleUpTo_14 rfl ?_
    refine ws_callVv C w_X_295 (As := [_]) (c_X_sendAck hR (ok_gN hO (by have : G.1 4 v ≤ 100 := hO 4 v; show a ≤ 100; omega)) (hW.w_5 ha) (by rw [gN_ne _ (by decide)]; exact hv)) d_X_settleUpTo_15 rfl rfl (XE.k hR (dk6)) (Nat.le_of_ble_eq_true rfl) (by decide) (by decide) (by decide) (fun S hR => ?_)
    exact ws_vret C R d_X_settleUpTo_18 rfl (by decide) (by decide) ⟨rfl, by rw [if_pos (by omega)]; rw [prd_c (G := G) (G' := gN G 5 v a) (gN_ne _ (by decide)) (gN_ne _ (by decide)) v, gN_eq] at hR; exact hR⟩
theorem XE.hnd {z : Nat} {h : Nat → Nat → Nat} {t : Nat → Nat} {G : GS} {S : Sto} (hR : XE z h t G S) (ht : t 0 ≠ 0) : ∃ u, MsgF S (h 15 0) u (t 0) (t 1) (t 2) (t 3) (t 4) (t 5) := by obtain ⟨r, hR⟩ := hR; exact ⟨_, hR.2.2.2.2.2.2.1 ht⟩
set_option maxHeartbeats 4000000 in
set_option maxRecDepth 100000 in
theorem c_X_answer {V : Ev} {h : Nat → Nat → Nat} {t : Nat → Nat} {G : GS} {S : Sto} (hR : XE (vZ V) h t G S) (hO : OK G) (hW : WF G) {v : Nat} (hv : v < G.1 0 0) (ht : t 0 = 3) (h1 : t 1 ≤ 5) (h4 : t 4 ≤ 3) : CT V mi_X_answer 2 2209 [.ref (h 6 0), .ref (h 4 v), .ref (h 15 0)] S (Pv (XE (vZ V) h t (snd G v (some (t 1)) 4 (clN G v (t 4)) (t 5)))) := by
  refine CT.of (cc := prog_1_method_38_code) (own := "ChainVersions") (nL := 4) (d := 8) (by decide) rfl rfl rfl rfl (by simp [Value.category]) (Nat.le_of_ble_eq_true rfl) rfl ?_
  intro F hV hn C R
  subst hV
  have ht0 : t 0 ≠ 0 := by omega
  obtain ⟨r, hX⟩ := hR
  refine ws_new (kd := 7) (n := 9) C d_X_answer_0 (by decide) (by decide) rfl (tb_at 332 (by decide +kernel) (by decide +kernel)) (tb_at 333 (by decide +kernel) (by decide +kernel)) (tb_at 61 (by decide +kernel) (by decide +kernel)) (by decide) (by decide) (fun q hq => ?_)
  have hN := hX.nm hq
  replace hX := hX.nwO (kd := 7) hq (by decide)
  have hK : sK (newO S q 7) q = 7 := by show va_up (sK S) q 7 q = 7; rw [va_up, if_pos rfl]
  generalize newO S q 7 = S at *
  have hR : XE (vZ F.1) h t G S := ⟨r, hX⟩
  refine ws_dup C d_X_answer_3 rfl ?_
  refine ws_iconst C (nI 4) d_X_answer_4 (by decide) ?_
  refine ws_aload_n C d_X_answer_5 rfl ?_
  refine ws_aload_n C d_X_answer_6 rfl ?_
  have hH := XE.hnd hR ht0
  obtain ⟨uH, hH⟩ := hH
  refine wx_msI C d_X_answer_7 f_X_316 rfl rfl hH.1 hH.2.2.1 ?_
  clear hH
  refine ws_callIv C w_X_249 (As := [_, _, _]) (c_Mg_init hX hO hW hv hN hK) d_X_answer_10 rfl rfl (Nat.le_of_ble_eq_true rfl) (by decide) (by decide) (by decide) (fun S hNM => ?_)
  obtain ⟨hX, hN, hM⟩ := hNM
  have hR : XE (vZ F.1) h t G S := ⟨r, hX⟩
  refine ws_astore_n C d_X_answer_13 (by rw [hn]; decide) ?_
  refine ws_aload_n C d_X_answer_14 rfl ?_
  refine ws_aload_n C d_X_answer_15 rfl ?_
  have hH := XE.hnd hR ht0
  obtain ⟨uH, hH⟩ := hH
  refine wx_msI C d_X_answer_16 f_X_253 rfl rfl hH.1 (hH.2.2.2.2.2.2.2.2.2 (by omega)) ?_
  clear hH
  refine ws_putI C d_X_answer_19 f_X_253 rfl rfl ⟨rfl, rfl⟩ hM.1 ?_
  replace hX := hX.mI (f := 232) (x := nI (t 5)) hN rfl
  replace hM := hM.set (f := 232) (y := nI (t 5)) (by decide)
  have a232 : sI (setI S 232 q (nI (t 5))) 232 q = nI (t 5) := sI_at
  generalize setI S 232 q (nI (t 5)) = S at *
  have hR : XE (vZ F.1) h t G S := ⟨r, hX⟩
  refine ws_aload_n C d_X_answer_22 rfl ?_
  refine ws_aload_n C d_X_answer_23 rfl ?_
  refine ws_aload_n C d_X_answer_24 rfl ?_
  have hH := XE.hnd hR ht0
  obtain ⟨uH, hH⟩ := hH
  refine wx_msI C d_X_answer_25 f_X_252 rfl rfl hH.1 (hH.2.2.2.2.2.2.2.2.1 (by omega)) ?_
  clear hH
  refine ws_callVi C w_X_236 (As := [_]) (c_Nd_cleanVersion hX hO hW hv h4 (P := fun S' => S = S') rfl) d_X_answer_28 rfl rfl (hX.1.1 4 v (dkN hv)) (Nat.le_of_ble_eq_true rfl) (by decide) (by decide) (by decide) (fun S' hS' => ?_)
  subst hS'
  refine ws_putI C d_X_answer_31 f_X_271 rfl rfl ⟨rfl, rfl⟩ hM.1 ?_
  replace hX := hX.mI (f := 229) (x := nI (clN G v (t 4))) hN rfl
  replace hM := hM.set (f := 229) (y := nI (clN G v (t 4))) (by decide)
  have a229 : sI (setI S 229 q (nI (clN G v (t 4)))) 229 q = nI (clN G v (t 4)) := sI_at
  have a232 : sI (setI S 229 q (nI (clN G v (t 4)))) 232 q = nI (t 5) := (sI_nt (by decide)).trans a232
  generalize setI S 229 q (nI (clN G v (t 4))) = S at *
  have hR : XE (vZ F.1) h t G S := ⟨r, hX⟩
  refine ws_aload_n C d_X_answer_34 rfl ?_
  refine ws_aload_n C d_X_answer_35 rfl ?_
  refine ws_callVv C w_X_256 (As := [_]) (c_X_send (w := some (t 1)) (a := clN G v (t 4)) (b := t 5) hX hO hW hM ⟨fun z => absurd z (by decide), fun _ => a229, fun z => absurd z (by decide), fun z => absurd z (by decide), fun _ => a232⟩ (fun z => absurd z (by decide)) (fun x hx => by cases hx; exact h1)) d_X_answer_36 rfl rfl (hX.1.1 6 0 dk6) (Nat.le_of_ble_eq_true rfl) (by decide) (by decide) (by decide) (fun S hR => ?_)
  exact ws_vret C R d_X_answer_39 rfl (by decide) (by decide) ⟨rfl, hR⟩
theorem ans_e {G : GS} {v n k : Nat} (h : n = clN G v k ∨ (G.1 5 v < n ∧ n ≤ G.1 4 v ∧ G.1 9 (128 * v + n) = k)) : (if G.1 5 v < n ∧ n ≤ G.1 4 v ∧ G.1 9 (128 * v + n) = k then n else clN G v k) = n := by
  split
  · rfl
  · rename_i hn
    rcases h with h | h
    · exact h.symm
    · exact absurd h hn
set_option maxHeartbeats 4000000 in
set_option maxRecDepth 100000 in
theorem c_X_useAnswer {V : Ev} {h : Nat → Nat → Nat} {t : Nat → Nat} {G : GS} {S : Sto} (hR : XE (vZ V) h t G S) (hO : OK G) (hW : WF G) {v : Nat} (hv : v < G.1 0 0) (ht : t 0 = 4) (h5 : t 5 < 3) (h4 : t 4 ≤ 100) (hs : G.1 13 (t 5) = 3) (hw : G.2 29 (t 5) = nI v) : CT V mi_X_useAnswer 0 0 [.ref (h 6 0), .ref (h 4 v), .ref (h 15 0)] S (Pv (XE (vZ V) h t (ans G v (t 4) (t 5)))) := by
  refine CT.of (cc := prog_1_method_39_code) (own := "ChainVersions") (nL := 5) (d := 4) (by decide) rfl rfl rfl rfl (by simp [Value.category]) (Nat.le_of_ble_eq_true rfl) rfl ?_
  intro F hV hn C R
  subst hV
  have ht0 : t 0 ≠ 0 := by omega
  refine ws_aload_n C d_X_useAnswer_0 rfl ?_
  refine ws_aload_n C d_X_useAnswer_1 rfl ?_
  have hH := XE.hnd hR ht0
  obtain ⟨uH, hH⟩ := hH
  refine wx_msI C d_X_useAnswer_2 f_X_253 rfl rfl hH.1 (hH.2.2.2.2.2.2.2.2.2 (by omega)) ?_
  clear hH
  refine ws_callVr C w_X_54 (As := [_]) (c_X_clientOf hR hO (nI (t 5)) (P := fun S' => S = S') rfl) d_X_useAnswer_5 rfl rfl (XE.k hR (dk6)) (Nat.le_of_ble_eq_true rfl) (by decide) (by decide) (by decide) (fun S' hS' => ?_)
  subst hS'
  rw [clA_n h5]
  refine ws_astore_n C d_X_useAnswer_8 (by rw [hn]; decide) ?_
  refine ws_aload_n C d_X_useAnswer_9 rfl ?_
  refine ws_ifnull C d_X_useAnswer_10 ?_
  refine ws_aload_n C d_X_useAnswer_13 rfl ?_
  refine ws_aload_n C d_X_useAnswer_14 rfl ?_
  refine wx_getI C hR 128 v (nI v) d_X_useAnswer_15 f_X_243 rfl rfl (dmN (by decide) hv) rfl ?_
  refine ws_callVi C w_X_260 (As := [_]) (c_Cl_isReadingAt hR hO h5 (nI v) (P := fun S' => S = S') rfl) d_X_useAnswer_18 rfl rfl (XE.k hR (dkC h5)) (Nat.le_of_ble_eq_true rfl) (by decide) (by decide) (by decide) (fun S' hS' => ?_)
  subst hS'
  refine ws_if_neB C d_X_useAnswer_21 (fun _ => ?_) (fun z => absurd ⟨hs, hw⟩ (of_decide_eq_false z))
  refine ws_aload_n C d_X_useAnswer_25 rfl ?_
  refine ws_aload_n C d_X_useAnswer_26 rfl ?_
  refine wx_getI C hR 66 (t 5) (nI (G.1 15 (t 5))) d_X_useAnswer_27 f_X_220 rfl rfl (dmC (by decide) h5) rfl ?_
  refine ws_aload_n C d_X_useAnswer_30 rfl ?_
  have hH := XE.hnd hR ht0
  obtain ⟨uH, hH⟩ := hH
  refine wx_msI C d_X_useAnswer_31 f_X_271 rfl rfl hH.1 (hH.2.2.2.2.2.2.1 (by omega)) ?_
  clear hH
  obtain ⟨r, hX⟩ := hR
  refine ws_callVi C w_X_319 (As := [_, _]) (c_Nd_hasVersion hX hO hW hv (hO 15 (t 5)) (show t 4 < 2 ^ 31 by omega) (P := fun S' => S = S') rfl) d_X_useAnswer_34 rfl rfl (hX.1.1 4 v (dkN hv)) (Nat.le_of_ble_eq_true rfl) (by decide) (by decide) (by decide) (fun S' hS' => ?_)
  subst hS'
  have hR : XE (vZ F.1) h t G S := ⟨r, hX⟩
  refine ws_istore C d_X_useAnswer_37 (by rw [hn]; decide) ?_
  refine ws_aload_n C d_X_useAnswer_39 rfl ?_
  refine ws_aload_n C d_X_useAnswer_40 rfl ?_
  refine ws_iload C d_X_useAnswer_41 rfl ?_
  refine ws_if_eqB C d_X_useAnswer_43 (fun h43 => ?_) (fun h43 => ?_)
  · have h43 := of_decide_eq_false h43
    refine ws_aload_n C d_X_useAnswer_53 rfl ?_
    refine ws_aload_n C d_X_useAnswer_54 rfl ?_
    refine wx_getI C hR 66 (t 5) (nI (G.1 15 (t 5))) d_X_useAnswer_55 f_X_220 rfl rfl (dmC (by decide) h5) rfl ?_
    refine ws_callVi C w_X_236 (As := [_]) (c_Nd_cleanVersion hX hO hW hv (hO 15 (t 5)) (P := fun S' => S = S') rfl) d_X_useAnswer_58 rfl rfl (hX.1.1 4 v (dkN hv)) (Nat.le_of_ble_eq_true rfl) (by decide) (by decide) (by decide) (fun S' hS' => ?_)
    subst hS'
    refine ws_callSv C w_X_239 (As := [_, _, _]) (c_X_finishRead (n := clN G v (G.1 15 (t 5))) hX hO h5 hv (Nat.le_trans (cnF_le _ _ _ _) (hW.2.2.2.2.2 v))) d_X_useAnswer_61 rfl rfl (Nat.le_of_ble_eq_true rfl) (by decide) (by decide) (by decide) (fun S hR => ?_)
    exact ws_vret C R d_X_useAnswer_64 rfl (by decide) (by decide) ⟨rfl, by rw [ans, if_neg (by omega)]; exact hR⟩
  · have h43 := of_decide_eq_true h43
    have hcl : clN G v (G.1 15 (t 5)) ≤ G.1 4 v := Nat.le_trans (cnF_le _ _ _ _) (hW.2.2.2.2.2 v)
    have h44 : t 4 ≤ G.1 4 v := by omega
    refine ws_aload_n C d_X_useAnswer_46 rfl ?_
    have hH := XE.hnd hR ht0
    obtain ⟨uH, hH⟩ := hH
    refine wx_msI C d_X_useAnswer_47 f_X_271 rfl rfl hH.1 (hH.2.2.2.2.2.2.1 (by omega)) ?_
    clear hH
    refine ws_goto C d_X_useAnswer_50 ?_
    refine ws_callSv C w_X_239 (As := [_, _, _]) (c_X_finishRead (n := t 4) hX hO h5 hv h44) d_X_useAnswer_61 rfl rfl (Nat.le_of_ble_eq_true rfl) (by decide) (by decide) (by decide) (fun S hR => ?_)
    exact ws_vret C R d_X_useAnswer_64 rfl (by decide) (by decide) ⟨rfl, by rw [ans, ans_e h43]; exact hR⟩
set_option maxHeartbeats 4000000 in
set_option maxRecDepth 100000 in
theorem c_X_serve {V : Ev} {h : Nat → Nat → Nat} {t : Nat → Nat} {G : GS} {S : Sto} (hR : XE (vZ V) h t G S) (hO : OK G) (hW : WF G) {c v : Nat} (hc : c < 3) (hv : v < G.1 0 0) : CT V mi_X_serve 2 2209 [.ref (h 6 0), .int (nI c), .ref (h 2 c), .ref (h 4 v)] S (Pi (nI (srv G c v).1) (XE (vZ V) h t (srv G c v).2)) := by
  refine CT.of (cc := prog_1_method_30_code) (own := "ChainVersions") (nL := 5) (d := 8) (by decide) rfl rfl rfl rfl (by simp [Value.category]) (Nat.le_of_ble_eq_true rfl) rfl ?_
  intro F hV hn C R
  subst hV
  replace hR := hR.fr (j := 17) (i := c) (n := v) (Or.inl rfl)
  have hO1 : OK (gN G 17 c v) := ok_gN hO (by have := hW.m6 hv; show v ≤ 5; omega)
  have hW1 : WF (gN G 17 c v) := hW.w_N (by decide)
  have hv1 : v < (gN G 17 c v).1 0 0 := by rw [gN_ne _ (by decide)]; exact hv
  have hv5 : v ≤ 5 := by have := hW.m6 hv; omega
  have hb15 : G.1 15 c ≤ 3 := hO 15 c
  obtain ⟨r, hX⟩ := hR
  have hR : XE (vZ F.1) h t (gN G 17 c v) S := ⟨r, hX⟩
  refine ws_aload_n C d_X_serve_0 rfl ?_
  refine ws_aload_n C d_X_serve_1 rfl ?_
  refine wx_getI C hR 66 c (nI ((gN G 17 c v).1 15 c)) d_X_serve_2 f_X_220 rfl rfl (dmC (by decide) hc) rfl ?_
  refine ws_top (nI (G.1 15 c)) (by simp [gN_1, gN_2, gV_1, gV_2]) ?_
  refine ws_callVi C w_X_233 (As := [_]) (c_Nd_isClean hX hO1 hW1 hv1 hb15 (P := fun S' => S = S') rfl) d_X_serve_5 rfl rfl (hX.1.1 4 v (dkN hv1)) (Nat.le_of_ble_eq_true rfl) (by decide) (by decide) (by decide) (fun S' hS' => ?_)
  subst hS'
  rw [isCl_c (gN_ne _ (by decide)) (gN_ne _ (by decide)) (gN_ne _ (by decide))]
  refine ws_if_eqB C d_X_serve_8 (fun h8 => ?_) (fun h8 => ?_)
  · refine ws_aload_n C d_X_serve_26 rfl ?_
    refine ws_aload_n C d_X_serve_27 rfl ?_
    refine wx_getI C hR 128 v (nI v) d_X_serve_28 f_X_243 rfl rfl (dmN (by decide) hv1) rfl ?_
    refine wx_putV C hR 68 c 29 d_X_serve_31 f_X_92 rfl (by decide) hc (fun S hR => ?_)
    have hO1 : OK (gV (gN G 17 c v) 29 c (nI v)) := ok_gV hO1
    have hW1 : WF (gV (gN G 17 c v) 29 c (nI v)) := hW1.w_V
    have hv1 : v < (gV (gN G 17 c v) 29 c (nI v)).1 0 0 := hv1
    obtain ⟨r, hX⟩ := hR
    refine ws_new (kd := 7) (n := 9) C d_X_serve_34 (by decide) (by decide) rfl (tb_at 332 (by decide +kernel) (by decide +kernel)) (tb_at 333 (by decide +kernel) (by decide +kernel)) (tb_at 61 (by decide +kernel) (by decide +kernel)) (by decide) (by decide) (fun q hq => ?_)
    have hN := hX.nm hq
    replace hX := hX.nwO (kd := 7) hq (by decide)
    have hK : sK (newO S q 7) q = 7 := by show va_up (sK S) q 7 q = 7; rw [va_up, if_pos rfl]
    generalize newO S q 7 = S at *
    have hR : XE (vZ F.1) h t (gV (gN G 17 c v) 29 c (nI v)) S := ⟨r, hX⟩
    refine ws_dup C d_X_serve_37 rfl ?_
    refine ws_iconst C (nI 3) d_X_serve_38 (by decide) ?_
    refine ws_aload_n C d_X_serve_39 rfl ?_
    refine ws_aload_n C d_X_serve_40 rfl ?_
    refine wx_getP C hR 130 v (h 3 ((gV (gN G 17 c v) 29 c (nI v)).1 3 v)) d_X_serve_41 f_X_119 rfl rfl (dpN (by decide) hv1) rfl ?_
    refine ws_callVi C w_X_246 (As := []) (c_Cf_tail hR hO1 (hW1.vw hv1) (P := fun S' => S = S') rfl) d_X_serve_44 rfl rfl (hX.1.1 3 _ (dkF (hW1.vw hv1))) (Nat.le_of_ble_eq_true rfl) (by decide) (by decide) (by decide) (fun S' hS' => ?_)
    subst hS'
    rw [mAt_tl hO1]
    refine ws_callIv C w_X_249 (As := [_, _, _]) (c_Mg_init hX hO1 hW1 hv1 hN hK) d_X_serve_47 rfl rfl (Nat.le_of_ble_eq_true rfl) (by decide) (by decide) (by decide) (fun S hNM => ?_)
    obtain ⟨hX, hN, hM⟩ := hNM
    have hR : XE (vZ F.1) h t (gV (gN G 17 c v) 29 c (nI v)) S := ⟨r, hX⟩
    refine ws_astore C d_X_serve_50 (by rw [hn]; decide) ?_
    refine ws_aload C d_X_serve_52 rfl ?_
    refine ws_aload_n C d_X_serve_54 rfl ?_
    refine wx_getI C hR 66 c (nI ((gV (gN G 17 c v) 29 c (nI v)).1 15 c)) d_X_serve_55 f_X_220 rfl rfl (dmC (by decide) hc) rfl ?_
    refine ws_top (nI (G.1 15 c)) (by simp [gN_1, gN_2, gV_1, gV_2]) ?_
    refine ws_putI C d_X_serve_58 f_X_252 rfl rfl ⟨rfl, rfl⟩ hM.1 ?_
    replace hX := hX.mI (f := 231) (x := nI (G.1 15 c)) hN rfl
    replace hM := hM.set (f := 231) (y := nI (G.1 15 c)) (by decide)
    have a231 : sI (setI S 231 q (nI (G.1 15 c))) 231 q = nI (G.1 15 c) := sI_at
    generalize setI S 231 q (nI (G.1 15 c)) = S at *
    have hR : XE (vZ F.1) h t (gV (gN G 17 c v) 29 c (nI v)) S := ⟨r, hX⟩
    refine ws_aload C d_X_serve_61 rfl ?_
    refine ws_iload_n C d_X_serve_63 rfl ?_
    refine ws_putI C d_X_serve_64 f_X_253 rfl rfl ⟨rfl, rfl⟩ hM.1 ?_
    replace hX := hX.mI (f := 232) (x := nI c) hN rfl
    replace hM := hM.set (f := 232) (y := nI c) (by decide)
    have a232 : sI (setI S 232 q (nI c)) 232 q = nI c := sI_at
    have a231 : sI (setI S 232 q (nI c)) 231 q = nI (G.1 15 c) := (sI_nt (by decide)).trans a231
    generalize setI S 232 q (nI c) = S at *
    have hR : XE (vZ F.1) h t (gV (gN G 17 c v) 29 c (nI v)) S := ⟨r, hX⟩
    refine ws_aload_n C d_X_serve_67 rfl ?_
    refine ws_aload C d_X_serve_68 rfl ?_
    refine ws_callVv C w_X_256 (As := [_]) (c_X_send (w := tlo (gV (gN G 17 c v) 29 c (nI v)) ((gV (gN G 17 c v) 29 c (nI v)).1 3 v)) (a := G.1 15 c) (b := c) hX hO1 hW1 hM ⟨fun z => absurd z (by decide), fun z => absurd z (by decide), fun z => absurd z (by decide), fun _ => a231, fun _ => a232⟩ (fun z => absurd z (by decide)) (fun x hx => tlo_le hx)) d_X_serve_70 rfl rfl (hX.1.1 6 0 dk6) (Nat.le_of_ble_eq_true rfl) (by decide) (by decide) (by decide) (fun S hR => ?_)
    refine ws_bipush C (nI 6) d_X_serve_73 (by decide) ?_
    exact ws_iret C R d_X_serve_75 rfl (by decide) (by decide) ⟨by rw [srv, if_neg (by rw [h8]; decide)], by rw [srv, if_neg (by rw [h8]; decide)]; rw [tlo_c (G := G) (G' := (gV (gN G 17 c v) 29 c (nI v))) (by rw [gV_1, gN_ne _ (by decide)]), show (gV (gN G 17 c v) 29 c (nI v)).1 3 v = G.1 3 v from by rw [gV_1, gN_ne _ (by decide)]] at hR; exact hR⟩
  · refine ws_aload_n C d_X_serve_11 rfl ?_
    refine ws_aload_n C d_X_serve_12 rfl ?_
    refine ws_aload_n C d_X_serve_13 rfl ?_
    refine ws_aload_n C d_X_serve_14 rfl ?_
    refine wx_getI C hR 66 c (nI ((gV (gN G 17 c v) 29 c (nI v)).1 15 c)) d_X_serve_15 f_X_220 rfl rfl (dmC (by decide) hc) rfl ?_
    refine ws_top (nI (G.1 15 c)) (by simp [gN_1, gN_2, gV_1, gV_2]) ?_
    refine ws_callVi C w_X_236 (As := [_]) (c_Nd_cleanVersion hX hO1 hW1 hv1 hb15 (P := fun S' => S = S') rfl) d_X_serve_18 rfl rfl (hX.1.1 4 v (dkN hv1)) (Nat.le_of_ble_eq_true rfl) (by decide) (by decide) (by decide) (fun S' hS' => ?_)
    subst hS'
    rw [clN_c (gN_ne _ (by decide)) (gN_ne _ (by decide))]
    refine ws_callSv C w_X_239 (As := [_, _, _]) (c_X_finishRead (n := clN G v (G.1 15 c)) hX hO1 hc hv1 (by rw [gN_ne _ (by decide)]; exact Nat.le_trans (cnF_le _ _ _ _) (hW.2.2.2.2.2 v))) d_X_serve_21 rfl rfl (Nat.le_of_ble_eq_true rfl) (by decide) (by decide) (by decide) (fun S hR => ?_)
    refine ws_iconst C (nI 5) d_X_serve_24 (by decide) ?_
    exact ws_iret C R d_X_serve_25 rfl (by decide) (by decide) ⟨by rw [srv, if_pos h8], by rw [srv, if_pos h8]; exact hR⟩
set_option maxHeartbeats 4000000 in
set_option maxRecDepth 100000 in
theorem c_X_serveWaitingReads {V : Ev} {h : Nat → Nat → Nat} {t : Nat → Nat} {G : GS} {S : Sto} (hR : XE (vZ V) h t G S) (hO : OK G) (hW : WF G) {v : Nat} (hv : v < G.1 0 0) (hc : G.1 20 0 + 3 ≤ 1399) (hA : ∀ c, c < 3 → G.1 13 c = 3 → G.2 29 c = nI (G.1 17 c)) : CT V mi_X_serveWaitingReads 6 6627 [.ref (h 6 0), .ref (h 4 v)] S (Pv (XE (vZ V) h t (svR v 3 0 G))) := by
  refine CT.of (cc := prog_1_method_31_code) (own := "ChainVersions") (nL := 3) (d := 9) (by decide) rfl rfl rfl rfl (by simp [Value.category]) (Nat.le_of_ble_eq_true rfl) rfl ?_
  intro F hV hn C R
  subst hV
  refine ws_iconst C (nI 0) d_X_serveWaitingReads_0 (by decide) ?_
  refine ws_istore_n C d_X_serveWaitingReads_1 (by rw [hn]; decide) ?_
  suffices hL : ∀ n c (G1 : GS), c + n = 3 → OK G1 → WF G1 → G1.1 0 = G.1 0 → G1.1 20 0 + n ≤ 1399 → (∀ c', c ≤ c' → c' < 3 → G1.1 13 c' = 3 → G1.2 29 c' = nI (G1.1 17 c')) → svR v n c G1 = svR v 3 0 G → ∀ S : Sto, XE (vZ F.1) h t G1 S → WS F 2 [some (.ref (h 6 0)), some (.ref (h 4 v)), some (.int (nI c))] [] S (2 * c) (2209 * c) from hL 3 0 G rfl hO hW rfl hc (fun c' _ h3 => hA c' h3) rfl S hR
  clear hR
  intro n
  induction n with
  | zero =>
    intro c G1 hc3 hO1 hW1 g0 h20 hA1 hp S hR
    refine ws_iload_n C d_X_serveWaitingReads_2 rfl ?_
    refine ws_iconst C (nI 3) d_X_serveWaitingReads_3 (by decide) ?_
    refine ws_icmp_geN C d_X_serveWaitingReads_4 (by first | omega | exact okl hO1 _ _) (by first | omega | exact okl hO1 _ _) (fun h4 => ?_) (fun h4 => ?_)
    · exact ws_vret C R d_X_serveWaitingReads_42 rfl (by omega) (by omega) ⟨rfl, by rw [← hp]; exact hR⟩
    · omega
  | succ n ih =>
    intro c G1 hc3 hO1 hW1 g0 h20 hA1 hp S hR
    have hc : c < 3 := by omega
    have hv1 : v < G1.1 0 0 := by rw [g0]; exact hv
    rw [svR] at hp
    have hv5 : v ≤ 5 := by have := hW1.m6 hv1; omega
    have hb17 : G1.1 17 c ≤ 5 := hO1 17 c
    have hs20 := (srv_20 G1 c v).2
    refine ws_iload_n C d_X_serveWaitingReads_2 rfl ?_
    refine ws_iconst C (nI 3) d_X_serveWaitingReads_3 (by decide) ?_
    refine ws_icmp_geN C d_X_serveWaitingReads_4 (by first | omega | exact okl hO1 _ _) (by first | omega | exact okl hO1 _ _) (fun h4 => ?_) (fun h4 => ?_)
    · omega
    · refine ws_aload_n C d_X_serveWaitingReads_7 rfl ?_
      refine wx_getP C hR 193 0 (h 12 0) d_X_serveWaitingReads_8 f_X_17 rfl rfl (dpX (by decide)) rfl ?_
      refine ws_iload_n C d_X_serveWaitingReads_11 rfl ?_
      refine wx_cli C hR d_X_serveWaitingReads_12 hc ?_
      refine ws_aload_n C d_X_serveWaitingReads_13 rfl ?_
      refine wx_getI C hR 128 v (nI v) d_X_serveWaitingReads_14 f_X_243 rfl rfl (dmN (by decide) hv1) rfl ?_
      refine ws_callVi C w_X_260 (As := [_]) (c_Cl_isReadingAt hR hO1 hc (nI v) (P := fun S' => S = S') rfl) d_X_serveWaitingReads_17 rfl rfl (XE.k hR (dkC hc)) (Nat.le_of_ble_eq_true rfl) (by decide) (by omega) (by omega) (fun S' hS' => ?_)
      subst hS'
      refine ws_if_eqB C d_X_serveWaitingReads_20 (fun h20b => ?_) (fun h20b => ?_)
      · have hno := of_decide_eq_false h20b
        have hno2 : ¬ (G1.1 13 c = 3 ∧ G1.1 17 c = v) := fun z => hno ⟨z.1, by rw [hA1 c (Nat.le_refl _) hc z.1, z.2]⟩
        rw [if_neg hno2] at hp
        refine ws_iinc C _ d_X_serveWaitingReads_36 rfl (inc1 _) (by rw [hn]; decide) ?_
        refine ws_goto C d_X_serveWaitingReads_39 ?_
        exact ws_widen (by omega) (by omega) (ih (c + 1) G1 (by omega) hO1 hW1 g0 (by omega) (fun c' h1 h2 => hA1 c' (by omega) h2) hp S hR)
      · have hyes := of_decide_eq_true h20b
        have hyes2 : G1.1 13 c = 3 ∧ G1.1 17 c = v := ⟨hyes.1, by have e := hA1 c (Nat.le_refl _) hc hyes.1; rw [hyes.2] at e; exact ((nI_eq (by omega) (by omega)).mp e).symm⟩
        rw [if_pos hyes2] at hp
        refine ws_aload_n C d_X_serveWaitingReads_23 rfl ?_
        refine ws_iload_n C d_X_serveWaitingReads_24 rfl ?_
        refine ws_aload_n C d_X_serveWaitingReads_25 rfl ?_
        refine wx_getP C hR 193 0 (h 12 0) d_X_serveWaitingReads_26 f_X_17 rfl rfl (dpX (by decide)) rfl ?_
        refine ws_iload_n C d_X_serveWaitingReads_29 rfl ?_
        refine wx_cli C hR d_X_serveWaitingReads_30 hc ?_
        refine ws_aload_n C d_X_serveWaitingReads_31 rfl ?_
        refine ws_callVi C w_X_85 (As := [_, _, _]) (c_X_serve hR hO1 hW1 hc hv1) d_X_serveWaitingReads_32 rfl rfl (XE.k hR dk6) (Nat.le_of_ble_eq_true rfl) (by decide) (by omega) (by omega) (fun S hR => ?_)
        refine ws_pop C d_X_serveWaitingReads_35 rfl ?_
        refine ws_iinc C _ d_X_serveWaitingReads_36 rfl (inc1 _) (by rw [hn]; decide) ?_
        refine ws_goto C d_X_serveWaitingReads_39 ?_
        exact ws_widen (by omega) (by omega) (ih (c + 1) _ (by omega) (ok_srv hO1 (by omega) hv5 (by omega)) (hW1.w_srv c v) (by rw [srv_ne _ _ _ (by decide) (by decide) (by decide) (by decide)]; exact g0) (by omega) (fun c' h1 h2 h3 => by rw [srv_c _ _ _ (by omega) (by omega)] at h3; rw [srv_c29 _ _ _ (by omega), srv_c _ _ _ (by omega) (by omega)]; exact hA1 c' (by omega) h2 h3) hp S hR)
