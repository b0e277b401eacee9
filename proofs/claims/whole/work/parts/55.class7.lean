/-! the class: messages sent, updates taken -/
theorem tyk_mu : tyk 7 4 = .object "ChainVersions$Update" := by decide +kernel
set_option maxHeartbeats 4000000 in
set_option maxRecDepth 100000 in
theorem c_X_send {V : Ev} {h : Nat → Nat → Nat} {t : Nat → Nat} {G : GS} {S : Sto} {r : Rg} (hR : XR (vZ V) h t r G S) (hO : OK G) (hW : WF G) {q k v a b : Nat} {w : Option Nat} (hM : MgO S q k v (oI w) (G.1 3 v)) (hPL : PLd S q r.2.2 k v a b) (hU : k = 1 → a ≤ G.1 4 v) (hw : ∀ x, w = some x → x ≤ 5) : CT V mi_X_send 1 2200 [.ref (h 6 0), .ref q] S (Pv (XE (vZ V) h t (snd G v w k a b))) := by
  refine CT.of (cc := prog_1_method_44_code) (own := "ChainVersions") (nL := 3) (d := 7) (by decide) rfl rfl rfl rfl (by simp [Value.category]) (Nat.le_of_ble_eq_true rfl) rfl ?_
  intro F hV hn C R
  subst hV
  have hc : G.1 20 0 ≤ 1399 := hO 20 0
  refine ws_aload_n C d_X_send_0 rfl ?_
  refine ws_aload_n C d_X_send_1 rfl ?_
  refine wx_msI C d_X_send_2 f_X_329 rfl rfl hM.1 hM.2.2.2.1 ?_
  refine ws_callVr C w_X_95 (As := [_]) (c_X_livingNode ⟨r, hR⟩ hO hW (oI w) (P := fun S' => S = S') rfl) d_X_send_5 rfl rfl (XE.k ⟨r, hR⟩ (dk6)) (Nat.le_of_ble_eq_true rfl) (by decide) (by decide) (by decide) (fun S' hS' => ?_)
  subst hS'
  rcases lvA_cs (h := h) hW (oI w) with ⟨he, hx⟩ | ⟨v2, hov, hv5, hv2, h1, he⟩
  · rw [he]
    refine ws_astore_nN C d_X_send_8 (by rw [hn]; decide) ?_
    refine ws_aload_nN C d_X_send_9 rfl ?_
    refine ws_ifnullN C d_X_send_10 ?_
    exact ws_vret C R d_X_send_36 rfl (by decide) (by decide) ⟨rfl, ⟨r, (snd_no (v := v) (k := k) (a := a) (b := b) hO hw hx).symm ▸ hR⟩⟩
  · rw [he]
    have hw2 : w = some v2 := (oI_inj (fun x hx => by have := hw x hx; omega) (by omega)).mp hov
    subst hw2
    have hb3 : G.1 3 v2 ≤ 12 := hO 3 v2
    have hb3v : G.1 3 v ≤ 12 := hO 3 v
    refine ws_astore_n C d_X_send_8 (by rw [hn]; decide) ?_
    refine ws_aload_n C d_X_send_9 rfl ?_
    refine ws_ifnull C d_X_send_10 ?_
    refine ws_aload_n C d_X_send_13 rfl ?_
    refine wx_getP C ⟨r, hR⟩ 130 v2 (h 3 (G.1 3 v2)) d_X_send_14 f_X_119 rfl rfl (dpN (by decide) hv2) rfl ?_
    refine wx_getI C ⟨r, hR⟩ 96 (G.1 3 v2) (nI (G.1 3 v2)) d_X_send_17 f_X_122 rfl rfl (dmF (hW.vw hv2)) rfl ?_
    refine ws_aload_n C d_X_send_20 rfl ?_
    refine wx_msI C d_X_send_21 f_X_116 rfl rfl hM.1 hM.2.2.2.2 ?_
    refine ws_icmp_gtN C d_X_send_24 (by first | omega | exact okl hO _ _) (by first | omega | exact okl hO _ _) (fun h24 => ?_) (fun h24 => ?_)
    · exact ws_vret C R d_X_send_36 rfl (by decide) (by decide) ⟨rfl, ⟨r, (snd_old (k := k) (a := a) (b := b) h24).symm ▸ hR⟩⟩
    · refine ws_aload_n C d_X_send_27 rfl ?_
      refine wx_getP C ⟨r, hR⟩ 194 0 (h 1 0) d_X_send_28 f_X_24 rfl rfl (dpX (by decide)) rfl ?_
      refine ws_aload_n C d_X_send_31 rfl ?_
      refine ws_callVi C w_X_332 (As := [_]) (c_AL_add_0 (w := v2) (v := v) (k := k) (e := G.1 3 v) (a := a) (b := b) hR hO hc ⟨hM.1, hM.2.1, hM.2.2.1, hM.2.2.2.1, hM.2.2.2.2, hPL⟩ hU) d_X_send_32 rfl rfl (hR.1.1 1 0 dk1) (Nat.le_of_ble_eq_true rfl) (by decide) (by decide) (by decide) (fun S2 hS2 => ?_)
      refine ws_pop C d_X_send_35 rfl ?_
      exact ws_vret C R d_X_send_36 rfl (by decide) (by decide) ⟨rfl, (snd_yes (k := k) (a := a) (b := b) h1 h24).symm ▸ hS2⟩
set_option maxHeartbeats 4000000 in
set_option maxRecDepth 100000 in
theorem c_X_sendAck {V : Ev} {h : Nat → Nat → Nat} {t : Nat → Nat} {G : GS} {S : Sto} (hR : XE (vZ V) h t G S) (hO : OK G) (hW : WF G) {v : Nat} (hv : v < G.1 0 0) : CT V mi_X_sendAck 2 2209 [.ref (h 6 0), .ref (h 4 v)] S (Pv (XE (vZ V) h t (snd G v (prd G v) 2 (G.1 5 v) 0))) := by
  refine CT.of (cc := prog_1_method_43_code) (own := "ChainVersions") (nL := 3) (d := 8) (by decide) rfl rfl rfl rfl (by simp [Value.category]) (Nat.le_of_ble_eq_true rfl) rfl ?_
  intro F hV hn C R
  subst hV
  obtain ⟨r, hX⟩ := hR
  refine ws_new (kd := 7) (n := 9) C d_X_sendAck_0 (by decide) (by decide) rfl (tb_at 332 (by decide +kernel) (by decide +kernel)) (tb_at 333 (by decide +kernel) (by decide +kernel)) (tb_at 61 (by decide +kernel) (by decide +kernel)) (by decide) (by decide) (fun q hq => ?_)
  have hN := hX.nm hq
  replace hX := hX.nwO (kd := 7) hq (by decide)
  have hK : sK (newO S q 7) q = 7 := by show va_up (sK S) q 7 q = 7; rw [va_up, if_pos rfl]
  generalize newO S q 7 = S at *
  have hR : XE (vZ F.1) h t G S := ⟨r, hX⟩
  refine ws_dup C d_X_sendAck_3 rfl ?_
  refine ws_iconst C (nI 2) d_X_sendAck_4 (by decide) ?_
  refine ws_aload_n C d_X_sendAck_5 rfl ?_
  refine ws_aload_n C d_X_sendAck_6 rfl ?_
  refine ws_callVi C w_X_326 (As := []) (c_Nd_predecessor hR hO hW hv (P := fun S' => S = S') rfl) d_X_sendAck_7 rfl rfl (XE.k hR (dkN hv)) (Nat.le_of_ble_eq_true rfl) (by decide) (by decide) (by decide) (fun S' hS' => ?_)
  subst hS'
  refine ws_callIv C w_X_249 (As := [_, _, _]) (c_Mg_init hX hO hW hv hN hK) d_X_sendAck_10 rfl rfl (Nat.le_of_ble_eq_true rfl) (by decide) (by decide) (by decide) (fun S hNM => ?_)
  obtain ⟨hX, hN, hM⟩ := hNM
  have hR : XE (vZ F.1) h t G S := ⟨r, hX⟩
  refine ws_astore_n C d_X_sendAck_13 (by rw [hn]; decide) ?_
  refine ws_aload_n C d_X_sendAck_14 rfl ?_
  refine ws_aload_n C d_X_sendAck_15 rfl ?_
  refine wx_getI C hR 135 v (nI (G.1 5 v)) d_X_sendAck_16 f_X_191 rfl rfl (dmN (by decide) hv) rfl ?_
  refine ws_putI C d_X_sendAck_19 f_X_271 rfl rfl ⟨rfl, rfl⟩ hM.1 ?_
  replace hX := hX.mI (f := 229) (x := nI (G.1 5 v)) hN rfl
  replace hM := hM.set (f := 229) (y := nI (G.1 5 v)) (by decide)
  have a229 : sI (setI S 229 q (nI (G.1 5 v))) 229 q = nI (G.1 5 v) := sI_at
  generalize setI S 229 q (nI (G.1 5 v)) = S at *
  have hR : XE (vZ F.1) h t G S := ⟨r, hX⟩
  refine ws_aload_n C d_X_sendAck_22 rfl ?_
  refine ws_aload_n C d_X_sendAck_23 rfl ?_
  refine ws_callVv C w_X_256 (As := [_]) (c_X_send (w := prd G v) (a := G.1 5 v) (b := 0) hX hO hW hM ⟨fun z => absurd z (by decide), fun _ => a229, fun z => absurd z (by decide), fun z => absurd z (by decide), fun z => absurd z (by decide)⟩ (fun z => absurd z (by decide)) (fun x hx => prd_le (by have := hW.m6 hv; omega) hx)) d_X_sendAck_24 rfl rfl (hX.1.1 6 0 dk6) (Nat.le_of_ble_eq_true rfl) (by decide) (by decide) (by decide) (fun S hR => ?_)
  exact ws_vret C R d_X_sendAck_27 rfl (by decide) (by decide) ⟨rfl, hR⟩
set_option maxHeartbeats 4000000 in
set_option maxRecDepth 100000 in
theorem c_X_sendCopy {V : Ev} {h : Nat → Nat → Nat} {t : Nat → Nat} {G : GS} {S : Sto} (hR : XE (vZ V) h t G S) (hO : OK G) (hW : WF G) {v : Nat} (hv : v < G.1 0 0) : CT V mi_X_sendCopy 2 2209 [.ref (h 6 0), .ref (h 4 v)] S (Pv (XE (vZ V) h t (snd G v (suc G v) 5 (G.1 4 v) (G.1 5 v)))) := by
  refine CT.of (cc := prog_1_method_42_code) (own := "ChainVersions") (nL := 3) (d := 8) (by decide) rfl rfl rfl rfl (by simp [Value.category]) (Nat.le_of_ble_eq_true rfl) rfl ?_
  intro F hV hn C R
  subst hV
  obtain ⟨r, hX⟩ := hR
  refine ws_new (kd := 7) (n := 9) C d_X_sendCopy_0 (by decide) (by decide) rfl (tb_at 332 (by decide +kernel) (by decide +kernel)) (tb_at 333 (by decide +kernel) (by decide +kernel)) (tb_at 61 (by decide +kernel) (by decide +kernel)) (by decide) (by decide) (fun q hq => ?_)
  have hN := hX.nm hq
  replace hX := hX.nwO (kd := 7) hq (by decide)
  have hK : sK (newO S q 7) q = 7 := by show va_up (sK S) q 7 q = 7; rw [va_up, if_pos rfl]
  generalize newO S q 7 = S at *
  have hR : XE (vZ F.1) h t G S := ⟨r, hX⟩
  refine ws_dup C d_X_sendCopy_3 rfl ?_
  refine ws_iconst C (nI 5) d_X_sendCopy_4 (by decide) ?_
  refine ws_aload_n C d_X_sendCopy_5 rfl ?_
  refine ws_aload_n C d_X_sendCopy_6 rfl ?_
  refine ws_callVi C w_X_298 (As := []) (c_Nd_successor hR hO hW hv (P := fun S' => S = S') rfl) d_X_sendCopy_7 rfl rfl (XE.k hR (dkN hv)) (Nat.le_of_ble_eq_true rfl) (by decide) (by decide) (by decide) (fun S' hS' => ?_)
  subst hS'
  refine ws_callIv C w_X_249 (As := [_, _, _]) (c_Mg_init hX hO hW hv hN hK) d_X_sendCopy_10 rfl rfl (Nat.le_of_ble_eq_true rfl) (by decide) (by decide) (by decide) (fun S hNM => ?_)
  obtain ⟨hX, hN, hM⟩ := hNM
  have hR : XE (vZ F.1) h t G S := ⟨r, hX⟩
  refine ws_astore_n C d_X_sendCopy_13 (by rw [hn]; decide) ?_
  refine ws_aload_n C d_X_sendCopy_14 rfl ?_
  refine ws_aload_n C d_X_sendCopy_15 rfl ?_
  refine wx_getI C hR 134 v (nI (G.1 4 v)) d_X_sendCopy_16 f_X_188 rfl rfl (dmN (by decide) hv) rfl ?_
  refine ws_putI C d_X_sendCopy_19 f_X_271 rfl rfl ⟨rfl, rfl⟩ hM.1 ?_
  replace hX := hX.mI (f := 229) (x := nI (G.1 4 v)) hN rfl
  replace hM := hM.set (f := 229) (y := nI (G.1 4 v)) (by decide)
  have a229 : sI (setI S 229 q (nI (G.1 4 v))) 229 q = nI (G.1 4 v) := sI_at
  generalize setI S 229 q (nI (G.1 4 v)) = S at *
  have hR : XE (vZ F.1) h t G S := ⟨r, hX⟩
  refine ws_aload_n C d_X_sendCopy_22 rfl ?_
  refine ws_aload_n C d_X_sendCopy_23 rfl ?_
  refine wx_getI C hR 135 v (nI (G.1 5 v)) d_X_sendCopy_24 f_X_191 rfl rfl (dmN (by decide) hv) rfl ?_
  refine ws_putI C d_X_sendCopy_27 f_X_322 rfl rfl ⟨rfl, rfl⟩ hM.1 ?_
  replace hX := hX.mI (f := 230) (x := nI (G.1 5 v)) hN rfl
  replace hM := hM.set (f := 230) (y := nI (G.1 5 v)) (by decide)
  have a230 : sI (setI S 230 q (nI (G.1 5 v))) 230 q = nI (G.1 5 v) := sI_at
  have a229 : sI (setI S 230 q (nI (G.1 5 v))) 229 q = nI (G.1 4 v) := (sI_nt (by decide)).trans a229
  generalize setI S 230 q (nI (G.1 5 v)) = S at *
  have hR : XE (vZ F.1) h t G S := ⟨r, hX⟩
  refine ws_aload_n C d_X_sendCopy_30 rfl ?_
  refine ws_aload_n C d_X_sendCopy_31 rfl ?_
  refine ws_callVv C w_X_256 (As := [_]) (c_X_send (w := suc G v) (a := G.1 4 v) (b := G.1 5 v) hX hO hW hM ⟨fun z => absurd z (by decide), fun _ => a229, fun _ => a230, fun z => absurd z (by decide), fun z => absurd z (by decide)⟩ (fun z => absurd z (by decide)) (fun x hx => suc_le hx)) d_X_sendCopy_32 rfl rfl (hX.1.1 6 0 dk6) (Nat.le_of_ble_eq_true rfl) (by decide) (by decide) (by decide) (fun S hR => ?_)
  exact ws_vret C R d_X_sendCopy_35 rfl (by decide) (by decide) ⟨rfl, hR⟩
set_option maxHeartbeats 4000000 in
set_option maxRecDepth 100000 in
theorem c_X_take {V : Ev} {h : Nat → Nat → Nat} {t : Nat → Nat} {G : GS} {S : Sto} (hR : XE (vZ V) h t G S) (hO : OK G) (hW : WF G) {v : Nat} (hv : v < G.1 0 0) {q0 k c rq : Nat} {x : Int32} (hU : UPf S q0 k x c rq) (hl : G.1 4 v + 1 ≤ 100) (hk : k ≤ 3) (hc : c ≤ 2) (hr : rq ≤ 600) : CT V mi_X_take 2 2209 [.ref (h 6 0), .ref (h 4 v), .ref q0] S (Pv (XE (vZ V) h t (tak G v k x c rq))) := by
  refine CT.of (cc := prog_1_method_34_code) (own := "ChainVersions") (nL := 4) (d := 9) (by decide) rfl rfl rfl rfl (by simp [Value.category]) (Nat.le_of_ble_eq_true rfl) rfl ?_
  intro F hV hn C R
  subst hV
  refine ws_aload_n C d_X_take_0 rfl ?_
  refine ws_aload_n C d_X_take_1 rfl ?_
  obtain ⟨r, hX⟩ := hR
  refine ws_callVi C w_X_285 (As := [_]) (c_Nd_hold hX hO hv hU hl) d_X_take_2 rfl rfl (hX.1.1 4 v (dkN hv)) (Nat.le_of_ble_eq_true rfl) (by decide) (by decide) (by decide) (fun S hS => ?_)
  obtain ⟨r, hX, hru⟩ := hS
  have hO2 := ok_hol (x := x) (k := k) (c := c) (r := rq) hO hl hk hc hr
  have hW2 := hW.w_hol v k x c rq
  have hv2 : v < (hol G v k x c rq).1 0 0 := by rw [hol_ne _ _ _ _ _ _ (by decide) (by decide) (by decide) (by decide)]; exact hv
  have h4 := hol_4 G v k x c rq
  have R : RT F mi_X_take 2 2209 (Pv (XE (vZ F.1) h t (tol (hol G v k x c rq) v))) := R
  rw [← h4] at hru
  clear hO hW hU hl
  generalize hol G v k x c rq = G2 at *
  have hR : XE (vZ F.1) h t G2 S := ⟨r, hX⟩
  refine ws_if_neN C d_X_take_5 (by decide) (fun _ => ?_) (fun z => absurd z (by decide))
  refine ws_aload_n C d_X_take_9 rfl ?_
  refine ws_callVi C w_X_289 (As := []) (c_Nd_isTail hR hO2 hW2 hv2 (P := fun S' => S = S') rfl) d_X_take_10 rfl rfl (XE.k hR (dkN hv2)) (Nat.le_of_ble_eq_true rfl) (by decide) (by decide) (by decide) (fun S' hS' => ?_)
  subst hS'
  refine ws_if_eqB C d_X_take_13 (fun h13 => ?_) (fun h13 => ?_)
  · have h13 := of_decide_eq_false h13
    refine ws_new (kd := 7) (n := 9) C d_X_take_27 (by decide) (by decide) rfl (tb_at 332 (by decide +kernel) (by decide +kernel)) (tb_at 333 (by decide +kernel) (by decide +kernel)) (tb_at 61 (by decide +kernel) (by decide +kernel)) (by decide) (by decide) (fun q hq => ?_)
    have hN := hX.nm hq
    replace hX := hX.nwO (kd := 7) hq (by decide)
    have hK : sK (newO S q 7) q = 7 := by show va_up (sK S) q 7 q = 7; rw [va_up, if_pos rfl]
    generalize newO S q 7 = S at *
    have hR : XE (vZ F.1) h t G2 S := ⟨r, hX⟩
    refine ws_dup C d_X_take_30 rfl ?_
    refine ws_iconst C (nI 1) d_X_take_31 (by decide) ?_
    refine ws_aload_n C d_X_take_32 rfl ?_
    refine ws_aload_n C d_X_take_33 rfl ?_
    refine ws_callVi C w_X_298 (As := []) (c_Nd_successor hR hO2 hW2 hv2 (P := fun S' => S = S') rfl) d_X_take_34 rfl rfl (XE.k hR (dkN hv2)) (Nat.le_of_ble_eq_true rfl) (by decide) (by decide) (by decide) (fun S' hS' => ?_)
    subst hS'
    refine ws_callIv C w_X_249 (As := [_, _, _]) (c_Mg_init hX hO2 hW2 hv2 hN hK) d_X_take_37 rfl rfl (Nat.le_of_ble_eq_true rfl) (by decide) (by decide) (by decide) (fun S hNM => ?_)
    obtain ⟨hX, hN, hM⟩ := hNM
    have hR : XE (vZ F.1) h t G2 S := ⟨r, hX⟩
    refine ws_astore_n C d_X_take_40 (by rw [hn]; decide) ?_
    refine ws_aload_n C d_X_take_41 rfl ?_
    refine ws_aload_n C d_X_take_42 rfl ?_
    refine ws_putR C (some q0) rfl d_X_take_43 f_X_267 rfl rfl (by rw [show tyk (228 / 32) (228 % 32) = .object "ChainVersions$Update" from tyk_mu]; exact ⟨rfl, rfl⟩) hM.1 ?_
    replace hX := hX.mP (x := some q0) hN
    have hM : MgO (setP S 228 q (some q0)) q 1 v (oI (suc G2 v)) (G2.1 3 v) := hM
    have hPL : PLd (setP S 228 q (some q0)) q r.2.2 1 v (G2.1 4 v) 0 := ⟨fun _ => by rw [hru]; show up2 (sP S) 228 q (some q0) 228 q = _; rw [up2, if_pos ⟨rfl, rfl⟩], fun z => absurd z (by decide), fun z => absurd z (by decide), fun z => absurd z (by decide), fun z => absurd z (by decide)⟩
    generalize setP S 228 q (some q0) = S at *
    refine ws_aload_n C d_X_take_46 rfl ?_
    refine ws_aload_n C d_X_take_47 rfl ?_
    refine ws_callVv C w_X_256 (As := [_]) (c_X_send (w := suc G2 v) (a := G2.1 4 v) (b := 0) hX hO2 hW2 hM hPL (fun _ => Nat.le_refl _) (fun x hx => suc_le hx)) d_X_take_48 rfl rfl (hX.1.1 6 0 dk6) (Nat.le_of_ble_eq_true rfl) (by decide) (by decide) (by decide) (fun S hR => ?_)
    exact ws_vret C R d_X_take_51 rfl (by decide) (by decide) ⟨rfl, by rw [tol, if_neg h13]; exact hR⟩
  · have h13 := of_decide_eq_true h13
    have hO3 : OK (stl G2 v) := ok_stl hO2
    have hW3 := hW2.w_stl v
    have hv3 : v < (stl G2 v).1 0 0 := by rw [stl_ne _ _ (by decide) (by decide) (by decide)]; exact hv2
    refine ws_aload_n C d_X_take_16 rfl ?_
    refine ws_aload_n C d_X_take_17 rfl ?_
    refine ws_callVv C w_X_292 (As := [_]) (c_X_settleAll hR hO2 hW2 hv2) d_X_take_18 rfl rfl (XE.k hR (dk6)) (Nat.le_of_ble_eq_true rfl) (by decide) (by decide) (by decide) (fun S hR => ?_)
    refine ws_aload_n C d_X_take_21 rfl ?_
    refine ws_aload_n C d_X_take_22 rfl ?_
    refine ws_callVv C w_X_295 (As := [_]) (c_X_sendAck hR hO3 hW3 hv3) d_X_take_23 rfl rfl (XE.k hR (dk6)) (Nat.le_of_ble_eq_true rfl) (by decide) (by decide) (by decide) (fun S hR => ?_)
    exact ws_vret C R d_X_take_26 rfl (by decide) (by decide) ⟨rfl, by rw [tol, if_pos h13, ← stl_5 G2 v, ← prd_c (stl_ne G2 v (by decide) (by decide) (by decide)) (stl_ne G2 v (by decide) (by decide) (by decide)) v]; exact hR⟩
set_option maxHeartbeats 4000000 in
set_option maxRecDepth 100000 in
theorem c_X_tellNeighbours {V : Ev} {h : Nat → Nat → Nat} {t : Nat → Nat} {G : GS} {S : Sto} (hR : XE (vZ V) h t G S) (hO : OK G) (hW : WF G) {v : Nat} (hv : v < G.1 0 0) (hc : G.1 20 0 + 1 ≤ 1399) : CT V mi_X_tellNeighbours 4 4418 [.ref (h 6 0), .ref (h 4 v)] S (Pv (XE (vZ V) h t (tel G v))) := by
  refine CT.of (cc := prog_1_method_41_code) (own := "ChainVersions") (nL := 2) (d := 9) (by decide) rfl rfl rfl rfl (by simp [Value.category]) (Nat.le_of_ble_eq_true rfl) rfl ?_
  intro F hV hn C R
  subst hV
  have hv5 : v ≤ 5 := by have := hW.m6 hv; omega
  refine ws_aload_n C d_X_tellNeighbours_0 rfl ?_
  refine ws_callVi C w_X_289 (As := []) (c_Nd_isTail hR hO hW hv (P := fun S' => S = S') rfl) d_X_tellNeighbours_1 rfl rfl (XE.k hR (dkN hv)) (Nat.le_of_ble_eq_true rfl) (by decide) (by decide) (by decide) (fun S' hS' => ?_)
  subst hS'
  refine ws_if_eqB C d_X_tellNeighbours_4 (fun h4 => ?_) (fun h4 => ?_)
  · have hO2 : OK (snd G v (suc G v) 5 (G.1 4 v) (G.1 5 v)) := ok_snd hO hv5 (fun x hx => suc_le hx) (by decide) (hO 4 v) (hO 5 v) hc
    have hW2 : WF (snd G v (suc G v) 5 (G.1 4 v) (G.1 5 v)) := hW.w_snd _ _ _ _ _
    have hv2 : v < (snd G v (suc G v) 5 (G.1 4 v) (G.1 5 v)).1 0 0 := by rw [snd_ne _ _ _ _ _ _ (by decide)]; exact hv
    refine ws_aload_n C d_X_tellNeighbours_15 rfl ?_
    refine ws_aload_n C d_X_tellNeighbours_16 rfl ?_
    refine ws_callVv C w_X_323 (As := [_]) (c_X_sendCopy hR hO hW hv) d_X_tellNeighbours_17 rfl rfl (XE.k hR (dk6)) (Nat.le_of_ble_eq_true rfl) (by decide) (by decide) (by decide) (fun S hR => ?_)
    refine ws_aload_n C d_X_tellNeighbours_20 rfl ?_
    refine ws_aload_n C d_X_tellNeighbours_21 rfl ?_
    refine ws_callVv C w_X_295 (As := [_]) (c_X_sendAck hR hO2 hW2 hv2) d_X_tellNeighbours_22 rfl rfl (XE.k hR (dk6)) (Nat.le_of_ble_eq_true rfl) (by decide) (by decide) (by decide) (fun S hR => ?_)
    exact ws_vret C R d_X_tellNeighbours_25 rfl (by decide) (by decide) ⟨rfl, by rw [tel, if_neg (of_decide_eq_false h4)]; rw [prd_c (G := G) (G' := snd G v (suc G v) 5 (G.1 4 v) (G.1 5 v)) (snd_ne _ _ _ _ _ _ (by decide)) (snd_ne _ _ _ _ _ _ (by decide)) v, show (snd G v (suc G v) 5 (G.1 4 v) (G.1 5 v)).1 5 v = G.1 5 v from by rw [snd_ne _ _ _ _ _ _ (by decide)]] at hR; exact hR⟩
  · have hO2 : OK (stl G v) := ok_stl hO
    have hW2 : WF (stl G v) := hW.w_stl v
    have hv2 : v < (stl G v).1 0 0 := by rw [stl_ne G v (by decide) (by decide) (by decide)]; exact hv
    refine ws_aload_n C d_X_tellNeighbours_7 rfl ?_
    refine ws_aload_n C d_X_tellNeighbours_8 rfl ?_
    refine ws_callVv C w_X_292 (As := [_]) (c_X_settleAll hR hO hW hv) d_X_tellNeighbours_9 rfl rfl (XE.k hR (dk6)) (Nat.le_of_ble_eq_true rfl) (by decide) (by decide) (by decide) (fun S hR => ?_)
    refine ws_goto C d_X_tellNeighbours_12 ?_
    refine ws_aload_n C d_X_tellNeighbours_20 rfl ?_
    refine ws_aload_n C d_X_tellNeighbours_21 rfl ?_
    refine ws_callVv C w_X_295 (As := [_]) (c_X_sendAck hR hO2 hW2 hv2) d_X_tellNeighbours_22 rfl rfl (XE.k hR (dk6)) (Nat.le_of_ble_eq_true rfl) (by decide) (by decide) (by decide) (fun S hR => ?_)
    exact ws_vret C R d_X_tellNeighbours_25 rfl (by decide) (by decide) ⟨rfl, by rw [tel, if_pos (of_decide_eq_true h4), ← prd_c (G := G) (G' := stl G v) (stl_ne G v (by decide) (by decide) (by decide)) (stl_ne G v (by decide) (by decide) (by decide)) v, ← stl_5 G v]; exact hR⟩
