/-! the class: sends, settlings, takes -/
def fnW (G : GS) (x : Int32) (c r n : Nat) : GS := if G.1 13 c = 1 ∧ r = G.1 14 c then gV (gN (gN G 13 c 2) 18 c n) 19 c x else G
theorem clA_n {h : Nat → Nat → Nat} {c : Nat} (hc : c < 3) : clA h (nI c) = some (h 2 c) := by rw [clA, inN_n (show c ≤ 2 by omega), ix_n (by omega)]; rfl
set_option maxHeartbeats 4000000 in
set_option maxRecDepth 100000 in
theorem c_X_finishWrite {V : Ev} {h : Nat → Nat → Nat} {t : Nat → Nat} {G : GS} {S : Sto} (hR : XE (vZ V) h t G S) (hO : OK G) {q k c rq n : Nat} {x : Int32} (hU : UPf S q k x c rq) (hc : c < 3) (hr6 : rq ≤ 600) : CT V mi_X_finishWrite 0 0 [.ref (h 6 0), .ref q, .int (nI n)] S (Pv (XE (vZ V) h t (fnW G x c rq n))) := by
  refine CT.of (cc := prog_1_method_36_code) (own := "ChainVersions") (nL := 4) (d := 1) (by decide) rfl rfl rfl rfl (by simp [Value.category]) (Nat.le_of_ble_eq_true rfl) rfl ?_
  intro F hV hn C R
  subst hV
  refine ws_aload_n C d_X_finishWrite_0 rfl ?_
  refine ws_ifnonnull C d_X_finishWrite_1 ?_
  refine ws_aload_n C d_X_finishWrite_8 rfl ?_
  refine ws_aload_n C d_X_finishWrite_9 rfl ?_
  refine wx_up2 C hU d_X_finishWrite_10 f_X_309 ?_
  refine ws_callVr C w_X_54 (As := [_]) (c_X_clientOf hR hO (nI c) (P := fun S' => S = S') rfl) d_X_finishWrite_13 rfl rfl (XE.k hR (dk6)) (Nat.le_of_ble_eq_true rfl) (by decide) (by decide) (by decide) (fun S' hS' => ?_)
  subst hS'
  rw [clA_n hc]
  refine ws_astore_n C d_X_finishWrite_16 (by rw [hn]; decide) ?_
  refine ws_aload_n C d_X_finishWrite_17 rfl ?_
  refine ws_ifnull C d_X_finishWrite_18 ?_
  refine ws_aload_n C d_X_finishWrite_21 rfl ?_
  refine wx_getI C hR 64 c (nI (G.1 13 c)) d_X_finishWrite_22 f_X_89 rfl rfl (dmC (by decide) hc) rfl ?_
  refine ws_iconst C (nI 1) d_X_finishWrite_25 (by decide) ?_
  refine ws_icmp_neN C d_X_finishWrite_26 (by first | omega | exact okl hO _ _) (by first | omega | exact okl hO _ _) (fun h26 => ?_) (fun h26 => ?_)
  · exact ws_vret C R d_X_finishWrite_50 rfl (by decide) (by decide) ⟨rfl, by rw [fnW, if_neg (fun z => h26 z.1)]; exact hR⟩
  · refine ws_aload_n C d_X_finishWrite_29 rfl ?_
    refine wx_getI C hR 65 c (nI (G.1 14 c)) d_X_finishWrite_30 f_X_209 rfl rfl (dmC (by decide) hc) rfl ?_
    refine ws_aload_n C d_X_finishWrite_33 rfl ?_
    refine wx_up3 C hU d_X_finishWrite_34 f_X_310 ?_
    refine ws_icmp_neN C d_X_finishWrite_37 (by first | omega | exact okl hO _ _) (by first | omega | exact okl hO _ _) (fun h37 => ?_) (fun h37 => ?_)
    · exact ws_vret C R d_X_finishWrite_50 rfl (by decide) (by decide) ⟨rfl, by rw [fnW, if_neg (fun z => h37 z.2.symm)]; exact hR⟩
    · refine ws_aload_n C d_X_finishWrite_40 rfl ?_
      refine ws_iconst C (nI 2) d_X_finishWrite_41 (by decide) ?_
      refine ws_iload_n C d_X_finishWrite_42 rfl ?_
      refine ws_aload_n C d_X_finishWrite_43 rfl ?_
      refine wx_up1 C hU d_X_finishWrite_44 f_X_313 ?_
      refine ws_callVv C w_X_263 (As := [_, _, _]) (c_Cl_finish hR hO hc) d_X_finishWrite_47 rfl rfl (XE.k hR (dkC hc)) (Nat.le_of_ble_eq_true rfl) (by decide) (by decide) (by decide) (fun S hR => ?_)
      exact ws_vret C R d_X_finishWrite_50 rfl (by decide) (by decide) ⟨rfl, by rw [fnW, if_pos ⟨h26, h37.symm⟩]; exact hR⟩
set_option maxHeartbeats 4000000 in
set_option maxRecDepth 100000 in
theorem c_X_settleAll {V : Ev} {h : Nat → Nat → Nat} {t : Nat → Nat} {G : GS} {S : Sto} (hR : XE (vZ V) h t G S) (hO : OK G) (hW : WF G) {v : Nat} (hv : v < G.1 0 0) : CT V mi_X_settleAll 0 0 [.ref (h 6 0), .ref (h 4 v)] S (Pv (XE (vZ V) h t (stl G v))) := by
  refine CT.of (cc := prog_1_method_35_code) (own := "ChainVersions") (nL := 3) (d := 2) (by decide) rfl rfl rfl rfl (by simp [Value.category]) (Nat.le_of_ble_eq_true rfl) rfl ?_
  intro F hV hn C R
  subst hV
  have hb4 : G.1 4 v ≤ 100 := hO 4 v
  have h45 := hW.2.2.2.2.2 v
  refine ws_aload_n C d_X_settleAll_0 rfl ?_
  refine wx_getI C hR 135 v (nI (G.1 5 v)) d_X_settleAll_1 f_X_191 rfl rfl (dmN (by decide) hv) rfl ?_
  refine ws_iconst C (nI 1) d_X_settleAll_4 (by decide) ?_
  refine ws_iaddN C d_X_settleAll_5 ?_
  refine ws_istore_n C d_X_settleAll_6 (by rw [hn]; decide) ?_
  suffices hL : ∀ m n (G1 : GS), n + m = G.1 4 v + 1 → 1 ≤ n → OK G1 → G1.1 0 = G.1 0 → G1.1 4 = G.1 4 → G1.1 11 = G.1 11 → gN (stlF v m n G1) 5 v (G.1 4 v) = stl G v → ∀ S : Sto, XE (vZ F.1) h t G1 S → WS F 7 [some (.ref (h 6 0)), some (.ref (h 4 v)), some (.int (nI n))] [] S 0 0 from hL (G.1 4 v - G.1 5 v) _ G (by omega) (by omega) hO rfl rfl rfl rfl S hR
  clear hR
  intro m
  induction m with
  | zero =>
    intro n G1 hn1 h1 hO1 g0 g4 g11 hp S hR
    refine ws_iload_n C d_X_settleAll_7 rfl ?_
    refine ws_aload_n C d_X_settleAll_8 rfl ?_
    refine wx_getI C hR 134 v (nI (G1.1 4 v)) d_X_settleAll_9 f_X_188 rfl rfl (dmN (by decide) (by rw [g0]; exact hv)) rfl ?_
    refine ws_top (nI (G.1 4 v)) (by rw [g4]) ?_
    refine ws_icmp_gtN C d_X_settleAll_12 (by first | omega | exact okl hO1 _ _) (by first | omega | exact okl hO1 _ _) (fun h12 => ?_) (fun h12 => ?_)
    · refine ws_aload_n C d_X_settleAll_31 rfl ?_
      refine ws_aload_n C d_X_settleAll_32 rfl ?_
      refine wx_getI C hR 134 v (nI (G1.1 4 v)) d_X_settleAll_33 f_X_188 rfl rfl (dmN (by decide) (by rw [g0]; exact hv)) rfl ?_
      refine ws_top (nI (G.1 4 v)) (by rw [g4]) ?_
      refine wx_putN C hR 135 v 5 d_X_settleAll_36 f_X_191 rfl rfl rfl rfl rfl ⟨rfl, rfl⟩ (dmN (by decide) (by rw [g0]; exact hv)) (fun S hR => ?_)
      exact ws_vret C R d_X_settleAll_39 rfl (by decide) (by decide) ⟨rfl, by rw [← hp]; exact hR⟩
    · omega
  | succ m ih =>
    intro n G1 hn1 h1 hO1 g0 g4 g11 hp S hR
    have hv1 : v < G1.1 0 0 := by rw [g0]; exact hv
    have hn4 : n ≤ G1.1 4 v := by rw [g4]; omega
    have hb11 : G1.1 11 (128 * v + n) ≤ 2 := hO1 11 _
    refine ws_iload_n C d_X_settleAll_7 rfl ?_
    refine ws_aload_n C d_X_settleAll_8 rfl ?_
    refine wx_getI C hR 134 v (nI (G1.1 4 v)) d_X_settleAll_9 f_X_188 rfl rfl (dmN (by decide) hv1) rfl ?_
    refine ws_top (nI (G.1 4 v)) (by rw [g4]) ?_
    refine ws_icmp_gtN C d_X_settleAll_12 (by first | omega | exact okl hO1 _ _) (by first | omega | exact okl hO1 _ _) (fun h12 => ?_) (fun h12 => ?_)
    · omega
    · refine ws_aload_n C d_X_settleAll_15 rfl ?_
      refine ws_aload_n C d_X_settleAll_16 rfl ?_
      refine ws_iload_n C d_X_settleAll_17 rfl ?_
      obtain ⟨r, hX⟩ := hR
      have hU := (hX.2.2.2.2.1 v n hv1 (by omega) hn4).2
      refine ws_callVr C w_X_301 (As := [_]) (c_Nd_updateAt hX hO1 hv1 (show n < 2 ^ 31 by omega) (P := fun S' => S = S') rfl) d_X_settleAll_18 rfl rfl (hX.1.1 4 v (dkN hv1)) (Nat.le_of_ble_eq_true rfl) (by decide) (by decide) (by decide) (fun S' hS' => ?_)
      subst hS'
      rw [upA_s ⟨h1, hn4⟩]
      have hR : XE (vZ F.1) h t G1 S := ⟨r, hX⟩
      refine ws_iload_n C d_X_settleAll_21 rfl ?_
      refine ws_callVv C w_X_305 (As := [_, _]) (c_X_finishWrite hR hO1 hU (by omega) (hO1 12 _)) d_X_settleAll_22 rfl rfl (XE.k hR (dk6)) (Nat.le_of_ble_eq_true rfl) (by decide) (by decide) (by decide) (fun S hR => ?_)
      refine ws_iinc C _ d_X_settleAll_25 rfl (inc1 _) (by rw [hn]; decide) ?_
      refine ws_goto C d_X_settleAll_28 ?_
      exact ih (n + 1) (fin1 G1 v n) (by omega) (by omega) (ok_fin1 hO1 (by have : G.1 4 v ≤ 100 := hO 4 v; omega)) (by rw [fin1_ne _ _ _ (by decide) (by decide)]; exact g0) (by rw [fin1_ne _ _ _ (by decide) (by decide)]; exact g4) (by rw [fin1_ne _ _ _ (by decide) (by decide)]; exact g11) hp S hR
def MgO (S : Sto) (q k v : Nat) (x : Int32) (e : Nat) : Prop := sK S q = 7 ∧ sI S 224 q = nI k ∧ sI S 225 q = nI v ∧ sI S 226 q = x ∧ sI S 227 q = nI e
theorem MgO.set {S : Sto} {q k v : Nat} {x : Int32} {e f : Nat} {y : Int32} (h : MgO S q k v x e) (hf : 229 ≤ f) : MgO (setI S f q y) q k v x e := by
  obtain ⟨m0, m1, m2, m3, m4⟩ := h
  have i : ∀ f0, f0 ≠ f → sI (setI S f q y) f0 q = sI S f0 q := fun f0 hf0 => by show up2 (sI S) f q y f0 q = _; rw [up2, if_neg (fun z => hf0 z.1)]
  exact ⟨m0, by rw [i _ (by omega)]; exact m1, by rw [i _ (by omega)]; exact m2, by rw [i _ (by omega)]; exact m3, by rw [i _ (by omega)]; exact m4⟩
theorem sI_at {S : Sto} {f q : Nat} {y : Int32} : sI (setI S f q y) f q = y := by show up2 (sI S) f q y f q = y; rw [up2, if_pos ⟨rfl, rfl⟩]
theorem sI_nt {S : Sto} {f q f0 a : Nat} {y : Int32} (h : f0 ≠ f) : sI (setI S f q y) f0 a = sI S f0 a := by show up2 (sI S) f q y f0 a = _; rw [up2, if_neg (fun z => h z.1)]
/-- a message object that was just made -/
def NMs (z : Nat) (h : Nat → Nat → Nat) (t : Nat → Nat) (r : Rg) (G : GS) (S : Sto) (q k v : Nat) (x : Int32) : Prop := XR z h t r G S ∧ NM h t r G q ∧ MgO S q k v x (G.1 3 v)
set_option maxHeartbeats 4000000 in
set_option maxRecDepth 100000 in
theorem c_Mg_init {V : Ev} {h : Nat → Nat → Nat} {t : Nat → Nat} {G : GS} {S : Sto} {r : Rg} (hR : XR (vZ V) h t r G S) (hO : OK G) (hW : WF G) {v : Nat} (hv : v < G.1 0 0) {q k : Nat} {x : Int32} (hN : NM h t r G q) (hK : sK S q = 7) : CT V mi_Mg_init 0 0 [.ref q, .int (nI k), .ref (h 4 v), .int x] S (Pv (fun S' => NMs (vZ V) h t r G S' q k v x)) := by
  refine CT.of (cc := prog_4_method_1_code) (own := "ChainVersions$Message") (nL := 4) (d := 1) (by decide) rfl rfl rfl rfl (by simp [Value.category]) (Nat.le_of_ble_eq_true rfl) rfl ?_
  intro F hV hn C R
  subst hV
  have hin : (xt F).name = "<init>" := R.2.2.2
  refine ws_aload_n C d_Mg_init_0 rfl ?_
  refine ws_objInit C (tb_at 345 (by decide +kernel) (by decide +kernel)) obj_1 obj_2 d_Mg_init_1 (Nat.le_of_ble_eq_true rfl) (by decide) ?_
  refine ws_aload_n C d_Mg_init_4 rfl ?_
  refine ws_iload_n C d_Mg_init_5 rfl ?_
  refine ws_putFI C hin d_Mg_init_6 f_Mg_7 rfl rfl rfl ⟨rfl, rfl⟩ hK ?_
  replace hR := hR.mI (f := 224) (x := nI k) hN rfl
  have hK : sK (setI S 224 q (nI k)) q = 7 := hK
  have a224 : sI (setI S 224 q (nI k)) 224 q = nI k := sI_at
  generalize setI S 224 q (nI k) = S at *
  refine ws_aload_n C d_Mg_init_9 rfl ?_
  refine ws_aload_n C d_Mg_init_10 rfl ?_
  refine wx_getI C ⟨r, hR⟩ 128 v (nI v) d_Mg_init_11 f_Mg_13 rfl rfl (dmN (by decide) hv) rfl ?_
  refine ws_putFI C hin d_Mg_init_14 f_Mg_18 rfl rfl rfl ⟨rfl, rfl⟩ hK ?_
  replace hR := hR.mI (f := 225) (x := nI v) hN rfl
  have hK : sK (setI S 225 q (nI v)) q = 7 := hK
  have a225 : sI (setI S 225 q (nI v)) 225 q = nI v := sI_at
  have a224 : sI (setI S 225 q (nI v)) 224 q = nI k := (sI_nt (by decide)).trans a224
  generalize setI S 225 q (nI v) = S at *
  refine ws_aload_n C d_Mg_init_17 rfl ?_
  refine ws_iload_n C d_Mg_init_18 rfl ?_
  refine ws_putFI C hin d_Mg_init_19 f_Mg_21 rfl rfl rfl ⟨rfl, rfl⟩ hK ?_
  replace hR := hR.mI (f := 226) (x := x) hN rfl
  have hK : sK (setI S 226 q (x)) q = 7 := hK
  have a226 : sI (setI S 226 q (x)) 226 q = x := sI_at
  have a224 : sI (setI S 226 q (x)) 224 q = nI k := (sI_nt (by decide)).trans a224
  have a225 : sI (setI S 226 q (x)) 225 q = nI v := (sI_nt (by decide)).trans a225
  generalize setI S 226 q (x) = S at *
  refine ws_aload_n C d_Mg_init_22 rfl ?_
  refine ws_aload_n C d_Mg_init_23 rfl ?_
  refine wx_getP C ⟨r, hR⟩ 130 v (h 3 (G.1 3 v)) d_Mg_init_24 f_Mg_24 rfl rfl (dpN (by decide) hv) rfl ?_
  refine wx_getI C ⟨r, hR⟩ 96 (G.1 3 v) (nI (G.1 3 v)) d_Mg_init_27 f_Mg_28 rfl rfl (dmF (hW.vw hv)) rfl ?_
  refine ws_putFI C hin d_Mg_init_30 f_Mg_33 rfl rfl rfl ⟨rfl, rfl⟩ hK ?_
  replace hR := hR.mI (f := 227) (x := nI (G.1 3 v)) hN rfl
  have hK : sK (setI S 227 q (nI (G.1 3 v))) q = 7 := hK
  have a227 : sI (setI S 227 q (nI (G.1 3 v))) 227 q = nI (G.1 3 v) := sI_at
  have a224 : sI (setI S 227 q (nI (G.1 3 v))) 224 q = nI k := (sI_nt (by decide)).trans a224
  have a225 : sI (setI S 227 q (nI (G.1 3 v))) 225 q = nI v := (sI_nt (by decide)).trans a225
  have a226 : sI (setI S 227 q (nI (G.1 3 v))) 226 q = x := (sI_nt (by decide)).trans a226
  generalize setI S 227 q (nI (G.1 3 v)) = S at *
  exact ws_vret C R d_Mg_init_33 rfl (by decide) (by decide) ⟨rfl, ⟨hR, hN, hK, a224, a225, a226, a227⟩⟩
set_option maxHeartbeats 4000000 in
set_option maxRecDepth 100000 in
theorem c_Nd_hold {V : Ev} {h : Nat → Nat → Nat} {t : Nat → Nat} {G : GS} {S : Sto} {r : Rg} (hR : XR (vZ V) h t r G S) (hO : OK G) {v : Nat} (hv : v < G.1 0 0) {q k c rq : Nat} {x : Int32} (hU : UPf S q k x c rq) (hl : G.1 4 v + 1 ≤ 100) : CT V mi_Nd_hold 0 0 [.ref (h 4 v), .ref q] S (Pi (nI 1) (fun S' => ∃ r', XR (vZ V) h t r' (hol G v k x c rq) S' ∧ r'.2.2 v (G.1 4 v + 1) = q)) := by
  refine CT.of (cc := prog_5_method_7_code) (own := "ChainVersions$Node") (nL := 2) (d := 0) (by decide) rfl rfl rfl rfl (by simp [Value.category]) (Nat.le_of_ble_eq_true rfl) rfl ?_
  intro F hV hn C R
  subst hV
  refine ws_aload_n C d_Nd_hold_0 rfl ?_
  refine ws_ifnull C d_Nd_hold_1 ?_
  refine ws_aload_n C d_Nd_hold_4 rfl ?_
  refine wx_getI C ⟨r, hR⟩ 134 v (nI (G.1 4 v)) d_Nd_hold_5 f_Nd_45 rfl rfl (dmN (by decide) hv) rfl ?_
  refine ws_bipush C (nI 100) d_Nd_hold_8 (by decide) ?_
  refine ws_icmp_ltN C d_Nd_hold_10 (by first | omega | exact okl hO _ _) (by first | omega | exact okl hO _ _) (fun h10 => ?_) (fun h10 => ?_)
  · refine ws_aload_n C d_Nd_hold_15 rfl ?_
    refine wx_getP C ⟨r, hR⟩ 129 v (h 13 v) d_Nd_hold_16 f_Nd_11 rfl rfl (dpN (by decide) hv) rfl ?_
    refine ws_aload_n C d_Nd_hold_19 rfl ?_
    refine wx_getI C ⟨r, hR⟩ 134 v (nI (G.1 4 v)) d_Nd_hold_20 f_Nd_45 rfl rfl (dmN (by decide) hv) rfl ?_
    refine ws_aload_n C d_Nd_hold_23 rfl ?_
    refine ws_aast (kd := 13) (ko := 5) C d_Nd_hold_24 (by decide) (hR.1.1 13 v (dkG hv)) hU.1 (by rw [hR.2.2.2.1.1.2.2 v hv]; omega) (by rw [hR.2.2.2.1.1.2.2 v hv]; decide) ?_
    refine ws_aload_n C d_Nd_hold_25 rfl ?_
    refine ws_dup C d_Nd_hold_26 rfl ?_
    refine ws_getI C d_Nd_hold_27 f_Nd_45 rfl (show sK S (h 4 v) = 4 from hR.1.1 4 v (dkN hv)) ?_
    rw [show sI (setQ S 13 (h 13 v) (G.1 4 v) (some q)) 134 (h 4 v) = nI (G.1 4 v) from hR.2.1 134 v (dmN (by decide) hv)]
    refine ws_iconst C (nI 1) d_Nd_hold_30 (by decide) ?_
    refine ws_iaddN C d_Nd_hold_31 ?_
    refine ws_putI C d_Nd_hold_32 f_Nd_45 rfl rfl ⟨rfl, rfl⟩ (show sK S (h 4 v) = 4 from hR.1.1 4 v (dkN hv)) ?_
    refine ws_iconst C (nI 1) d_Nd_hold_35 (by decide) ?_
    exact ws_zret C R d_Nd_hold_36 rfl (by decide) (by decide) (by decide) ⟨rfl, _, hR.hld hO hv hl hU, by show up2 r.2.2 v (G.1 4 v + 1) q v (G.1 4 v + 1) = q; rw [up2, if_pos ⟨rfl, rfl⟩]⟩
  · omega
def NUs (z : Nat) (h : Nat → Nat → Nat) (t : Nat → Nat) (r : Rg) (G : GS) (S : Sto) (q : Nat) : Prop := XR z h t r G S ∧ (∀ v i, v < G.1 0 0 → 1 ≤ i → i ≤ G.1 4 v → r.2.2 v i ≠ q)
set_option maxHeartbeats 4000000 in
set_option maxRecDepth 100000 in
theorem c_Up_init {V : Ev} {h : Nat → Nat → Nat} {t : Nat → Nat} {G : GS} {S : Sto} {r : Rg} (hR : XR (vZ V) h t r G S) (hO : OK G) {q k c rq : Nat} {x : Int32} (hN : ∀ v i, v < G.1 0 0 → 1 ≤ i → i ≤ G.1 4 v → r.2.2 v i ≠ q) (hK : sK S q = 5) : CT V mi_Up_init 0 0 [.ref q, .int (nI k), .int x, .int (nI c), .int (nI rq)] S (Pv (fun S' => XR (vZ V) h t r G S' ∧ UPf S' q k x c rq)) := by
  refine CT.of (cc := prog_6_method_1_code) (own := "ChainVersions$Update") (nL := 5) (d := 1) (by decide) rfl rfl rfl rfl (by simp [Value.category]) (Nat.le_of_ble_eq_true rfl) rfl ?_
  intro F hV hn C R
  subst hV
  have hin : (xt F).name = "<init>" := R.2.2.2
  refine ws_aload_n C d_Up_init_0 rfl ?_
  refine ws_objInit C (tb_at 278 (by decide +kernel) (by decide +kernel)) obj_1 obj_2 d_Up_init_1 (Nat.le_of_ble_eq_true rfl) (by decide) ?_
  refine ws_aload_n C d_Up_init_4 rfl ?_
  refine ws_iload_n C d_Up_init_5 rfl ?_
  refine ws_putFI C hin d_Up_init_6 f_Up_7 rfl rfl rfl ⟨rfl, rfl⟩ hK ?_
  replace hR := hR.uI (f := 160) (x := nI k) hN rfl
  have hK : sK (setI S 160 q (nI k)) q = 5 := hK
  have a160 : sI (setI S 160 q (nI k)) 160 q = nI k := sI_at
  generalize setI S 160 q (nI k) = S at *
  refine ws_aload_n C d_Up_init_9 rfl ?_
  refine ws_iload_n C d_Up_init_10 rfl ?_
  refine ws_putFI C hin d_Up_init_11 f_Up_13 rfl rfl rfl ⟨rfl, rfl⟩ hK ?_
  replace hR := hR.uI (f := 161) (x := x) hN rfl
  have hK : sK (setI S 161 q (x)) q = 5 := hK
  have a161 : sI (setI S 161 q (x)) 161 q = x := sI_at
  have a160 : sI (setI S 161 q (x)) 160 q = nI k := (sI_nt (by decide)).trans a160
  generalize setI S 161 q (x) = S at *
  refine ws_aload_n C d_Up_init_14 rfl ?_
  refine ws_iload_n C d_Up_init_15 rfl ?_
  refine ws_putFI C hin d_Up_init_16 f_Up_16 rfl rfl rfl ⟨rfl, rfl⟩ hK ?_
  replace hR := hR.uI (f := 162) (x := nI c) hN rfl
  have hK : sK (setI S 162 q (nI c)) q = 5 := hK
  have a162 : sI (setI S 162 q (nI c)) 162 q = nI c := sI_at
  have a160 : sI (setI S 162 q (nI c)) 160 q = nI k := (sI_nt (by decide)).trans a160
  have a161 : sI (setI S 162 q (nI c)) 161 q = x := (sI_nt (by decide)).trans a161
  generalize setI S 162 q (nI c) = S at *
  refine ws_aload_n C d_Up_init_19 rfl ?_
  refine ws_iload C d_Up_init_20 rfl ?_
  refine ws_putFI C hin d_Up_init_22 f_Up_19 rfl rfl rfl ⟨rfl, rfl⟩ hK ?_
  replace hR := hR.uI (f := 163) (x := nI rq) hN rfl
  have hK : sK (setI S 163 q (nI rq)) q = 5 := hK
  have a163 : sI (setI S 163 q (nI rq)) 163 q = nI rq := sI_at
  have a160 : sI (setI S 163 q (nI rq)) 160 q = nI k := (sI_nt (by decide)).trans a160
  have a161 : sI (setI S 163 q (nI rq)) 161 q = x := (sI_nt (by decide)).trans a161
  have a162 : sI (setI S 163 q (nI rq)) 162 q = nI c := (sI_nt (by decide)).trans a162
  generalize setI S 163 q (nI rq) = S at *
  exact ws_vret C R d_Up_init_25 rfl (by decide) (by decide) ⟨rfl, ⟨hR, hK, a160, a161, a162, a163⟩⟩
