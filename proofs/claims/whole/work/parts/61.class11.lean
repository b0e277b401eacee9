/-! the class: the calls that make no new node -/
theorem not_lt_n {j : Nat} (h : j < 2 ^ 31) : ¬ nI j < 0 := by rw [Int32.lt_iff_toInt_lt, nI_toInt h, show (0 : Int32).toInt = 0 from by decide]; omega
theorem lt_of_nge {x : Int32} (h : ¬ 0 ≤ x) : x < 0 := by rw [Int32.le_iff_toInt_le] at h; rw [Int32.lt_iff_toInt_lt]; omega
theorem ge0_n {x : Int32} (h : 0 ≤ x) : ∃ j, j < 2 ^ 31 ∧ x = nI j := by
  have hx : inN x (2 ^ 31 - 1) = true := by
    simp only [inN, decide_eq_true_eq]
    rw [Int32.le_iff_toInt_le] at h
    refine ⟨fun z => ?_, fun z => ?_⟩
    · rw [Int32.lt_iff_toInt_lt] at z; omega
    · rw [Int32.lt_iff_toInt_lt, nI_toInt (by decide)] at z; have := x.toInt_lt; omega
  obtain ⟨j, hj, e⟩ := inN_of hx (by decide)
  exact ⟨j, by omega, e⟩
theorem vrN_leL (G : GS) (v k : Nat) : ∀ (n i left r L : Nat), i + n ≤ L + 1 → r ≤ L → vrN G v k n i left r ≤ L
  | 0, _, _, _, _, _, hr => hr
  | n + 1, i, left, r, L, h, hr => by
    rw [vrN]
    split
    · exact hr
    · split
      · exact vrN_leL G v k n (i + 1) (left - 1) i L (by omega) (by omega)
      · exact vrN_leL G v k n (i + 1) left r L (by omega) hr
theorem vr_le {G : GS} (hW : WF G) (v k a : Nat) : vrN G v k (G.1 4 v - G.1 5 v) (G.1 5 v + 1) a (clN G v k) ≤ G.1 4 v := by
  have h := hW.2.2.2.2.2 v
  have h2 := cnF_le G v k (G.1 5 v)
  exact vrN_leL G v k _ _ _ _ _ (by omega) (by unfold clN; omega)
set_option maxHeartbeats 4000000 in
set_option maxRecDepth 100000 in
theorem c_X_status {V : Ev} {o : Nat} {G : GS} {S : Sto} (hR : XO (vZ V) o G S) (hO : OK G) (hW : WF G) (c : Int32) : CT V mi_X_status 0 0 [.ref o, .int c] S (Pi (staF G c) (XO (vZ V) o G)) := by
  refine CT.of (cc := prog_1_method_5_code) (own := "ChainVersions") (nL := 3) (d := 1) (by decide) rfl rfl rfl rfl (by simp [Value.category]) (Nat.le_of_ble_eq_true rfl) rfl ?_
  intro F hV hn C R
  subst hV
  obtain ⟨h, rfl, hR⟩ := hR
  by_cases hcI : inN c 2 = true
  · obtain ⟨c, hc2, rfl⟩ := inN_of hcI (by decide)
    have hc : c < 3 := by omega
    have ec : ix (nI c) = c := ix_n (by omega)
    refine ws_aload_n C d_X_status_0 rfl ?_
    refine ws_iload_n C d_X_status_1 rfl ?_
    refine ws_callVr C w_X_54 (As := [_]) (c_X_clientOf hR hO (nI c) (P := fun S' => S = S') rfl) d_X_status_2 rfl rfl (XE.k hR (dk6)) (Nat.le_of_ble_eq_true rfl) (by decide) (by decide) (by decide) (fun S' hS' => ?_)
    subst hS'
    rw [show clA h (nI c) = some (h 2 c) from by rw [clA, if_pos hcI, ec]]
    refine ws_astore_n C d_X_status_5 (by rw [hn]; decide) ?_
    refine ws_aload_n C d_X_status_6 rfl ?_
    refine ws_ifnonnull C d_X_status_7 ?_
    refine ws_aload_n C d_X_status_14 rfl ?_
    refine wx_getI C hR 64 c (nI (G.1 13 c)) d_X_status_15 f_X_89 rfl rfl (dmC (by decide) hc) rfl ?_
    exact ws_iret C R d_X_status_18 rfl (by decide) (by decide) ⟨by simp [staF, hcI, ec], hR.out⟩
  · refine ws_aload_n C d_X_status_0 rfl ?_
    refine ws_iload_n C d_X_status_1 rfl ?_
    refine ws_callVr C w_X_54 (As := [_]) (c_X_clientOf hR hO c (P := fun S' => S = S') rfl) d_X_status_2 rfl rfl (XE.k hR (dk6)) (Nat.le_of_ble_eq_true rfl) (by decide) (by decide) (by decide) (fun S' hS' => ?_)
    subst hS'
    rw [show clA h c = none from by rw [clA, if_neg hcI]]
    refine ws_astore_nN C d_X_status_5 (by rw [hn]; decide) ?_
    refine ws_aload_nN C d_X_status_6 rfl ?_
    refine ws_ifnonnullN C d_X_status_7 ?_
    refine ws_iconst C (-1) d_X_status_10 (by decide) ?_
    refine ws_goto C d_X_status_11 ?_
    exact ws_iret C R d_X_status_18 rfl (by decide) (by decide) ⟨by simp [staF, dnB, hcI], hR.out⟩
set_option maxHeartbeats 4000000 in
set_option maxRecDepth 100000 in
theorem c_X_number {V : Ev} {o : Nat} {G : GS} {S : Sto} (hR : XO (vZ V) o G S) (hO : OK G) (hW : WF G) (c : Int32) : CT V mi_X_number 0 0 [.ref o, .int c] S (Pi (numF G c) (XO (vZ V) o G)) := by
  refine CT.of (cc := prog_1_method_6_code) (own := "ChainVersions") (nL := 3) (d := 1) (by decide) rfl rfl rfl rfl (by simp [Value.category]) (Nat.le_of_ble_eq_true rfl) rfl ?_
  intro F hV hn C R
  subst hV
  obtain ⟨h, rfl, hR⟩ := hR
  by_cases hcI : inN c 2 = true
  · obtain ⟨c, hc2, rfl⟩ := inN_of hcI (by decide)
    have hc : c < 3 := by omega
    have ec : ix (nI c) = c := ix_n (by omega)
    refine ws_aload_n C d_X_number_0 rfl ?_
    refine ws_iload_n C d_X_number_1 rfl ?_
    refine ws_callVr C w_X_54 (As := [_]) (c_X_clientOf hR hO (nI c) (P := fun S' => S = S') rfl) d_X_number_2 rfl rfl (XE.k hR (dk6)) (Nat.le_of_ble_eq_true rfl) (by decide) (by decide) (by decide) (fun S' hS' => ?_)
    subst hS'
    rw [show clA h (nI c) = some (h 2 c) from by rw [clA, if_pos hcI, ec]]
    refine ws_astore_n C d_X_number_5 (by rw [hn]; decide) ?_
    refine ws_aload_n C d_X_number_6 rfl ?_
    refine ws_ifnull C d_X_number_7 ?_
    refine ws_aload_n C d_X_number_10 rfl ?_
    refine ws_callVi C w_X_98 (As := []) (c_Cl_isDone hR hO hc (P := fun S' => S = S') rfl) d_X_number_11 rfl rfl (XE.k hR (dkC hc)) (Nat.le_of_ble_eq_true rfl) (by decide) (by decide) (by decide) (fun S' hS' => ?_)
    subst hS'
    refine ws_if_neB C d_X_number_14 (fun h14 => ?_) (fun h14 => ?_)
    · refine ws_aload_n C d_X_number_21 rfl ?_
      refine wx_getI C hR 69 c (nI (G.1 18 c)) d_X_number_22 f_X_101 rfl rfl (dmC (by decide) hc) rfl ?_
      exact ws_iret C R d_X_number_25 rfl (by decide) (by decide) ⟨by rw [numF, dnB, hcI, ec, Bool.true_and, h14]; rfl, hR.out⟩
    · refine ws_iconst C (-1) d_X_number_17 (by decide) ?_
      refine ws_goto C d_X_number_18 ?_
      exact ws_iret C R d_X_number_25 rfl (by decide) (by decide) ⟨by rw [numF, dnB, hcI, ec, Bool.true_and, h14]; rfl, hR.out⟩
  · refine ws_aload_n C d_X_number_0 rfl ?_
    refine ws_iload_n C d_X_number_1 rfl ?_
    refine ws_callVr C w_X_54 (As := [_]) (c_X_clientOf hR hO c (P := fun S' => S = S') rfl) d_X_number_2 rfl rfl (XE.k hR (dk6)) (Nat.le_of_ble_eq_true rfl) (by decide) (by decide) (by decide) (fun S' hS' => ?_)
    subst hS'
    rw [show clA h c = none from by rw [clA, if_neg hcI]]
    refine ws_astore_nN C d_X_number_5 (by rw [hn]; decide) ?_
    refine ws_aload_nN C d_X_number_6 rfl ?_
    refine ws_ifnullN C d_X_number_7 ?_
    refine ws_iconst C (-1) d_X_number_17 (by decide) ?_
    refine ws_goto C d_X_number_18 ?_
    exact ws_iret C R d_X_number_25 rfl (by decide) (by decide) ⟨by simp [numF, dnB, hcI], hR.out⟩
set_option maxHeartbeats 4000000 in
set_option maxRecDepth 100000 in
theorem c_X_value {V : Ev} {o : Nat} {G : GS} {S : Sto} (hR : XO (vZ V) o G S) (hO : OK G) (hW : WF G) (c : Int32) : CT V mi_X_value 0 0 [.ref o, .int c] S (Pi (valF G c) (XO (vZ V) o G)) := by
  refine CT.of (cc := prog_1_method_7_code) (own := "ChainVersions") (nL := 3) (d := 1) (by decide) rfl rfl rfl rfl (by simp [Value.category]) (Nat.le_of_ble_eq_true rfl) rfl ?_
  intro F hV hn C R
  subst hV
  obtain ⟨h, rfl, hR⟩ := hR
  by_cases hcI : inN c 2 = true
  · obtain ⟨c, hc2, rfl⟩ := inN_of hcI (by decide)
    have hc : c < 3 := by omega
    have ec : ix (nI c) = c := ix_n (by omega)
    refine ws_aload_n C d_X_value_0 rfl ?_
    refine ws_iload_n C d_X_value_1 rfl ?_
    refine ws_callVr C w_X_54 (As := [_]) (c_X_clientOf hR hO (nI c) (P := fun S' => S = S') rfl) d_X_value_2 rfl rfl (XE.k hR (dk6)) (Nat.le_of_ble_eq_true rfl) (by decide) (by decide) (by decide) (fun S' hS' => ?_)
    subst hS'
    rw [show clA h (nI c) = some (h 2 c) from by rw [clA, if_pos hcI, ec]]
    refine ws_astore_n C d_X_value_5 (by rw [hn]; decide) ?_
    refine ws_aload_n C d_X_value_6 rfl ?_
    refine ws_ifnull C d_X_value_7 ?_
    refine ws_aload_n C d_X_value_10 rfl ?_
    refine ws_callVi C w_X_98 (As := []) (c_Cl_isDone hR hO hc (P := fun S' => S = S') rfl) d_X_value_11 rfl rfl (XE.k hR (dkC hc)) (Nat.le_of_ble_eq_true rfl) (by decide) (by decide) (by decide) (fun S' hS' => ?_)
    subst hS'
    refine ws_if_neB C d_X_value_14 (fun h14 => ?_) (fun h14 => ?_)
    · refine ws_aload_n C d_X_value_21 rfl ?_
      refine wx_getI C hR 70 c (G.2 19 c) d_X_value_22 f_X_104 rfl rfl (dmC (by decide) hc) rfl ?_
      exact ws_iret C R d_X_value_25 rfl (by decide) (by decide) ⟨by rw [valF, dnB, hcI, ec, Bool.true_and, h14]; rfl, hR.out⟩
    · refine ws_iconst C (nI 0) d_X_value_17 (by decide) ?_
      refine ws_goto C d_X_value_18 ?_
      exact ws_iret C R d_X_value_25 rfl (by decide) (by decide) ⟨by rw [valF, dnB, hcI, ec, Bool.true_and, h14]; rfl, hR.out⟩
  · refine ws_aload_n C d_X_value_0 rfl ?_
    refine ws_iload_n C d_X_value_1 rfl ?_
    refine ws_callVr C w_X_54 (As := [_]) (c_X_clientOf hR hO c (P := fun S' => S = S') rfl) d_X_value_2 rfl rfl (XE.k hR (dk6)) (Nat.le_of_ble_eq_true rfl) (by decide) (by decide) (by decide) (fun S' hS' => ?_)
    subst hS'
    rw [show clA h c = none from by rw [clA, if_neg hcI]]
    refine ws_astore_nN C d_X_value_5 (by rw [hn]; decide) ?_
    refine ws_aload_nN C d_X_value_6 rfl ?_
    refine ws_ifnullN C d_X_value_7 ?_
    refine ws_iconst C (nI 0) d_X_value_17 (by decide) ?_
    refine ws_goto C d_X_value_18 ?_
    exact ws_iret C R d_X_value_25 rfl (by decide) (by decide) ⟨by simp [valF, dnB, hcI]; rfl, hR.out⟩
set_option maxHeartbeats 4000000 in
set_option maxRecDepth 100000 in
theorem c_X_put {V : Ev} {o : Nat} {G : GS} {S : Sto} (hR : XO (vZ V) o G S) (hO : OK G) (hW : WF G) (hH : HH G) (c k x : Int32) (hw : ∀ c, c < 3 → G.1 14 c + 1 ≤ 600) : CT V mi_X_put 3 2213 [.ref o, .int c, .int k, .int x] S (Pi (putF G c k x).1 (XO (vZ V) o (putF G c k x).2)) := by
  refine CT.of (cc := prog_1_method_2_code) (own := "ChainVersions") (nL := 5) (d := 11) (by decide) rfl rfl rfl rfl (by simp [Value.category]) (Nat.le_of_ble_eq_true rfl) rfl ?_
  intro F hV hn C R
  subst hV
  obtain ⟨h, rfl, hR⟩ := hR
  by_cases hcI : inN c 2 = true
  · obtain ⟨c, hc2, rfl⟩ := inN_of hcI (by decide)
    have hc : c < 3 := by omega
    have ec : ix (nI c) = c := ix_n (by omega)
    by_cases hkI : inN k 3 = true
    · obtain ⟨k, hk3, rfl⟩ := inN_of hkI (by decide)
      have ek : ix (nI k) = k := ix_n (by omega)
      have hO2 : OK (gV (gN (gN (gN G 13 c 1) 14 c (G.1 14 c + 1)) 15 c k) 16 c x) := ok_gV (ok_gN (ok_gN (ok_gN hO (by decide)) (hw c hc)) (by show k ≤ 3; omega))
      have hW2 : WF (gV (gN (gN (gN G 13 c 1) 14 c (G.1 14 c + 1)) 15 c k) 16 c x) := (((hW.w_N (by decide)).w_N (by decide)).w_N (by decide)).w_V
      have hH2 : HH (gV (gN (gN (gN G 13 c 1) 14 c (G.1 14 c + 1)) 15 c k) 16 c x) := hH.c (by rw [gV_1, gN_ne _ (by decide), gN_ne _ (by decide), gN_ne _ (by decide)]) (by rw [gV_1, gN_ne _ (by decide), gN_ne _ (by decide), gN_ne _ (by decide)])
      refine ws_aload_n C d_X_put_0 rfl ?_
      refine ws_iload_n C d_X_put_1 rfl ?_
      refine ws_callVr C w_X_54 (As := [_]) (c_X_clientOf hR hO (nI c) (P := fun S' => S = S') rfl) d_X_put_2 rfl rfl (XE.k hR (dk6)) (Nat.le_of_ble_eq_true rfl) (by decide) (by decide) (by decide) (fun S' hS' => ?_)
      subst hS'
      rw [show clA h (nI c) = some (h 2 c) from by rw [clA, if_pos hcI, ec]]
      refine ws_astore C d_X_put_5 (by rw [hn]; decide) ?_
      refine ws_aload C d_X_put_7 rfl ?_
      refine ws_ifnull C d_X_put_9 ?_
      refine ws_iload_n C d_X_put_12 rfl ?_
      refine ws_callSi C w_X_58 (As := [_]) (c_X_isKey (P := fun S' => S = S') rfl (nI k)) d_X_put_13 rfl rfl (Nat.le_of_ble_eq_true rfl) (by decide) (by decide) (by decide) (fun S' hS' => ?_)
      subst hS'
      refine ws_if_neB C d_X_put_16 (fun _ => ?_) (fun z => Bool.noConfusion (hkI.symm.trans z))
      refine ws_aload C d_X_put_21 rfl ?_
      refine ws_callVi C w_X_62 (As := []) (c_Cl_isUnderWay hR hO hc (P := fun S' => S = S') rfl) d_X_put_23 rfl rfl (XE.k hR (dkC hc)) (Nat.le_of_ble_eq_true rfl) (by decide) (by decide) (by decide) (fun S' hS' => ?_)
      subst hS'
      refine ws_if_eqB C d_X_put_26 (fun h26 => ?_) (fun h26 => ?_)
      · refine ws_aload C d_X_put_32 rfl ?_
        refine ws_iload_n C d_X_put_34 rfl ?_
        refine ws_iload_n C d_X_put_35 rfl ?_
        refine ws_callVv C w_X_66 (As := [_, _]) (c_Cl_beginWrite hR hO hc) d_X_put_36 rfl rfl (XE.k hR (dkC hc)) (Nat.le_of_ble_eq_true rfl) (by decide) (by decide) (by decide) (fun S hR => ?_)
        refine ws_aload_n C d_X_put_39 rfl ?_
        refine ws_iload_n C d_X_put_40 rfl ?_
        refine ws_aload C d_X_put_41 rfl ?_
        refine ws_callVi C w_X_70 (As := [_, _]) (c_X_sendWrite hR hO2 hW2 hc hH2) d_X_put_43 rfl rfl (XE.k hR (dk6)) (Nat.le_of_ble_eq_true rfl) (by decide) (by decide) (by decide) (fun S hR => ?_)
        exact ws_iret C R d_X_put_46 rfl (by decide) (by decide) ⟨by rw [show putF G (nI c) (nI k) x = _ from by unfold putF; rw [hcI, hkI, ec, ek, if_pos (show (true && true) = true from rfl), if_neg (of_decide_eq_false h26)]], by rw [show putF G (nI c) (nI k) x = _ from by unfold putF; rw [hcI, hkI, ec, ek, if_pos (show (true && true) = true from rfl), if_neg (of_decide_eq_false h26)]]; exact hR.out⟩
      · refine ws_bipush C (-2) d_X_put_29 (by decide) ?_
        exact ws_iret C R d_X_put_31 rfl (by decide) (by decide) ⟨by rw [show putF G (nI c) (nI k) x = (-2, G) from by unfold putF; rw [hcI, hkI, ec, ek, if_pos (show (true && true) = true from rfl), if_pos (of_decide_eq_true h26)]], by rw [show putF G (nI c) (nI k) x = (-2, G) from by unfold putF; rw [hcI, hkI, ec, ek, if_pos (show (true && true) = true from rfl), if_pos (of_decide_eq_true h26)]]; exact hR.out⟩
    · have hs : putF G (nI c) k x = (-1, G) := by rw [putF, if_neg (by simp [hkI])]
      have hkF : inN k 3 = false := Bool.eq_false_iff.mpr hkI
      refine ws_aload_n C d_X_put_0 rfl ?_
      refine ws_iload_n C d_X_put_1 rfl ?_
      refine ws_callVr C w_X_54 (As := [_]) (c_X_clientOf hR hO (nI c) (P := fun S' => S = S') rfl) d_X_put_2 rfl rfl (XE.k hR (dk6)) (Nat.le_of_ble_eq_true rfl) (by decide) (by decide) (by decide) (fun S' hS' => ?_)
      subst hS'
      rw [show clA h (nI c) = some (h 2 c) from by rw [clA, if_pos hcI, ec]]
      refine ws_astore C d_X_put_5 (by rw [hn]; decide) ?_
      refine ws_aload C d_X_put_7 rfl ?_
      refine ws_ifnull C d_X_put_9 ?_
      refine ws_iload_n C d_X_put_12 rfl ?_
      refine ws_callSi C w_X_58 (As := [_]) (c_X_isKey (P := fun S' => S = S') rfl k) d_X_put_13 rfl rfl (Nat.le_of_ble_eq_true rfl) (by decide) (by decide) (by decide) (fun S' hS' => ?_)
      subst hS'
      refine ws_if_neB C d_X_put_16 (fun z => Bool.noConfusion (hkF.symm.trans z)) (fun _ => ?_)
      refine ws_iconst C (-1) d_X_put_19 (by decide) ?_
      exact ws_iret C R d_X_put_20 rfl (by decide) (by decide) ⟨by rw [hs], by rw [hs]; exact hR.out⟩
  · have hs : putF G c k x = (-1, G) := by rw [putF, if_neg (by simp [hcI])]
    refine ws_aload_n C d_X_put_0 rfl ?_
    refine ws_iload_n C d_X_put_1 rfl ?_
    refine ws_callVr C w_X_54 (As := [_]) (c_X_clientOf hR hO c (P := fun S' => S = S') rfl) d_X_put_2 rfl rfl (XE.k hR (dk6)) (Nat.le_of_ble_eq_true rfl) (by decide) (by decide) (by decide) (fun S' hS' => ?_)
    subst hS'
    rw [show clA h c = none from by rw [clA, if_neg hcI]]
    refine ws_astoreN C d_X_put_5 (by rw [hn]; decide) ?_
    refine ws_aloadN C d_X_put_7 rfl ?_
    refine ws_ifnullN C d_X_put_9 ?_
    refine ws_iconst C (-1) d_X_put_19 (by decide) ?_
    exact ws_iret C R d_X_put_20 rfl (by decide) (by decide) ⟨by rw [hs], by rw [hs]; exact hR.out⟩
set_option maxHeartbeats 4000000 in
set_option maxRecDepth 100000 in
theorem c_X_get {V : Ev} {o : Nat} {G : GS} {S : Sto} (hR : XO (vZ V) o G S) (hO : OK G) (hW : WF G) (c v k : Int32) : CT V mi_X_get 2 2209 [.ref o, .int c, .int v, .int k] S (Pi (getF G c v k).1 (XO (vZ V) o (getF G c v k).2)) := by
  refine CT.of (cc := prog_1_method_3_code) (own := "ChainVersions") (nL := 6) (d := 9) (by decide) rfl rfl rfl rfl (by simp [Value.category]) (Nat.le_of_ble_eq_true rfl) rfl ?_
  intro F hV hn C R
  subst hV
  obtain ⟨h, rfl, hR⟩ := hR
  by_cases hcI : inN c 2 = true
  · obtain ⟨c, hc2, rfl⟩ := inN_of hcI (by decide)
    have hc : c < 3 := by omega
    have ec : ix (nI c) = c := ix_n (by omega)
    by_cases hkI : inN k 3 = true
    · by_cases hvI : inN v 5 = true
      · obtain ⟨k, hk3, rfl⟩ := inN_of hkI (by decide)
        have ek : ix (nI k) = k := ix_n (by omega)
        refine ws_aload_n C d_X_get_0 rfl ?_
        refine ws_iload_n C d_X_get_1 rfl ?_
        refine ws_callVr C w_X_54 (As := [_]) (c_X_clientOf hR hO (nI c) (P := fun S' => S = S') rfl) d_X_get_2 rfl rfl (XE.k hR (dk6)) (Nat.le_of_ble_eq_true rfl) (by decide) (by decide) (by decide) (fun S' hS' => ?_)
        subst hS'
        rw [show clA h (nI c) = some (h 2 c) from by rw [clA, if_pos hcI, ec]]
        refine ws_astore C d_X_get_5 (by rw [hn]; decide) ?_
        refine ws_aload C d_X_get_7 rfl ?_
        refine ws_ifnull C d_X_get_9 ?_
        refine ws_iload_n C d_X_get_12 rfl ?_
        refine ws_callSi C w_X_58 (As := [_]) (c_X_isKey (P := fun S' => S = S') rfl (nI k)) d_X_get_13 rfl rfl (Nat.le_of_ble_eq_true rfl) (by decide) (by decide) (by decide) (fun S' hS' => ?_)
        subst hS'
        refine ws_if_eqB C d_X_get_16 (fun z => Bool.noConfusion (hkI.symm.trans z)) (fun _ => ?_)
        refine ws_iload_n C d_X_get_19 rfl ?_
        refine ws_callSi C w_X_74 (As := [_]) (c_X_isNodeNumber (P := fun S' => S = S') rfl v) d_X_get_20 rfl rfl (Nat.le_of_ble_eq_true rfl) (by decide) (by decide) (by decide) (fun S' hS' => ?_)
        subst hS'
        refine ws_if_neB C d_X_get_23 (fun _ => ?_) (fun z => Bool.noConfusion (hvI.symm.trans z))
        refine ws_aload C d_X_get_28 rfl ?_
        refine ws_callVi C w_X_62 (As := []) (c_Cl_isUnderWay hR hO hc (P := fun S' => S = S') rfl) d_X_get_30 rfl rfl (XE.k hR (dkC hc)) (Nat.le_of_ble_eq_true rfl) (by decide) (by decide) (by decide) (fun S' hS' => ?_)
        subst hS'
        refine ws_if_eqB C d_X_get_33 (fun h33 => ?_) (fun h33 => ?_)
        · refine ws_aload_n C d_X_get_39 rfl ?_
          refine ws_iload_n C d_X_get_40 rfl ?_
          refine ws_callVr C w_X_77 (As := [_]) (c_X_readyNode hR hO hW v (P := fun S' => S = S') rfl) d_X_get_41 rfl rfl (XE.k hR (dk6)) (Nat.le_of_ble_eq_true rfl) (by decide) (by decide) (by decide) (fun S' hS' => ?_)
          subst hS'
          rcases rdA_cs (h := h) hW v with ⟨he, hx⟩ | ⟨v2, rfl, hv5, hv2, h1, h2, hx, he⟩
          · rw [he]
            have hs : getF G (nI c) v (nI k) = (0, G) := by unfold getF; rw [hcI, hkI, hvI, ec, ek, if_pos (show (true && (true && true)) = true from rfl), if_neg (of_decide_eq_false h33), if_neg (by rw [hx]; decide)]
            refine ws_astoreN C d_X_get_44 (by rw [hn]; decide) ?_
            refine ws_aloadN C d_X_get_46 rfl ?_
            refine ws_ifnonnullN C d_X_get_48 ?_
            refine ws_iconst C (nI 0) d_X_get_51 (by decide) ?_
            exact ws_iret C R d_X_get_52 rfl (by decide) (by decide) ⟨by rw [hs]; rfl, by rw [hs]; exact hR.out⟩
          · rw [he]
            have ev : ix (nI v2) = v2 := ix_n (by omega)
            have hs : getF G (nI c) (nI v2) (nI k) = (nI (srv (gV (gN (gN G 13 c 3) 15 c k) 29 c (-1)) c v2).1, (srv (gV (gN (gN G 13 c 3) 15 c k) 29 c (-1)) c v2).2) := by unfold getF; rw [hcI, hkI, hvI, ec, ek, if_pos (show (true && (true && true)) = true from rfl), if_neg (of_decide_eq_false h33), if_pos hx, ev]
            have hO2 : OK (gV (gN (gN G 13 c 3) 15 c k) 29 c (-1)) := ok_gV (ok_gN (ok_gN hO (by decide)) (by show k ≤ 3; omega))
            have hW2 : WF (gV (gN (gN G 13 c 3) 15 c k) 29 c (-1)) := ((hW.w_N (by decide)).w_N (by decide)).w_V
            have hv3 : v2 < (gV (gN (gN G 13 c 3) 15 c k) 29 c (-1)).1 0 0 := by rw [gV_1, gN_ne _ (by decide), gN_ne _ (by decide)]; exact hv2
            refine ws_astore C d_X_get_44 (by rw [hn]; decide) ?_
            refine ws_aload C d_X_get_46 rfl ?_
            refine ws_ifnonnull C d_X_get_48 ?_
            refine ws_aload C d_X_get_53 rfl ?_
            refine ws_iload_n C d_X_get_55 rfl ?_
            refine ws_callVv C w_X_81 (As := [_]) (c_Cl_beginRead hR hO hc) d_X_get_56 rfl rfl (XE.k hR (dkC hc)) (Nat.le_of_ble_eq_true rfl) (by decide) (by decide) (by decide) (fun S hR => ?_)
            refine ws_aload_n C d_X_get_59 rfl ?_
            refine ws_iload_n C d_X_get_60 rfl ?_
            refine ws_aload C d_X_get_61 rfl ?_
            refine ws_aload C d_X_get_63 rfl ?_
            refine ws_callVi C w_X_85 (As := [_, _, _]) (c_X_serve (G := gV (gN (gN G 13 c 3) 15 c k) 29 c (-1)) hR hO2 hW2 hc hv3) d_X_get_65 rfl rfl (XE.k hR (dk6)) (Nat.le_of_ble_eq_true rfl) (by decide) (by decide) (by decide) (fun S hR => ?_)
            exact ws_iret C R d_X_get_68 rfl (by decide) (by decide) ⟨by rw [hs], by rw [hs]; exact hR.out⟩
        · have hs : getF G (nI c) v (nI k) = (-2, G) := by unfold getF; rw [hcI, hkI, hvI, ec, ek, if_pos (show (true && (true && true)) = true from rfl), if_pos (of_decide_eq_true h33)]
          refine ws_bipush C (-2) d_X_get_36 (by decide) ?_
          exact ws_iret C R d_X_get_38 rfl (by decide) (by decide) ⟨by rw [hs], by rw [hs]; exact hR.out⟩
      · have hs : getF G (nI c) v k = (-1, G) := by rw [getF, if_neg (by simp [hvI])]
        have hvF : inN v 5 = false := Bool.eq_false_iff.mpr hvI
        refine ws_aload_n C d_X_get_0 rfl ?_
        refine ws_iload_n C d_X_get_1 rfl ?_
        refine ws_callVr C w_X_54 (As := [_]) (c_X_clientOf hR hO (nI c) (P := fun S' => S = S') rfl) d_X_get_2 rfl rfl (XE.k hR (dk6)) (Nat.le_of_ble_eq_true rfl) (by decide) (by decide) (by decide) (fun S' hS' => ?_)
        subst hS'
        rw [show clA h (nI c) = some (h 2 c) from by rw [clA, if_pos hcI, ec]]
        refine ws_astore C d_X_get_5 (by rw [hn]; decide) ?_
        refine ws_aload C d_X_get_7 rfl ?_
        refine ws_ifnull C d_X_get_9 ?_
        refine ws_iload_n C d_X_get_12 rfl ?_
        refine ws_callSi C w_X_58 (As := [_]) (c_X_isKey (P := fun S' => S = S') rfl k) d_X_get_13 rfl rfl (Nat.le_of_ble_eq_true rfl) (by decide) (by decide) (by decide) (fun S' hS' => ?_)
        subst hS'
        refine ws_if_eqB C d_X_get_16 (fun z => Bool.noConfusion (hkI.symm.trans z)) (fun _ => ?_)
        refine ws_iload_n C d_X_get_19 rfl ?_
        refine ws_callSi C w_X_74 (As := [_]) (c_X_isNodeNumber (P := fun S' => S = S') rfl v) d_X_get_20 rfl rfl (Nat.le_of_ble_eq_true rfl) (by decide) (by decide) (by decide) (fun S' hS' => ?_)
        subst hS'
        refine ws_if_neB C d_X_get_23 (fun z => Bool.noConfusion (hvF.symm.trans z)) (fun _ => ?_)
        refine ws_iconst C (-1) d_X_get_26 (by decide) ?_
        exact ws_iret C R d_X_get_27 rfl (by decide) (by decide) ⟨by rw [hs], by rw [hs]; exact hR.out⟩
    · have hs : getF G (nI c) v k = (-1, G) := by rw [getF, if_neg (by simp [hkI])]
      have hkF : inN k 3 = false := Bool.eq_false_iff.mpr hkI
      refine ws_aload_n C d_X_get_0 rfl ?_
      refine ws_iload_n C d_X_get_1 rfl ?_
      refine ws_callVr C w_X_54 (As := [_]) (c_X_clientOf hR hO (nI c) (P := fun S' => S = S') rfl) d_X_get_2 rfl rfl (XE.k hR (dk6)) (Nat.le_of_ble_eq_true rfl) (by decide) (by decide) (by decide) (fun S' hS' => ?_)
      subst hS'
      rw [show clA h (nI c) = some (h 2 c) from by rw [clA, if_pos hcI, ec]]
      refine ws_astore C d_X_get_5 (by rw [hn]; decide) ?_
      refine ws_aload C d_X_get_7 rfl ?_
      refine ws_ifnull C d_X_get_9 ?_
      refine ws_iload_n C d_X_get_12 rfl ?_
      refine ws_callSi C w_X_58 (As := [_]) (c_X_isKey (P := fun S' => S = S') rfl k) d_X_get_13 rfl rfl (Nat.le_of_ble_eq_true rfl) (by decide) (by decide) (by decide) (fun S' hS' => ?_)
      subst hS'
      refine ws_if_eqB C d_X_get_16 (fun _ => ?_) (fun z => Bool.noConfusion (hkF.symm.trans z))
      refine ws_iconst C (-1) d_X_get_26 (by decide) ?_
      exact ws_iret C R d_X_get_27 rfl (by decide) (by decide) ⟨by rw [hs], by rw [hs]; exact hR.out⟩
  · have hs : getF G c v k = (-1, G) := by rw [getF, if_neg (by simp [hcI])]
    refine ws_aload_n C d_X_get_0 rfl ?_
    refine ws_iload_n C d_X_get_1 rfl ?_
    refine ws_callVr C w_X_54 (As := [_]) (c_X_clientOf hR hO c (P := fun S' => S = S') rfl) d_X_get_2 rfl rfl (XE.k hR (dk6)) (Nat.le_of_ble_eq_true rfl) (by decide) (by decide) (by decide) (fun S' hS' => ?_)
    subst hS'
    rw [show clA h c = none from by rw [clA, if_neg hcI]]
    refine ws_astoreN C d_X_get_5 (by rw [hn]; decide) ?_
    refine ws_aloadN C d_X_get_7 rfl ?_
    refine ws_ifnullN C d_X_get_9 ?_
    refine ws_iconst C (-1) d_X_get_26 (by decide) ?_
    exact ws_iret C R d_X_get_27 rfl (by decide) (by decide) ⟨by rw [hs], by rw [hs]; exact hR.out⟩
set_option maxHeartbeats 4000000 in
set_option maxRecDepth 100000 in
theorem c_X_retry {V : Ev} {o : Nat} {G : GS} {S : Sto} (hR : XO (vZ V) o G S) (hO : OK G) (hW : WF G) (hH : HH G) (hA : ∀ c, c < 3 → G.1 13 c = 3 → G.2 29 c = nI (G.1 17 c)) (c v : Int32) : CT V mi_X_retry 3 2213 [.ref o, .int c, .int v] S (Pi (rtyF G c v).1 (XO (vZ V) o (rtyF G c v).2)) := by
  refine CT.of (cc := prog_1_method_4_code) (own := "ChainVersions") (nL := 5) (d := 11) (by decide) rfl rfl rfl rfl (by simp [Value.category]) (Nat.le_of_ble_eq_true rfl) rfl ?_
  intro F hV hn C R
  subst hV
  obtain ⟨h, rfl, hR⟩ := hR
  by_cases hcI : inN c 2 = true
  · obtain ⟨c, hc2, rfl⟩ := inN_of hcI (by decide)
    have hc : c < 3 := by omega
    have ec : ix (nI c) = c := ix_n (by omega)
    have hb13 : G.1 13 c ≤ 4 := hO 13 c
    refine ws_aload_n C d_X_retry_0 rfl ?_
    refine ws_iload_n C d_X_retry_1 rfl ?_
    refine ws_callVr C w_X_54 (As := [_]) (c_X_clientOf hR hO (nI c) (P := fun S' => S = S') rfl) d_X_retry_2 rfl rfl (XE.k hR (dk6)) (Nat.le_of_ble_eq_true rfl) (by decide) (by decide) (by decide) (fun S' hS' => ?_)
    subst hS'
    rw [show clA h (nI c) = some (h 2 c) from by rw [clA, if_pos hcI, ec]]
    refine ws_astore_n C d_X_retry_5 (by rw [hn]; decide) ?_
    refine ws_aload_n C d_X_retry_6 rfl ?_
    refine ws_ifnonnull C d_X_retry_7 ?_
    refine ws_aload_n C d_X_retry_12 rfl ?_
    refine wx_getI C hR 64 c (nI (G.1 13 c)) d_X_retry_13 f_X_89 rfl rfl (dmC (by decide) hc) rfl ?_
    refine ws_if_eqN C d_X_retry_16 (by first | omega | exact okl hO _ _) (fun h16 => ?_) (fun h16 => ?_)
    · have hs : rtyF G (nI c) v = (-3, G) := by rw [rtyF, if_pos hcI, ec, if_pos (by omega)]
      refine ws_bipush C (-3) d_X_retry_27 (by decide) ?_
      exact ws_iret C R d_X_retry_29 rfl (by decide) (by decide) ⟨by rw [hs], by rw [hs]; exact hR.out⟩
    · refine ws_aload_n C d_X_retry_19 rfl ?_
      refine wx_getI C hR 64 c (nI (G.1 13 c)) d_X_retry_20 f_X_89 rfl rfl (dmC (by decide) hc) rfl ?_
      refine ws_iconst C (nI 4) d_X_retry_23 (by decide) ?_
      refine ws_icmp_neN C d_X_retry_24 (by first | omega | exact okl hO _ _) (by first | omega | exact okl hO _ _) (fun h24 => ?_) (fun h24 => ?_)
      · refine ws_aload_n C d_X_retry_30 rfl ?_
        refine wx_getI C hR 64 c (nI (G.1 13 c)) d_X_retry_31 f_X_89 rfl rfl (dmC (by decide) hc) rfl ?_
        refine ws_iconst C (nI 3) d_X_retry_34 (by decide) ?_
        refine ws_icmp_eqN C d_X_retry_35 (by first | omega | exact okl hO _ _) (by first | omega | exact okl hO _ _) (fun h35 => ?_) (fun h35 => ?_)
        · have hA1 : G.2 29 c = nI (G.1 17 c) := hA c hc h35
          have hb17 : G.1 17 c ≤ 5 := hO 17 c
          refine ws_aload_n C d_X_retry_45 rfl ?_
          refine ws_aload_n C d_X_retry_46 rfl ?_
          refine wx_getI C hR 68 c (G.2 29 c) d_X_retry_47 f_X_92 rfl rfl (dmC (by decide) hc) rfl ?_
          refine ws_callVr C w_X_95 (As := [_]) (c_X_livingNode hR hO hW (G.2 29 c) (P := fun S' => S = S') rfl) d_X_retry_50 rfl rfl (XE.k hR (dk6)) (Nat.le_of_ble_eq_true rfl) (by decide) (by decide) (by decide) (fun S' hS' => ?_)
          subst hS'
          rcases lvA_cs (h := h) hW (G.2 29 c) with ⟨he, hx⟩ | ⟨w2, hov, hw5, hw2, h1, he⟩
          · rw [he]
            have hno : ¬ G.1 1 (G.1 17 c) = 1 := by
              rw [hA1, inN_n hb17, ix_n (by omega)] at hx
              simpa using hx
            by_cases hvI : inN v 5 = true
            · refine ws_ifnullN C d_X_retry_53 ?_
              refine ws_iload_n C d_X_retry_59 rfl ?_
              refine ws_callSi C w_X_74 (As := [_]) (c_X_isNodeNumber (P := fun S' => S = S') rfl v) d_X_retry_60 rfl rfl (Nat.le_of_ble_eq_true rfl) (by decide) (by decide) (by decide) (fun S' hS' => ?_)
              subst hS'
              refine ws_if_neB C d_X_retry_63 (fun _ => ?_) (fun z => Bool.noConfusion (hvI.symm.trans z))
              refine ws_aload_n C d_X_retry_68 rfl ?_
              refine ws_iload_n C d_X_retry_69 rfl ?_
              refine ws_callVr C w_X_77 (As := [_]) (c_X_readyNode hR hO hW v (P := fun S' => S = S') rfl) d_X_retry_70 rfl rfl (XE.k hR (dk6)) (Nat.le_of_ble_eq_true rfl) (by decide) (by decide) (by decide) (fun S' hS' => ?_)
              subst hS'
              rcases rdA_cs (h := h) hW v with ⟨he, hx⟩ | ⟨v2, rfl, hv5, hv2, h1, h2, hx, he⟩
              · rw [he]
                have hs : rtyF G (nI c) v = (0, G) := by rw [rtyF, if_pos hcI, ec, if_neg (by omega), if_neg (by omega), if_neg hno, if_pos hvI, if_neg (by rw [hx]; decide)]
                refine ws_astoreN C d_X_retry_73 (by rw [hn]; decide) ?_
                refine ws_aloadN C d_X_retry_75 rfl ?_
                refine ws_ifnonnullN C d_X_retry_77 ?_
                refine ws_iconst C (nI 0) d_X_retry_80 (by decide) ?_
                refine ws_goto C d_X_retry_81 ?_
                exact ws_iret C R d_X_retry_92 rfl (by decide) (by decide) ⟨by rw [hs]; rfl, by rw [hs]; exact hR.out⟩
              · rw [he]
                have ev : ix (nI v2) = v2 := ix_n (by omega)
                have hs : rtyF G (nI c) (nI v2) = (nI (srv G c v2).1, (srv G c v2).2) := by rw [rtyF, if_pos hcI, ec, if_neg (by omega), if_neg (by omega), if_neg hno, if_pos hvI, if_pos hx, ev]
                refine ws_astore C d_X_retry_73 (by rw [hn]; decide) ?_
                refine ws_aload C d_X_retry_75 rfl ?_
                refine ws_ifnonnull C d_X_retry_77 ?_
                refine ws_aload_n C d_X_retry_84 rfl ?_
                refine ws_iload_n C d_X_retry_85 rfl ?_
                refine ws_aload_n C d_X_retry_86 rfl ?_
                refine ws_aload C d_X_retry_87 rfl ?_
                refine ws_callVi C w_X_85 (As := [_, _, _]) (c_X_serve hR hO hW hc hv2) d_X_retry_89 rfl rfl (XE.k hR (dk6)) (Nat.le_of_ble_eq_true rfl) (by decide) (by decide) (by decide) (fun S hR => ?_)
                exact ws_iret C R d_X_retry_92 rfl (by decide) (by decide) ⟨by rw [hs], by rw [hs]; exact hR.out⟩
            · have hs : rtyF G (nI c) v = (-1, G) := by rw [rtyF, if_pos hcI, ec, if_neg (by omega), if_neg (by omega), if_neg hno, if_neg hvI]
              have hvF : inN v 5 = false := Bool.eq_false_iff.mpr hvI
              refine ws_ifnullN C d_X_retry_53 ?_
              refine ws_iload_n C d_X_retry_59 rfl ?_
              refine ws_callSi C w_X_74 (As := [_]) (c_X_isNodeNumber (P := fun S' => S = S') rfl v) d_X_retry_60 rfl rfl (Nat.le_of_ble_eq_true rfl) (by decide) (by decide) (by decide) (fun S' hS' => ?_)
              subst hS'
              refine ws_if_neB C d_X_retry_63 (fun z => Bool.noConfusion (hvF.symm.trans z)) (fun _ => ?_)
              refine ws_iconst C (-1) d_X_retry_66 (by decide) ?_
              exact ws_iret C R d_X_retry_67 rfl (by decide) (by decide) ⟨by rw [hs], by rw [hs]; exact hR.out⟩
          · rw [he]
            have hwe : G.1 17 c = w2 := (nI_eq (by omega) (by omega)).mp (hA1.symm.trans hov)
            have hs : rtyF G (nI c) v = (-2, G) := by rw [rtyF, if_pos hcI, ec, if_neg (by omega), if_neg (by omega), if_pos (by rw [hwe]; exact h1)]
            refine ws_ifnull C d_X_retry_53 ?_
            refine ws_bipush C (-2) d_X_retry_56 (by decide) ?_
            exact ws_iret C R d_X_retry_58 rfl (by decide) (by decide) ⟨by rw [hs], by rw [hs]; exact hR.out⟩
        · have hs : rtyF G (nI c) v = (nI (swr G c).1, (swr G c).2) := by rw [rtyF, if_pos hcI, ec, if_neg (by omega), if_pos (by omega)]
          refine ws_aload_n C d_X_retry_38 rfl ?_
          refine ws_iload_n C d_X_retry_39 rfl ?_
          refine ws_aload_n C d_X_retry_40 rfl ?_
          refine ws_callVi C w_X_70 (As := [_, _]) (c_X_sendWrite hR hO hW hc hH) d_X_retry_41 rfl rfl (XE.k hR (dk6)) (Nat.le_of_ble_eq_true rfl) (by decide) (by decide) (by decide) (fun S hR => ?_)
          exact ws_iret C R d_X_retry_44 rfl (by decide) (by decide) ⟨by rw [hs], by rw [hs]; exact hR.out⟩
      · have hs : rtyF G (nI c) v = (-3, G) := by rw [rtyF, if_pos hcI, ec, if_pos (by omega)]
        refine ws_bipush C (-3) d_X_retry_27 (by decide) ?_
        exact ws_iret C R d_X_retry_29 rfl (by decide) (by decide) ⟨by rw [hs], by rw [hs]; exact hR.out⟩
  · have hs : rtyF G c v = (-1, G) := by rw [rtyF, if_neg hcI]
    refine ws_aload_n C d_X_retry_0 rfl ?_
    refine ws_iload_n C d_X_retry_1 rfl ?_
    refine ws_callVr C w_X_54 (As := [_]) (c_X_clientOf hR hO c (P := fun S' => S = S') rfl) d_X_retry_2 rfl rfl (XE.k hR (dk6)) (Nat.le_of_ble_eq_true rfl) (by decide) (by decide) (by decide) (fun S' hS' => ?_)
    subst hS'
    rw [show clA h c = none from by rw [clA, if_neg hcI]]
    refine ws_astore_nN C d_X_retry_5 (by rw [hn]; decide) ?_
    refine ws_aload_nN C d_X_retry_6 rfl ?_
    refine ws_ifnonnullN C d_X_retry_7 ?_
    refine ws_iconst C (-1) d_X_retry_10 (by decide) ?_
    exact ws_iret C R d_X_retry_11 rfl (by decide) (by decide) ⟨by rw [hs], by rw [hs]; exact hR.out⟩
set_option maxHeartbeats 4000000 in
set_option maxRecDepth 100000 in
theorem c_X_member {V : Ev} {o : Nat} {G : GS} {S : Sto} (hR : XO (vZ V) o G S) (hO : OK G) (hW : WF G) (k : Int32) : CT V mi_X_member 0 0 [.ref o, .int k] S (Pi (mbF G k) (XO (vZ V) o G)) := by
  refine CT.of (cc := prog_1_method_14_code) (own := "ChainVersions") (nL := 2) (d := 1) (by decide) rfl rfl rfl rfl (by simp [Value.category]) (Nat.le_of_ble_eq_true rfl) rfl ?_
  intro F hV hn C R
  subst hV
  obtain ⟨h, rfl, hR⟩ := hR
  refine ws_aload_n C d_X_member_0 rfl ?_
  refine wx_getP C hR 195 0 (h 3 (G.1 8 0)) d_X_member_1 f_X_42 rfl rfl (dpX (by decide)) rfl ?_
  refine ws_iload_n C d_X_member_4 rfl ?_
  refine ws_callVi C w_X_184 (As := [_]) (c_Cf_memberAt hR hO hW.nw k (P := fun S' => S = S') rfl) d_X_member_5 rfl rfl (XE.k hR (dkF hW.nw)) (Nat.le_of_ble_eq_true rfl) (by decide) (by decide) (by decide) (fun S' hS' => ?_)
  subst hS'
  exact ws_iret C R d_X_member_8 rfl (by decide) (by decide) ⟨by rw [mAt_mb hO]; rfl, hR.out⟩
set_option maxHeartbeats 4000000 in
set_option maxRecDepth 100000 in
theorem c_X_epoch {V : Ev} {o : Nat} {G : GS} {S : Sto} (hR : XO (vZ V) o G S) (hO : OK G) (hW : WF G) (v : Int32) : CT V mi_X_epoch 0 0 [.ref o, .int v] S (Pi (epF G v) (XO (vZ V) o G)) := by
  refine CT.of (cc := prog_1_method_15_code) (own := "ChainVersions") (nL := 3) (d := 1) (by decide) rfl rfl rfl rfl (by simp [Value.category]) (Nat.le_of_ble_eq_true rfl) rfl ?_
  intro F hV hn C R
  subst hV
  obtain ⟨h, rfl, hR⟩ := hR
  refine ws_aload_n C d_X_epoch_0 rfl ?_
  refine ws_iload_n C d_X_epoch_1 rfl ?_
  refine ws_callVr C w_X_95 (As := [_]) (c_X_livingNode hR hO hW v (P := fun S' => S = S') rfl) d_X_epoch_2 rfl rfl (XE.k hR (dk6)) (Nat.le_of_ble_eq_true rfl) (by decide) (by decide) (by decide) (fun S' hS' => ?_)
  subst hS'
  rcases lvA_cs (h := h) hW v with ⟨he, hx⟩ | ⟨v2, rfl, hv5, hv2, h1, he⟩
  · rw [he]
    refine ws_astore_nN C d_X_epoch_5 (by rw [hn]; decide) ?_
    refine ws_aload_nN C d_X_epoch_6 rfl ?_
    refine ws_ifnonnullN C d_X_epoch_7 ?_
    refine ws_iconst C (-1) d_X_epoch_10 (by decide) ?_
    refine ws_goto C d_X_epoch_11 ?_
    exact ws_iret C R d_X_epoch_21 rfl (by decide) (by decide) ⟨by rw [epF, hx]; rfl, hR.out⟩
  · rw [he]
    refine ws_astore_n C d_X_epoch_5 (by rw [hn]; decide) ?_
    refine ws_aload_n C d_X_epoch_6 rfl ?_
    refine ws_ifnonnull C d_X_epoch_7 ?_
    refine ws_aload_n C d_X_epoch_14 rfl ?_
    refine wx_getP C hR 130 v2 (h 3 (G.1 3 v2)) d_X_epoch_15 f_X_119 rfl rfl (dpN (by decide) hv2) rfl ?_
    refine wx_getI C hR 96 (G.1 3 v2) (nI (G.1 3 v2)) d_X_epoch_18 f_X_122 rfl rfl (dmF (hW.vw hv2)) rfl ?_
    exact ws_iret C R d_X_epoch_21 rfl (by decide) (by decide) ⟨by rw [epF, inN_n hv5, ix_n (by omega), h1]; rfl, hR.out⟩
set_option maxHeartbeats 4000000 in
set_option maxRecDepth 100000 in
theorem c_X_length {V : Ev} {o : Nat} {G : GS} {S : Sto} (hR : XO (vZ V) o G S) (hO : OK G) (hW : WF G) (v : Int32) : CT V mi_X_length 0 0 [.ref o, .int v] S (Pi (lnF G v) (XO (vZ V) o G)) := by
  refine CT.of (cc := prog_1_method_16_code) (own := "ChainVersions") (nL := 3) (d := 2) (by decide) rfl rfl rfl rfl (by simp [Value.category]) (Nat.le_of_ble_eq_true rfl) rfl ?_
  intro F hV hn C R
  subst hV
  obtain ⟨h, rfl, hR⟩ := hR
  refine ws_aload_n C d_X_length_0 rfl ?_
  refine ws_iload_n C d_X_length_1 rfl ?_
  refine ws_callVr C w_X_77 (As := [_]) (c_X_readyNode hR hO hW v (P := fun S' => S = S') rfl) d_X_length_2 rfl rfl (XE.k hR (dk6)) (Nat.le_of_ble_eq_true rfl) (by decide) (by decide) (by decide) (fun S' hS' => ?_)
  subst hS'
  rcases rdA_cs (h := h) hW v with ⟨he, hx⟩ | ⟨v2, rfl, hv5, hv2, h1, h2, hx, he⟩
  · rw [he]
    refine ws_astore_nN C d_X_length_5 (by rw [hn]; decide) ?_
    refine ws_aload_nN C d_X_length_6 rfl ?_
    refine ws_ifnonnullN C d_X_length_7 ?_
    refine ws_iconst C (-1) d_X_length_10 (by decide) ?_
    refine ws_goto C d_X_length_11 ?_
    exact ws_iret C R d_X_length_18 rfl (by decide) (by decide) ⟨by rw [lnF, hx]; rfl, hR.out⟩
  · rw [he]
    refine ws_astore_n C d_X_length_5 (by rw [hn]; decide) ?_
    refine ws_aload_n C d_X_length_6 rfl ?_
    refine ws_ifnonnull C d_X_length_7 ?_
    refine ws_aload_n C d_X_length_14 rfl ?_
    refine wx_getI C hR 134 v2 (nI (G.1 4 v2)) d_X_length_15 f_X_188 rfl rfl (dmN (by decide) hv2) rfl ?_
    exact ws_iret C R d_X_length_18 rfl (by decide) (by decide) ⟨by rw [lnF, hx, ix_n (by omega)]; rfl, hR.out⟩
set_option maxHeartbeats 4000000 in
set_option maxRecDepth 100000 in
theorem c_X_settled {V : Ev} {o : Nat} {G : GS} {S : Sto} (hR : XO (vZ V) o G S) (hO : OK G) (hW : WF G) (v : Int32) : CT V mi_X_settled 0 0 [.ref o, .int v] S (Pi (stF G v) (XO (vZ V) o G)) := by
  refine CT.of (cc := prog_1_method_17_code) (own := "ChainVersions") (nL := 3) (d := 2) (by decide) rfl rfl rfl rfl (by simp [Value.category]) (Nat.le_of_ble_eq_true rfl) rfl ?_
  intro F hV hn C R
  subst hV
  obtain ⟨h, rfl, hR⟩ := hR
  refine ws_aload_n C d_X_settled_0 rfl ?_
  refine ws_iload_n C d_X_settled_1 rfl ?_
  refine ws_callVr C w_X_77 (As := [_]) (c_X_readyNode hR hO hW v (P := fun S' => S = S') rfl) d_X_settled_2 rfl rfl (XE.k hR (dk6)) (Nat.le_of_ble_eq_true rfl) (by decide) (by decide) (by decide) (fun S' hS' => ?_)
  subst hS'
  rcases rdA_cs (h := h) hW v with ⟨he, hx⟩ | ⟨v2, rfl, hv5, hv2, h1, h2, hx, he⟩
  · rw [he]
    refine ws_astore_nN C d_X_settled_5 (by rw [hn]; decide) ?_
    refine ws_aload_nN C d_X_settled_6 rfl ?_
    refine ws_ifnonnullN C d_X_settled_7 ?_
    refine ws_iconst C (-1) d_X_settled_10 (by decide) ?_
    refine ws_goto C d_X_settled_11 ?_
    exact ws_iret C R d_X_settled_18 rfl (by decide) (by decide) ⟨by rw [stF, hx]; rfl, hR.out⟩
  · rw [he]
    refine ws_astore_n C d_X_settled_5 (by rw [hn]; decide) ?_
    refine ws_aload_n C d_X_settled_6 rfl ?_
    refine ws_ifnonnull C d_X_settled_7 ?_
    refine ws_aload_n C d_X_settled_14 rfl ?_
    refine wx_getI C hR 135 v2 (nI (G.1 5 v2)) d_X_settled_15 f_X_191 rfl rfl (dmN (by decide) hv2) rfl ?_
    exact ws_iret C R d_X_settled_18 rfl (by decide) (by decide) ⟨by rw [stF, hx, ix_n (by omega)]; rfl, hR.out⟩
set_option maxHeartbeats 4000000 in
set_option maxRecDepth 100000 in
theorem c_X_version {V : Ev} {o : Nat} {G : GS} {S : Sto} (hR : XO (vZ V) o G S) (hO : OK G) (hW : WF G) (v k a : Int32) : CT V mi_X_version 0 0 [.ref o, .int v, .int k, .int a] S (Pi (vrF G v k a) (XO (vZ V) o G)) := by
  refine CT.of (cc := prog_1_method_18_code) (own := "ChainVersions") (nL := 5) (d := 4) (by decide) rfl rfl rfl rfl (by simp [Value.category]) (Nat.le_of_ble_eq_true rfl) rfl ?_
  intro F hV hn C R
  subst hV
  obtain ⟨h, rfl, hR⟩ := hR
  refine ws_aload_n C d_X_version_0 rfl ?_
  refine ws_iload_n C d_X_version_1 rfl ?_
  refine ws_callVr C w_X_77 (As := [_]) (c_X_readyNode hR hO hW v (P := fun S' => S = S') rfl) d_X_version_2 rfl rfl (XE.k hR (dk6)) (Nat.le_of_ble_eq_true rfl) (by decide) (by decide) (by decide) (fun S' hS' => ?_)
  subst hS'
  rcases rdA_cs (h := h) hW v with ⟨he, hx⟩ | ⟨v2, rfl, hv5, hv2, h1, h2, hx, he⟩
  · rw [he]
    refine ws_astoreN C d_X_version_5 (by rw [hn]; decide) ?_
    refine ws_aloadN C d_X_version_7 rfl ?_
    refine ws_ifnullN C d_X_version_9 ?_
    refine ws_iconst C (-1) d_X_version_23 (by decide) ?_
    refine ws_goto C d_X_version_24 ?_
    exact ws_iret C R d_X_version_34 rfl (by decide) (by decide) ⟨by rw [vrF, vrB, hx]; rfl, hR.out⟩
  · rw [he]
    obtain ⟨r, hX⟩ := id hR
    have ev : ix (nI v2) = v2 := ix_n (by omega)
    by_cases hkI : inN k 3 = true
    · obtain ⟨k, hk3, rfl⟩ := inN_of hkI (by decide)
      have ek : ix (nI k) = k := ix_n (by omega)
      refine ws_astore C d_X_version_5 (by rw [hn]; decide) ?_
      refine ws_aload C d_X_version_7 rfl ?_
      refine ws_ifnull C d_X_version_9 ?_
      refine ws_iload_n C d_X_version_12 rfl ?_
      refine ws_callSi C w_X_58 (As := [_]) (c_X_isKey (P := fun S' => S = S') rfl (nI k)) d_X_version_13 rfl rfl (Nat.le_of_ble_eq_true rfl) (by decide) (by decide) (by decide) (fun S' hS' => ?_)
      subst hS'
      refine ws_if_eqB C d_X_version_16 (fun z => Bool.noConfusion (hkI.symm.trans z)) (fun _ => ?_)
      refine ws_iload_n C d_X_version_19 rfl ?_
      refine ws_if_ge C d_X_version_20 (fun h20 => ?_) (fun h20 => ?_)
      · obtain ⟨j, hj, rfl⟩ := ge0_n h20
        have ej : ix (nI j) = j := ix_n hj
        have hB : vrB G (nI v2) (nI k) (nI j) = true := by rw [vrB, hx, hkI, decide_eq_true (not_lt_n hj)]; rfl
        refine ws_aload C d_X_version_27 rfl ?_
        refine ws_iload_n C d_X_version_29 rfl ?_
        refine ws_iload_n C d_X_version_30 rfl ?_
        refine ws_callVi C w_X_194 (As := [_, _]) (c_Nd_versionAt hX hO hW hv2 (show k ≤ 3 by omega) hj (P := fun S' => S = S') rfl) d_X_version_31 rfl rfl (XE.k hR (dkN hv2)) (Nat.le_of_ble_eq_true rfl) (by decide) (by decide) (by decide) (fun S' hS' => ?_)
        subst hS'
        exact ws_iret C R d_X_version_34 rfl (by decide) (by decide) ⟨by rw [vrF, if_pos hB, vrX, ev, ek, ej], hR.out⟩
      · have hB : vrB G (nI v2) (nI k) a = false := by rw [vrB, decide_eq_false (fun z => z (lt_of_nge h20)), Bool.and_false, Bool.and_false]
        refine ws_iconst C (-1) d_X_version_23 (by decide) ?_
        refine ws_goto C d_X_version_24 ?_
        exact ws_iret C R d_X_version_34 rfl (by decide) (by decide) ⟨by rw [vrF, hB]; rfl, hR.out⟩
    · have hkF : inN k 3 = false := Bool.eq_false_iff.mpr hkI
      refine ws_astore C d_X_version_5 (by rw [hn]; decide) ?_
      refine ws_aload C d_X_version_7 rfl ?_
      refine ws_ifnull C d_X_version_9 ?_
      refine ws_iload_n C d_X_version_12 rfl ?_
      refine ws_callSi C w_X_58 (As := [_]) (c_X_isKey (P := fun S' => S = S') rfl k) d_X_version_13 rfl rfl (Nat.le_of_ble_eq_true rfl) (by decide) (by decide) (by decide) (fun S' hS' => ?_)
      subst hS'
      refine ws_if_eqB C d_X_version_16 (fun _ => ?_) (fun z => Bool.noConfusion (hkF.symm.trans z))
      refine ws_iconst C (-1) d_X_version_23 (by decide) ?_
      refine ws_goto C d_X_version_24 ?_
      exact ws_iret C R d_X_version_34 rfl (by decide) (by decide) ⟨by rw [vrF, vrB, hx, hkF]; rfl, hR.out⟩
set_option maxHeartbeats 4000000 in
set_option maxRecDepth 100000 in
theorem c_X_look {V : Ev} {o : Nat} {G : GS} {S : Sto} (hR : XO (vZ V) o G S) (hO : OK G) (hW : WF G) (v k a : Int32) : CT V mi_X_look 0 0 [.ref o, .int v, .int k, .int a] S (Pi (lkF G v k a) (XO (vZ V) o G)) := by
  refine CT.of (cc := prog_1_method_19_code) (own := "ChainVersions") (nL := 5) (d := 4) (by decide) rfl rfl rfl rfl (by simp [Value.category]) (Nat.le_of_ble_eq_true rfl) rfl ?_
  intro F hV hn C R
  subst hV
  obtain ⟨h, rfl, hR⟩ := hR
  refine ws_aload_n C d_X_look_0 rfl ?_
  refine ws_iload_n C d_X_look_1 rfl ?_
  refine ws_callVr C w_X_77 (As := [_]) (c_X_readyNode hR hO hW v (P := fun S' => S = S') rfl) d_X_look_2 rfl rfl (XE.k hR (dk6)) (Nat.le_of_ble_eq_true rfl) (by decide) (by decide) (by decide) (fun S' hS' => ?_)
  subst hS'
  rcases rdA_cs (h := h) hW v with ⟨he, hx⟩ | ⟨v2, rfl, hv5, hv2, h1, h2, hx, he⟩
  · rw [he]
    refine ws_astoreN C d_X_look_5 (by rw [hn]; decide) ?_
    refine ws_aloadN C d_X_look_7 rfl ?_
    refine ws_ifnullN C d_X_look_9 ?_
    refine ws_iconst C (nI 0) d_X_look_23 (by decide) ?_
    refine ws_goto C d_X_look_24 ?_
    exact ws_iret C R d_X_look_39 rfl (by decide) (by decide) ⟨by rw [lkF, vrB, hx]; rfl, hR.out⟩
  · rw [he]
    obtain ⟨r, hX⟩ := id hR
    have ev : ix (nI v2) = v2 := ix_n (by omega)
    by_cases hkI : inN k 3 = true
    · obtain ⟨k, hk3, rfl⟩ := inN_of hkI (by decide)
      have ek : ix (nI k) = k := ix_n (by omega)
      refine ws_astore C d_X_look_5 (by rw [hn]; decide) ?_
      refine ws_aload C d_X_look_7 rfl ?_
      refine ws_ifnull C d_X_look_9 ?_
      refine ws_iload_n C d_X_look_12 rfl ?_
      refine ws_callSi C w_X_58 (As := [_]) (c_X_isKey (P := fun S' => S = S') rfl (nI k)) d_X_look_13 rfl rfl (Nat.le_of_ble_eq_true rfl) (by decide) (by decide) (by decide) (fun S' hS' => ?_)
      subst hS'
      refine ws_if_eqB C d_X_look_16 (fun z => Bool.noConfusion (hkI.symm.trans z)) (fun _ => ?_)
      refine ws_iload_n C d_X_look_19 rfl ?_
      refine ws_if_ge C d_X_look_20 (fun h20 => ?_) (fun h20 => ?_)
      · obtain ⟨j, hj, rfl⟩ := ge0_n h20
        have ej : ix (nI j) = j := ix_n hj
        have hB : vrB G (nI v2) (nI k) (nI j) = true := by rw [vrB, hx, hkI, decide_eq_true (not_lt_n hj)]; rfl
        refine ws_aload C d_X_look_27 rfl ?_
        refine ws_aload C d_X_look_29 rfl ?_
        refine ws_iload_n C d_X_look_31 rfl ?_
        refine ws_iload_n C d_X_look_32 rfl ?_
        refine ws_callVi C w_X_194 (As := [_, _]) (c_Nd_versionAt hX hO hW hv2 (show k ≤ 3 by omega) hj (P := fun S' => S = S') rfl) d_X_look_33 rfl rfl (XE.k hR (dkN hv2)) (Nat.le_of_ble_eq_true rfl) (by decide) (by decide) (by decide) (fun S' hS' => ?_)
        subst hS'
        have hb4 : G.1 4 v2 ≤ 100 := hO 4 v2
        have hle := vr_le hW v2 k j
        refine ws_callVi C w_X_197 (As := [_]) (c_Nd_valueOf hX hO hv2 (Nat.lt_of_le_of_lt hle (by omega)) (P := fun S' => S = S') rfl) d_X_look_36 rfl rfl (XE.k hR (dkN hv2)) (Nat.le_of_ble_eq_true rfl) (by decide) (by decide) (by decide) (fun S' hS' => ?_)
        subst hS'
        exact ws_iret C R d_X_look_39 rfl (by decide) (by decide) ⟨by rw [lkF, if_pos hB, vrX, ev, ek, ej, valAt_if hle], hR.out⟩
      · have hB : vrB G (nI v2) (nI k) a = false := by rw [vrB, decide_eq_false (fun z => z (lt_of_nge h20)), Bool.and_false, Bool.and_false]
        refine ws_iconst C (nI 0) d_X_look_23 (by decide) ?_
        refine ws_goto C d_X_look_24 ?_
        exact ws_iret C R d_X_look_39 rfl (by decide) (by decide) ⟨by rw [lkF, hB]; rfl, hR.out⟩
    · have hkF : inN k 3 = false := Bool.eq_false_iff.mpr hkI
      refine ws_astore C d_X_look_5 (by rw [hn]; decide) ?_
      refine ws_aload C d_X_look_7 rfl ?_
      refine ws_ifnull C d_X_look_9 ?_
      refine ws_iload_n C d_X_look_12 rfl ?_
      refine ws_callSi C w_X_58 (As := [_]) (c_X_isKey (P := fun S' => S = S') rfl k) d_X_look_13 rfl rfl (Nat.le_of_ble_eq_true rfl) (by decide) (by decide) (by decide) (fun S' hS' => ?_)
      subst hS'
      refine ws_if_eqB C d_X_look_16 (fun _ => ?_) (fun z => Bool.noConfusion (hkF.symm.trans z))
      refine ws_iconst C (nI 0) d_X_look_23 (by decide) ?_
      refine ws_goto C d_X_look_24 ?_
      exact ws_iret C R d_X_look_39 rfl (by decide) (by decide) ⟨by rw [lkF, vrB, hx, hkF]; rfl, hR.out⟩
