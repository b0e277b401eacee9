/-! the class: deliver, waiting, stop, adopt -/
set_option maxHeartbeats 4000000 in
set_option maxRecDepth 100000 in
theorem c_X_waiting {V : Ev} {o : Nat} {G : GS} {S : Sto} (hR : XO (vZ V) o G S) (hO : OK G) (hW : WF G) (v w : Int32) : CT V mi_X_waiting 0 0 [.ref o, .int v, .int w] S (Pi (wtF G v w) (XO (vZ V) o G)) := by
  refine CT.of (cc := prog_1_method_9_code) (own := "ChainVersions") (nL := 5) (d := 3) (by decide) rfl rfl rfl rfl (by simp [Value.category]) (Nat.le_of_ble_eq_true rfl) rfl ?_
  intro F hV hn C R
  subst hV
  obtain ⟨h, rfl, hR⟩ := hR
  by_cases hvI : inN v 5 = true
  · by_cases hwI : inN w 5 = true
    · obtain ⟨v, hv5, rfl⟩ := inN_of hvI (by decide)
      have ev : ix (nI v) = v := ix_n (by omega)
      obtain ⟨w, hw5, rfl⟩ := inN_of hwI (by decide)
      have ew : ix (nI w) = w := ix_n (by omega)
      obtain ⟨r, hX⟩ := id hR
      have hb20 : G.1 20 0 ≤ 1399 := hO 20 0
      have hs : wtF G (nI v) (nI w) = nI (wtN G v w (G.1 20 0)) := by rw [wtF, hvI, hwI, ev, ew, if_pos (show (true && true) = true from rfl)]
      refine ws_iload_n C d_X_waiting_0 rfl ?_
      refine ws_callSi C w_X_74 (As := [_]) (c_X_isNodeNumber (P := fun S' => S = S') rfl (nI v)) d_X_waiting_1 rfl rfl (Nat.le_of_ble_eq_true rfl) (by decide) (by decide) (by decide) (fun S' hS' => ?_)
      subst hS'
      refine ws_if_eqB C d_X_waiting_4 (fun z => Bool.noConfusion (hvI.symm.trans z)) (fun _ => ?_)
      refine ws_iload_n C d_X_waiting_7 rfl ?_
      refine ws_callSi C w_X_74 (As := [_]) (c_X_isNodeNumber (P := fun S' => S = S') rfl (nI w)) d_X_waiting_8 rfl rfl (Nat.le_of_ble_eq_true rfl) (by decide) (by decide) (by decide) (fun S' hS' => ?_)
      subst hS'
      refine ws_if_neB C d_X_waiting_11 (fun _ => ?_) (fun z => Bool.noConfusion (hwI.symm.trans z))
      refine ws_iconst C (nI 0) d_X_waiting_16 (by decide) ?_
      refine ws_istore_n C d_X_waiting_17 (by rw [hn]; decide) ?_
      refine ws_iconst C (nI 0) d_X_waiting_18 (by decide) ?_
      refine ws_istore C d_X_waiting_19 (by rw [hn]; decide) ?_
      suffices hL : ∀ n i, i + n = G.1 20 0 → WS F 21 [some (.ref (h 6 0)), some (.int (nI v)), some (.int (nI w)), some (.int (nI (wtN G v w i))), some (.int (nI i))] [] S 0 0 from hL (G.1 20 0) 0 (by omega)
      intro n
      induction n with
      | zero =>
        intro i hi
        have hie : i = G.1 20 0 := by omega
        refine ws_iload C d_X_waiting_21 rfl ?_
        refine ws_aload_n C d_X_waiting_23 rfl ?_
        refine wx_getP C hR 194 0 (h 1 0) d_X_waiting_24 f_X_24 rfl rfl (dpX (by decide)) rfl ?_
        refine ws_callVi C w_X_137 (As := []) (c_AL_size hR hO (P := fun S' => S = S') rfl) d_X_waiting_27 rfl rfl (XE.k hR (dk1)) (Nat.le_of_ble_eq_true rfl) (by decide) (by decide) (by decide) (fun S' hS' => ?_)
        subst hS'
        refine ws_icmp_geN C d_X_waiting_30 (by first | omega | exact okl hO _ _) (by first | omega | exact okl hO _ _) (fun h30 => ?_) (fun h30 => ?_)
        · refine ws_iload_n C d_X_waiting_62 rfl ?_
          exact ws_iret C R d_X_waiting_63 rfl (by decide) (by decide) ⟨by rw [hs, hie], hR.out⟩
        · omega
      | succ n ih =>
        intro i hi
        have hil : i < G.1 20 0 := by omega
        have hMi := (hX.2.2.2.2.2.1.2.2 i hil).2
        have hb1 : G.1 21 i ≤ 5 := hO 21 i
        have hb2 : G.1 22 i ≤ 5 := hO 22 i
        have ih := ih (i + 1) (by omega)
        rw [wtN] at ih
        refine ws_iload C d_X_waiting_21 rfl ?_
        refine ws_aload_n C d_X_waiting_23 rfl ?_
        refine wx_getP C hR 194 0 (h 1 0) d_X_waiting_24 f_X_24 rfl rfl (dpX (by decide)) rfl ?_
        refine ws_callVi C w_X_137 (As := []) (c_AL_size hR hO (P := fun S' => S = S') rfl) d_X_waiting_27 rfl rfl (XE.k hR (dk1)) (Nat.le_of_ble_eq_true rfl) (by decide) (by decide) (by decide) (fun S' hS' => ?_)
        subst hS'
        refine ws_icmp_geN C d_X_waiting_30 (by first | omega | exact okl hO _ _) (by first | omega | exact okl hO _ _) (fun h30 => ?_) (fun h30 => ?_)
        · omega
        · refine ws_aload_n C d_X_waiting_33 rfl ?_
          refine wx_getP C hR 194 0 (h 1 0) d_X_waiting_34 f_X_24 rfl rfl (dpX (by decide)) rfl ?_
          refine ws_iload C d_X_waiting_37 rfl ?_
          refine ws_callVr C w_X_110 (As := [_]) (c_AL_get hX hO hil (P := fun S' => S = S') rfl) d_X_waiting_39 rfl rfl (XE.k hR (dk1)) (Nat.le_of_ble_eq_true rfl) (by decide) (by decide) (by decide) (fun S' hS' => ?_)
          subst hS'
          refine ws_castM C (tb_at 332 (by decide +kernel) (by decide +kernel)) d_X_waiting_42 hMi.1 ?_
          refine ws_iload_n C d_X_waiting_45 rfl ?_
          refine ws_iload_n C d_X_waiting_46 rfl ?_
          refine ws_callVi C w_X_141 (As := [_, _]) (c_Mg_isOnLink hMi hb1 hb2 hv5 hw5 (P := fun S' => S = S') rfl) d_X_waiting_47 rfl rfl hMi.1 (Nat.le_of_ble_eq_true rfl) (by decide) (by decide) (by decide) (fun S' hS' => ?_)
          subst hS'
          refine ws_if_eqB C d_X_waiting_50 (fun h50 => ?_) (fun h50 => ?_)
          · refine ws_iinc C _ d_X_waiting_56 rfl (inc1 _) (by rw [hn]; decide) ?_
            refine ws_goto C d_X_waiting_59 ?_
            rw [if_neg (of_decide_eq_false h50)] at ih
            exact ih
          · refine ws_iinc C _ d_X_waiting_53 rfl (inc1 _) (by rw [hn]; decide) ?_
            refine ws_iinc C _ d_X_waiting_56 rfl (inc1 _) (by rw [hn]; decide) ?_
            refine ws_goto C d_X_waiting_59 ?_
            rw [if_pos (of_decide_eq_true h50)] at ih
            exact ih
    · have hs : wtF G v w = -1 := by rw [wtF, if_neg (by simp [hwI])]
      have hwF : inN w 5 = false := Bool.eq_false_iff.mpr hwI
      refine ws_iload_n C d_X_waiting_0 rfl ?_
      refine ws_callSi C w_X_74 (As := [_]) (c_X_isNodeNumber (P := fun S' => S = S') rfl v) d_X_waiting_1 rfl rfl (Nat.le_of_ble_eq_true rfl) (by decide) (by decide) (by decide) (fun S' hS' => ?_)
      subst hS'
      refine ws_if_eqB C d_X_waiting_4 (fun z => Bool.noConfusion (hvI.symm.trans z)) (fun _ => ?_)
      refine ws_iload_n C d_X_waiting_7 rfl ?_
      refine ws_callSi C w_X_74 (As := [_]) (c_X_isNodeNumber (P := fun S' => S = S') rfl w) d_X_waiting_8 rfl rfl (Nat.le_of_ble_eq_true rfl) (by decide) (by decide) (by decide) (fun S' hS' => ?_)
      subst hS'
      refine ws_if_neB C d_X_waiting_11 (fun z => Bool.noConfusion (hwF.symm.trans z)) (fun _ => ?_)
      refine ws_iconst C (-1) d_X_waiting_14 (by decide) ?_
      exact ws_iret C R d_X_waiting_15 rfl (by decide) (by decide) ⟨by rw [hs], hR.out⟩
  · have hs : wtF G v w = -1 := by rw [wtF, if_neg (by simp [hvI])]
    have hvF : inN v 5 = false := Bool.eq_false_iff.mpr hvI
    refine ws_iload_n C d_X_waiting_0 rfl ?_
    refine ws_callSi C w_X_74 (As := [_]) (c_X_isNodeNumber (P := fun S' => S = S') rfl v) d_X_waiting_1 rfl rfl (Nat.le_of_ble_eq_true rfl) (by decide) (by decide) (by decide) (fun S' hS' => ?_)
    subst hS'
    refine ws_if_eqB C d_X_waiting_4 (fun _ => ?_) (fun z => Bool.noConfusion (hvF.symm.trans z))
    refine ws_iconst C (-1) d_X_waiting_14 (by decide) ?_
    exact ws_iret C R d_X_waiting_15 rfl (by decide) (by decide) ⟨by rw [hs], hR.out⟩
set_option maxHeartbeats 4000000 in
set_option maxRecDepth 100000 in
theorem c_X_stop {V : Ev} {o : Nat} {G : GS} {S : Sto} (hR : XO (vZ V) o G S) (hO : OK G) (hW : WF G) (hE : ∀ i, i < G.1 20 0 → G.1 24 i ≤ G.1 8 0) (v : Int32) : CT V mi_X_stop 0 0 [.ref o, .int v] S (Pi (bI (stpF G v).1) (XO (vZ V) o (stpF G v).2)) := by
  refine CT.of (cc := prog_1_method_10_code) (own := "ChainVersions") (nL := 3) (d := 4) (by decide) rfl rfl rfl rfl (by simp [Value.category]) (Nat.le_of_ble_eq_true rfl) rfl ?_
  intro F hV hn C R
  subst hV
  obtain ⟨h, rfl, hR⟩ := hR
  refine ws_aload_n C d_X_stop_0 rfl ?_
  refine ws_iload_n C d_X_stop_1 rfl ?_
  refine ws_callVr C w_X_95 (As := [_]) (c_X_livingNode hR hO hW v (P := fun S' => S = S') rfl) d_X_stop_2 rfl rfl (XE.k hR (dk6)) (Nat.le_of_ble_eq_true rfl) (by decide) (by decide) (by decide) (fun S' hS' => ?_)
  subst hS'
  rcases lvA_cs (h := h) hW v with ⟨he, hx⟩ | ⟨v2, rfl, hv5, hv2, h1, he⟩
  · rw [he]
    have hs : stpF G v = (false, G) := by rw [stpF, hx]; rfl
    refine ws_astore_nN C d_X_stop_5 (by rw [hn]; decide) ?_
    refine ws_aload_nN C d_X_stop_6 rfl ?_
    refine ws_ifnullN C d_X_stop_7 ?_
    refine ws_iconst C (nI 0) d_X_stop_18 (by decide) ?_
    exact ws_zret C R d_X_stop_19 rfl (by decide) (by decide) (by decide) ⟨by rw [hs]; rfl, by rw [hs]; exact hR.out⟩
  · rw [he]
    have ev : ix (nI v2) = v2 := ix_n (by omega)
    refine ws_astore_n C d_X_stop_5 (by rw [hn]; decide) ?_
    refine ws_aload_n C d_X_stop_6 rfl ?_
    refine ws_ifnull C d_X_stop_7 ?_
    refine ws_aload_n C d_X_stop_10 rfl ?_
    refine ws_iload_n C d_X_stop_11 rfl ?_
    refine ws_callVi C w_X_145 (As := [_]) (c_X_hasOtherReadyNode hR hO hW hv5 (P := fun S' => S = S') rfl) d_X_stop_12 rfl rfl (XE.k hR (dk6)) (Nat.le_of_ble_eq_true rfl) (by decide) (by decide) (by decide) (fun S' hS' => ?_)
    subst hS'
    refine ws_if_neB C d_X_stop_15 (fun h15 => ?_) (fun h15 => ?_)
    · have hs : stpF G (nI v2) = (true, los (gN (gN G 1 v2 0) 28 v2 (G.1 27 0)) v2 (G.1 8 0 + 1)) := by rw [stpF, inN_n hv5, ev, h1, if_pos (show (true && (1 : Nat) == 1) = true from rfl), h15]; rfl
      have hO2 : OK (gN (gN G 1 v2 0) 28 v2 (G.1 27 0)) := ok_gN (ok_gN hO (by decide)) (hO 27 0)
      have hlos : los (gN (gN G 1 v2 0) 28 v2 (G.1 27 0)) v2 2147483647 = los (gN (gN G 1 v2 0) 28 v2 (G.1 27 0)) v2 (G.1 8 0 + 1) := los_big (fun i hi => by
        rw [gN_ne _ (by decide), gN_ne _ (by decide)] at hi
        rw [gN_ne _ (by decide), gN_ne _ (by decide)]
        have := hE i hi
        have hb : G.1 24 i ≤ 12 := hO 24 i
        omega)
      rw [← hlos] at hs
      refine ws_aload_n C d_X_stop_20 rfl ?_
      refine ws_iconst C (nI 0) d_X_stop_21 (by decide) ?_
      refine wx_putN C hR 131 v2 1 d_X_stop_22 f_X_148 rfl rfl rfl rfl rfl ⟨rfl, rfl⟩ (dmN (by decide) hv2) (fun S hR => ?_)
      refine ws_aload_n C d_X_stop_25 rfl ?_
      refine ws_aload_n C d_X_stop_26 rfl ?_
      refine wx_getI C hR 197 0 (nI (G.1 27 0)) d_X_stop_27 f_X_151 rfl rfl (dmX (by decide)) (by show nI ((gN G 1 v2 0).1 27 0) = _; rw [gN_ne _ (by decide)]) ?_
      refine wx_putN C hR 133 v2 28 d_X_stop_30 f_X_154 rfl rfl rfl rfl rfl ⟨rfl, rfl⟩ (dmN (by decide) (by rw [gN_ne _ (by decide)]; exact hv2)) (fun S hR => ?_)
      refine ws_aload_n C d_X_stop_33 rfl ?_
      refine ws_iload_n C d_X_stop_34 rfl ?_
      refine ws_ldc (v := nI 2147483647) C d_X_stop_35 (tb_at 588 (by decide +kernel) (by decide +kernel)) ?_
      refine ws_callVv C w_X_160 (As := [_, _]) (c_X_loseMessagesTo (G := gN (gN G 1 v2 0) 28 v2 (G.1 27 0)) hR hO2 hv5 (by decide)) d_X_stop_37 rfl rfl (XE.k hR (dk6)) (Nat.le_of_ble_eq_true rfl) (by decide) (by decide) (by decide) (fun S hR => ?_)
      refine ws_iconst C (nI 1) d_X_stop_40 (by decide) ?_
      exact ws_zret C R d_X_stop_41 rfl (by decide) (by decide) (by decide) ⟨by rw [hs]; rfl, by rw [hs]; exact hR.out⟩
    · have hs : stpF G (nI v2) = (false, G) := by rw [stpF, inN_n hv5, ev, h1, if_pos (show (true && (1 : Nat) == 1) = true from rfl), h15]; rfl
      refine ws_iconst C (nI 0) d_X_stop_18 (by decide) ?_
      exact ws_zret C R d_X_stop_19 rfl (by decide) (by decide) (by decide) ⟨by rw [hs]; rfl, by rw [hs]; exact hR.out⟩
theorem tyk_nv : tyk 4 2 = .object "ChainVersions$Configuration" := by decide +kernel
set_option maxHeartbeats 4000000 in
set_option maxRecDepth 100000 in
theorem c_X_adopt {V : Ev} {o : Nat} {G : GS} {S : Sto} (hR : XO (vZ V) o G S) (hO : OK G) (hW : WF G) (hI : ∀ v, G.1 1 v = 1 → isIn G (G.1 8 0) v = true) (hA : ∀ c, c < 3 → G.1 13 c = 3 → G.2 29 c = nI (G.1 17 c)) (hc : G.1 20 0 + 6 ≤ 1399) (v : Int32) : CT V mi_X_adopt 10 11045 [.ref o, .int v] S (Pi (bI (adpF G v).1) (XO (vZ V) o (adpF G v).2)) := by
  refine CT.of (cc := prog_1_method_13_code) (own := "ChainVersions") (nL := 3) (d := 10) (by decide) rfl rfl rfl rfl (by simp [Value.category]) (Nat.le_of_ble_eq_true rfl) rfl ?_
  intro F hV hn C R
  subst hV
  obtain ⟨h, rfl, hR⟩ := hR
  refine ws_aload_n C d_X_adopt_0 rfl ?_
  refine ws_iload_n C d_X_adopt_1 rfl ?_
  refine ws_callVr C w_X_95 (As := [_]) (c_X_livingNode hR hO hW v (P := fun S' => S = S') rfl) d_X_adopt_2 rfl rfl (XE.k hR (dk6)) (Nat.le_of_ble_eq_true rfl) (by decide) (by decide) (by decide) (fun S' hS' => ?_)
  subst hS'
  rcases lvA_cs (h := h) hW v with ⟨he, hx⟩ | ⟨v2, rfl, hv5, hv2, h1, he⟩
  · rw [he]
    have hs : adpF G v = (false, G) := by
      rw [adpF, if_neg]
      intro z
      rw [← Bool.and_assoc, hx, Bool.false_and] at z
      cases z
    refine ws_astore_nN C d_X_adopt_5 (by rw [hn]; decide) ?_
    refine ws_aload_nN C d_X_adopt_6 rfl ?_
    refine ws_ifnullN C d_X_adopt_7 ?_
    refine ws_iconst C (nI 0) d_X_adopt_27 (by decide) ?_
    exact ws_zret C R d_X_adopt_28 rfl (by decide) (by decide) (by decide) ⟨by rw [hs]; rfl, by rw [hs]; exact hR.out⟩
  · rw [he]
    have ev : ix (nI v2) = v2 := ix_n (by omega)
    have hb3 : G.1 3 v2 ≤ 12 := hO 3 v2
    have hb8 : G.1 8 0 ≤ 12 := hO 8 0
    refine ws_astore_n C d_X_adopt_5 (by rw [hn]; decide) ?_
    refine ws_aload_n C d_X_adopt_6 rfl ?_
    refine ws_ifnull C d_X_adopt_7 ?_
    refine ws_aload_n C d_X_adopt_10 rfl ?_
    refine wx_getP C hR 130 v2 (h 3 (G.1 3 v2)) d_X_adopt_11 f_X_119 rfl rfl (dpN (by decide) hv2) rfl ?_
    refine wx_getI C hR 96 (G.1 3 v2) (nI (G.1 3 v2)) d_X_adopt_14 f_X_122 rfl rfl (dmF (hW.vw hv2)) rfl ?_
    refine ws_aload_n C d_X_adopt_17 rfl ?_
    refine wx_getP C hR 195 0 (h 3 (G.1 8 0)) d_X_adopt_18 f_X_42 rfl rfl (dpX (by decide)) rfl ?_
    refine wx_getI C hR 96 (G.1 8 0) (nI (G.1 8 0)) d_X_adopt_21 f_X_122 rfl rfl (dmF hW.nw) rfl ?_
    refine ws_icmp_neN C d_X_adopt_24 (by first | omega | exact okl hO _ _) (by first | omega | exact okl hO _ _) (fun h24 => ?_) (fun h24 => ?_)
    · have hs : adpF G (nI v2) = (true, if G.1 2 v2 = 1 then svR v2 3 0 (tel (los (gN G 3 v2 (G.1 8 0)) v2 (G.1 8 0)) v2) else los (gN G 3 v2 (G.1 8 0)) v2 (G.1 8 0)) := by rw [adpF, if_pos (by rw [inN_n hv5, ev, h1]; simp [h24])]; simp only [ev]
      have hi8 : isIn G (G.1 8 0) v2 = true := hI v2 h1
      have hO1 : OK (gN G 3 v2 (G.1 8 0)) := ok_gN hO hb8
      have hW1 : WF (gN G 3 v2 (G.1 8 0)) := hW.w_vw hi8
      have hO2 : OK (los (gN G 3 v2 (G.1 8 0)) v2 (G.1 8 0)) := ok_los hO1
      have hW2 : WF (los (gN G 3 v2 (G.1 8 0)) v2 (G.1 8 0)) := hW1.w_los _ _
      have k20 : (los (gN G 3 v2 (G.1 8 0)) v2 (G.1 8 0)).1 20 0 ≤ G.1 20 0 := Nat.le_trans (los_20 _ _ _) (by rw [gN_ne _ (by decide)]; exact Nat.le_refl _)
      have k0 : (los (gN G 3 v2 (G.1 8 0)) v2 (G.1 8 0)).1 0 = G.1 0 := by rw [los_ne _ _ _ (by decide), gN_ne _ (by decide)]
      have k2 : (los (gN G 3 v2 (G.1 8 0)) v2 (G.1 8 0)).1 2 = G.1 2 := by rw [los_ne _ _ _ (by decide), gN_ne _ (by decide)]
      have k13 : (los (gN G 3 v2 (G.1 8 0)) v2 (G.1 8 0)).1 13 = G.1 13 := by rw [los_ne _ _ _ (by decide), gN_ne _ (by decide)]
      have k17 : (los (gN G 3 v2 (G.1 8 0)) v2 (G.1 8 0)).1 17 = G.1 17 := by rw [los_ne _ _ _ (by decide), gN_ne _ (by decide)]
      have kk2 : (los (gN G 3 v2 (G.1 8 0)) v2 (G.1 8 0)).2 = G.2 := losF_2 _ _ _ _
      have hv3 : v2 < (los (gN G 3 v2 (G.1 8 0)) v2 (G.1 8 0)).1 0 0 := by rw [k0]; exact hv2
      have hvA : v2 < (gN G 3 v2 (G.1 8 0)).1 0 0 := by rw [gN_ne _ (by decide)]; exact hv2
      have hb2 : G.1 2 v2 ≤ 1 := hO 2 v2
      refine ws_aload_n C d_X_adopt_29 rfl ?_
      refine ws_aload_n C d_X_adopt_30 rfl ?_
      refine wx_getP C hR 195 0 (h 3 (G.1 8 0)) d_X_adopt_31 f_X_42 rfl rfl (dpX (by decide)) rfl ?_
      obtain ⟨r, hX⟩ := hR
      refine ws_putR C (some (h 3 (G.1 8 0))) rfl d_X_adopt_34 f_X_119 rfl rfl (by rw [show tyk (130 / 32) (130 % 32) = .object "ChainVersions$Configuration" from tyk_nv]; exact ⟨rfl, rfl⟩) (hX.1.1 4 v2 (dkN hv2)) ?_
      have hR : XE (vZ F.1) h (fun _ => 0) (gN G 3 v2 (G.1 8 0)) _ := ⟨r, hX.view hv2⟩
      generalize setP S 130 (h 4 v2) (some (h 3 (G.1 8 0))) = S at *
      refine ws_aload_n C d_X_adopt_37 rfl ?_
      refine ws_iload_n C d_X_adopt_38 rfl ?_
      refine ws_aload_n C d_X_adopt_39 rfl ?_
      refine wx_getP C hR 195 0 (h 3 (G.1 8 0)) d_X_adopt_40 f_X_42 rfl rfl (dpX (by decide)) (by show h 3 ((gN G 3 v2 (G.1 8 0)).1 8 0) = _; rw [gN_ne _ (by decide)]) ?_
      refine wx_getI C hR 96 (G.1 8 0) (nI (G.1 8 0)) d_X_adopt_43 f_X_122 rfl rfl (dmF (by rw [gN_ne _ (by decide)]; exact hW.nw)) rfl ?_
      refine ws_callVv C w_X_160 (As := [_, _]) (c_X_loseMessagesTo (G := gN G 3 v2 (G.1 8 0)) hR hO1 hv5 (by omega)) d_X_adopt_46 rfl rfl (XE.k hR (dk6)) (Nat.le_of_ble_eq_true rfl) (by decide) (by decide) (by decide) (fun S hR => ?_)
      refine ws_aload_n C d_X_adopt_49 rfl ?_
      refine wx_getI C hR 132 v2 (nI (G.1 2 v2)) d_X_adopt_50 f_X_123 rfl rfl (dmN (by decide) hv3) (by show nI ((los (gN G 3 v2 (G.1 8 0)) v2 (G.1 8 0)).1 2 v2) = _; rw [k2]) ?_
      refine ws_if_eqN C d_X_adopt_53 (by first | omega | exact okl hO _ _) (fun h53 => ?_) (fun h53 => ?_)
      · refine ws_iconst C (nI 1) d_X_adopt_66 (by decide) ?_
        exact ws_zret C R d_X_adopt_67 rfl (by decide) (by decide) (by decide) ⟨by rw [hs]; rfl, by rw [hs]; simp only [if_neg (show ¬ G.1 2 v2 = 1 by omega)]; exact hR.out⟩
      · have t20 := (tel_20 (los (gN G 3 v2 (G.1 8 0)) v2 (G.1 8 0)) v2).2
        have hO3 := ok_tel hO2 hv5 (by omega)
        have hW3 := hW2.w_tel v2
        have hv4 : v2 < (tel (los (gN G 3 v2 (G.1 8 0)) v2 (G.1 8 0)) v2).1 0 0 := by rw [tel_ne _ _ (by decide) (by decide) (by decide) (by decide)]; exact hv3
        have hA4 : ∀ c, c < 3 → (tel (los (gN G 3 v2 (G.1 8 0)) v2 (G.1 8 0)) v2).1 13 c = 3 → (tel (los (gN G 3 v2 (G.1 8 0)) v2 (G.1 8 0)) v2).2 29 c = nI ((tel (los (gN G 3 v2 (G.1 8 0)) v2 (G.1 8 0)) v2).1 17 c) := fun c hc h13 => by
          rw [tel_n2 _ _ (by decide), tel_ne _ _ (by decide) (by decide) (by decide) (by decide), kk2, k17]
          have h13a := tel_13 (los (gN G 3 v2 (G.1 8 0)) v2 (G.1 8 0)) v2 c
          rw [k13] at h13a
          exact hA c hc (by omega)
        refine ws_aload_n C d_X_adopt_56 rfl ?_
        refine ws_aload_n C d_X_adopt_57 rfl ?_
        refine ws_callVv C w_X_177 (As := [_]) (c_X_tellNeighbours hR hO2 hW2 hv3 (by omega)) d_X_adopt_58 rfl rfl (XE.k hR (dk6)) (Nat.le_of_ble_eq_true rfl) (by decide) (by decide) (by decide) (fun S hR => ?_)
        refine ws_aload_n C d_X_adopt_61 rfl ?_
        refine ws_aload_n C d_X_adopt_62 rfl ?_
        refine ws_callVv C w_X_181 (As := [_]) (c_X_serveWaitingReads hR hO3 hW3 hv4 (by omega) hA4) d_X_adopt_63 rfl rfl (XE.k hR (dk6)) (Nat.le_of_ble_eq_true rfl) (by decide) (by decide) (by decide) (fun S hR => ?_)
        refine ws_iconst C (nI 1) d_X_adopt_66 (by decide) ?_
        exact ws_zret C R d_X_adopt_67 rfl (by decide) (by decide) (by decide) ⟨by rw [hs]; rfl, by rw [hs]; simp only [if_pos (show G.1 2 v2 = 1 by omega)]; exact hR.out⟩
    · have hs : adpF G (nI v2) = (false, G) := by rw [adpF, if_neg (by rw [ev]; simp [h24])]
      refine ws_iconst C (nI 0) d_X_adopt_27 (by decide) ?_
      exact ws_zret C R d_X_adopt_28 rfl (by decide) (by decide) (by decide) ⟨by rw [hs]; rfl, by rw [hs]; exact hR.out⟩
/-- what a delivery needs of the first message on a link -/
def dlX (G : GS) (v w : Nat) : Prop := ∀ m, frs G v w = some m → (1 ≤ G.1 23 m ∧ G.1 23 m ≤ 5) ∧ (G.1 1 w = 1 ∧ w < G.1 0 0 ∧ G.1 3 w ≤ G.1 24 m ∧ v < G.1 0 0) ∧ (G.1 24 m = G.1 3 w → (G.1 2 w = 1 → (G.1 23 m = 1 → (1 ≤ G.1 25 m ∧ G.1 25 m ≤ G.1 4 v) ∧ G.1 4 w + 1 ≤ 100) ∧ (G.1 23 m = 2 → G.1 25 m ≤ G.1 4 w) ∧ (G.1 23 m = 3 → G.1 25 m ≤ 3) ∧ (G.1 23 m = 4 → G.1 26 m < 3 ∧ G.1 25 m ≤ 100 ∧ G.1 13 (G.1 26 m) = 3 ∧ G.2 29 (G.1 26 m) = nI w) ∧ (G.1 23 m = 5 → G.1 25 m ≤ G.1 4 v ∧ G.1 20 0 - 1 + (G.1 25 m - G.1 4 w) ≤ 1399)) ∧ (G.1 2 w = 0 → G.1 23 m = 5 → G.1 25 m ≤ G.1 4 v ∧ G.1 4 w = 0 ∧ G.1 26 m ≤ G.1 25 m ∧ G.1 20 0 ≤ 1399))
/-- how many updates a delivery may bring -/
def dlN (G : GS) (v w : Nat) : Nat := match frs G v w with
  | none => 0
  | some m => if G.1 23 m = 5 ∧ G.1 24 m = G.1 3 w then G.1 25 m - G.1 4 w else 0
set_option maxHeartbeats 4000000 in
set_option maxRecDepth 100000 in
theorem c_X_deliver {V : Ev} {o : Nat} {G : GS} {S : Sto} (hR : XO (vZ V) o G S) (hO : OK G) (hW : WF G) {N : Nat} (v w : Int32) (hD : ∀ i j, v = nI i → w = nI j → dlX G i j) (hN : ∀ i j, v = nI i → w = nI j → dlN G i j ≤ N) : CT V mi_X_deliver (4 + 2 * N) (4418 + 2209 * N) [.ref o, .int v, .int w] S (Pi (dlvF G v w).1 (XO (vZ V) o (dlvF G v w).2)) := by
  refine CT.of (cc := prog_1_method_8_code) (own := "ChainVersions") (nL := 6) (d := 12) (by decide) rfl rfl rfl rfl (by simp [Value.category]) (Nat.le_of_ble_eq_true rfl) rfl ?_
  intro F hV hn C R
  subst hV
  obtain ⟨h, rfl, hR⟩ := hR
  by_cases hvI : inN v 5 = true
  · by_cases hwI : inN w 5 = true
    · obtain ⟨v, hv5, rfl⟩ := inN_of hvI (by decide)
      have ev : ix (nI v) = v := ix_n (by omega)
      obtain ⟨w, hw5, rfl⟩ := inN_of hwI (by decide)
      have ew : ix (nI w) = w := ix_n (by omega)
      have hD := hD v w rfl rfl
      have hN := hN v w rfl rfl
      obtain ⟨r, hX⟩ := id hR
      have hb20 : G.1 20 0 ≤ 1399 := hO 20 0
      have hs0 : dlvF G (nI v) (nI w) = dlvN G v w := by rw [dlvF, hvI, hwI, ev, ew, if_pos (show (true && true) = true from rfl)]
      refine ws_iload_n C d_X_deliver_0 rfl ?_
      refine ws_callSi C w_X_74 (As := [_]) (c_X_isNodeNumber (P := fun S' => S = S') rfl (nI v)) d_X_deliver_1 rfl rfl (Nat.le_of_ble_eq_true rfl) (by decide) (by omega) (by omega) (fun S' hS' => ?_)
      subst hS'
      refine ws_if_eqB C d_X_deliver_4 (fun z => Bool.noConfusion (hvI.symm.trans z)) (fun _ => ?_)
      refine ws_iload_n C d_X_deliver_7 rfl ?_
      refine ws_callSi C w_X_74 (As := [_]) (c_X_isNodeNumber (P := fun S' => S = S') rfl (nI w)) d_X_deliver_8 rfl rfl (Nat.le_of_ble_eq_true rfl) (by decide) (by omega) (by omega) (fun S' hS' => ?_)
      subst hS'
      refine ws_if_neB C d_X_deliver_11 (fun _ => ?_) (fun z => Bool.noConfusion (hwI.symm.trans z))
      refine ws_aload_n C d_X_deliver_16 rfl ?_
      refine ws_iload_n C d_X_deliver_17 rfl ?_
      refine ws_iload_n C d_X_deliver_18 rfl ?_
      refine ws_callVi C w_X_107 (As := [_, _]) (c_X_firstOnLink hX hO hv5 hw5 (P := fun S' => S = S') rfl) d_X_deliver_19 rfl rfl (XE.k hR dk6) (Nat.le_of_ble_eq_true rfl) (by decide) (by omega) (by omega) (fun S' hS' => ?_)
      subst hS'
      cases hf : frs G v w with
      | none =>
        refine ws_top (-1) rfl ?_
        have hs : dlvF G (nI v) (nI w) = (0, G) := by rw [hs0, dlvN, hf]
        refine ws_istore_n C d_X_deliver_22 (by rw [hn]; decide) ?_
        refine ws_aload_n C d_X_deliver_23 rfl ?_
        refine ws_iload_n C d_X_deliver_24 rfl ?_
        refine ws_callVr C w_X_95 (As := [_]) (c_X_livingNode hR hO hW (nI w) (P := fun S' => S = S') rfl) d_X_deliver_25 rfl rfl (XE.k hR (dk6)) (Nat.le_of_ble_eq_true rfl) (by decide) (by omega) (by omega) (fun S' hS' => ?_)
        subst hS'
        rcases lvA_cs (h := h) hW (nI w) with ⟨he, hx⟩ | ⟨w2, hov, hw25, hw2, h1, he⟩
        · rw [he]
          refine ws_astoreN C d_X_deliver_28 (by rw [hn]; decide) ?_
          refine ws_iload_n C d_X_deliver_30 rfl ?_
          refine ws_iconst C (-1) d_X_deliver_31 (by decide) ?_
          refine ws_icmp_eq C d_X_deliver_32 (fun h32 => ?_) (fun h32 => ?_)
          · refine ws_iconst C (nI 0) d_X_deliver_40 (by decide) ?_
            exact ws_iret C R d_X_deliver_41 rfl (by omega) (by omega) ⟨by rw [hs]; rfl, by rw [hs]; exact hR.out⟩
          · exact absurd rfl h32
        · rw [he]
          refine ws_astore C d_X_deliver_28 (by rw [hn]; decide) ?_
          refine ws_iload_n C d_X_deliver_30 rfl ?_
          refine ws_iconst C (-1) d_X_deliver_31 (by decide) ?_
          refine ws_icmp_eq C d_X_deliver_32 (fun h32 => ?_) (fun h32 => ?_)
          · refine ws_iconst C (nI 0) d_X_deliver_40 (by decide) ?_
            exact ws_iret C R d_X_deliver_41 rfl (by omega) (by omega) ⟨by rw [hs]; rfl, by rw [hs]; exact hR.out⟩
          · exact absurd rfl h32
      | some m =>
        refine ws_top (nI m) rfl ?_
        obtain ⟨hm, hm1, hm2⟩ := frs_lt hf
        obtain ⟨hkk, ⟨hl1, hw0, h3e, hv0⟩, hq⟩ := hD m hf
        have hMi := (hX.2.2.2.2.2.1.2.2 m hm).2
        have hb24 : G.1 24 m ≤ 12 := hO 24 m
        have hb3 : G.1 3 w ≤ 12 := hO 3 w
        have hb2 : G.1 2 w ≤ 1 := hO 2 w
        rw [dlN, hf] at hN
        simp only [] at hN
        have hdl : dlvN G v w = if G.1 3 w < G.1 24 m ∨ (G.1 24 m = G.1 3 w ∧ G.1 2 w = 0 ∧ G.1 23 m ≠ 5) then (-2, G) else (nI (G.1 23 m), if G.1 24 m = G.1 3 w then (if G.1 2 w = 1 then act (stk G m) w v (G.1 23 m) (G.1 25 m) (G.1 26 m) else arv (stk G m) w v (G.1 25 m) (G.1 26 m)) else stk G m) := by rw [dlvN, hf]
        refine ws_istore_n C d_X_deliver_22 (by rw [hn]; decide) ?_
        refine ws_aload_n C d_X_deliver_23 rfl ?_
        refine ws_iload_n C d_X_deliver_24 rfl ?_
        refine ws_callVr C w_X_95 (As := [_]) (c_X_livingNode hR hO hW (nI w) (P := fun S' => S = S') rfl) d_X_deliver_25 rfl rfl (XE.k hR (dk6)) (Nat.le_of_ble_eq_true rfl) (by decide) (by omega) (by omega) (fun S' hS' => ?_)
        subst hS'
        rw [lvA_s hw5 hl1]
        refine ws_astore C d_X_deliver_28 (by rw [hn]; decide) ?_
        refine ws_iload_n C d_X_deliver_30 rfl ?_
        refine ws_iconst C (-1) d_X_deliver_31 (by decide) ?_
        refine ws_icmp_eq C d_X_deliver_32 (fun h32 => ?_) (fun h32 => ?_)
        · exact absurd h32 (nI_m1 (by omega))
        · refine ws_aload C d_X_deliver_35 rfl ?_
          refine ws_ifnonnull C d_X_deliver_37 ?_
          refine ws_aload_n C d_X_deliver_42 rfl ?_
          refine wx_getP C hR 194 0 (h 1 0) d_X_deliver_43 f_X_24 rfl rfl (dpX (by decide)) rfl ?_
          refine ws_iload_n C d_X_deliver_46 rfl ?_
          refine ws_callVr C w_X_110 (As := [_]) (c_AL_get hX hO hm (P := fun S' => S = S') rfl) d_X_deliver_47 rfl rfl (XE.k hR (dk1)) (Nat.le_of_ble_eq_true rfl) (by decide) (by omega) (by omega) (fun S' hS' => ?_)
          subst hS'
          refine ws_castM C (tb_at 332 (by decide +kernel) (by decide +kernel)) d_X_deliver_50 hMi.1 ?_
          refine ws_astore C d_X_deliver_53 (by rw [hn]; decide) ?_
          refine ws_aload C d_X_deliver_55 rfl ?_
          refine wx_msI C d_X_deliver_57 f_X_116 rfl rfl hMi.1 hMi.2.2.2.2.1 ?_
          refine ws_aload C d_X_deliver_60 rfl ?_
          refine wx_getP C hR 130 w (h 3 (G.1 3 w)) d_X_deliver_62 f_X_119 rfl rfl (dpN (by decide) hw0) rfl ?_
          refine wx_getI C hR 96 (G.1 3 w) (nI (G.1 3 w)) d_X_deliver_65 f_X_122 rfl rfl (dmF (hW.vw hw0)) rfl ?_
          refine ws_icmp_gtN C d_X_deliver_68 (by first | omega | exact okl hO _ _) (by first | omega | exact okl hO _ _) (fun h68 => ?_) (fun h68 => ?_)
          · have hs : dlvF G (nI v) (nI w) = (-2, G) := by rw [hs0, hdl, if_pos (by omega)]
            refine ws_bipush C (-2) d_X_deliver_88 (by decide) ?_
            exact ws_iret C R d_X_deliver_90 rfl (by omega) (by omega) ⟨by rw [hs], by rw [hs]; exact hR.out⟩
          · refine ws_aload C d_X_deliver_71 rfl ?_
            refine wx_getI C hR 132 w (nI (G.1 2 w)) d_X_deliver_73 f_X_123 rfl rfl (dmN (by decide) hw0) rfl ?_
            refine ws_if_neN C d_X_deliver_76 (by first | omega | exact okl hO _ _) (fun h76 => ?_) (fun h76 => ?_)
            · have he24 : G.1 24 m = G.1 3 w := by omega
              have hr2 : G.1 2 w = 1 := by omega
              have hs : dlvF G (nI v) (nI w) = (nI (G.1 23 m), act (stk G m) w v (G.1 23 m) (G.1 25 m) (G.1 26 m)) := by rw [hs0, hdl, if_neg (by omega), if_pos he24, if_pos hr2]
              obtain ⟨p1, p2, p3, p4, p5⟩ := (hq he24).1 hr2
              obtain ⟨h2, t, eh, e15, ⟨t0, t1, t2, t3, t4, t5⟩, hX2⟩ := hX.hand hm
              have e6 := eh 6 0 (by decide)
              have e4 := eh 4 w (by decide)
              rw [← e15, ← e6, ← e4]
              rw [← e6] at R
              have kn : ∀ j, j < 20 ∨ 26 < j → (stk G m).1 j = G.1 j := fun j hj => stk_ne G m hj
              have hO2 : OK (stk G m) := ok_stk hO
              have hW2 : WF (stk G m) := hW.w_stk m
              have hw3 : w < (stk G m).1 0 0 := by rw [kn 0 (by decide)]; exact hw0
              have hnC : nC (stk G m) t w ≤ N := by
                unfold nC
                rw [t0, t4, kn 4 (by decide)]
                split
                · rename_i h5; rw [if_pos ⟨h5, he24⟩] at hN; exact hN
                · omega
              have ht0 : t 0 ≠ 0 := by omega
              clear hR hX hMi
              have hR : XE (vZ F.1) h2 t G S := ⟨r, hX2⟩
              refine ws_aload_n C d_X_deliver_91 rfl ?_
              refine wx_getP C hR 194 0 (h2 1 0) d_X_deliver_92 f_X_24 rfl rfl (dpX (by decide)) rfl ?_
              refine ws_iload_n C d_X_deliver_95 rfl ?_
              refine ws_callVr C w_X_130 (As := [_]) (c_AL_remove hX2 hO hm) d_X_deliver_96 rfl rfl (hX2.1.1 1 0 dk1) (Nat.le_of_ble_eq_true rfl) (by decide) (by omega) (by omega) (fun S hR => ?_)
              refine ws_pop C d_X_deliver_99 rfl ?_
              refine ws_aload_n C d_X_deliver_100 rfl ?_
              refine ws_aload C d_X_deliver_101 rfl ?_
              refine ws_aload C d_X_deliver_103 rfl ?_
              refine ws_callVv C w_X_133 (As := [_, _]) (c_X_receive_r hR hO2 hW2 hw3 (by omega) (by rw [kn 2 (by decide)]; exact hr2) ⟨fun z => by rw [kn 0 (by decide), kn 4 (by decide), t1, t4, hm1]; have := p1 (by omega); exact ⟨hv0, this⟩, fun z => by rw [kn 4 (by decide), t4]; exact p2 (by omega), fun z => by rw [t1, t4, hm1]; exact ⟨hv5, p3 (by omega)⟩, fun z => by rw [t4, t5, kn 13 (by decide)]; obtain ⟨a1, a2, a3, a4⟩ := p4 (by omega); exact ⟨a1, a2, a3, a4⟩, fun z => by rw [kn 0 (by decide), kn 4 (by decide), t1, t4, hm1, stk_20]; have := p5 (by omega); exact ⟨hv0, this.1, this.2⟩⟩) d_X_deliver_105 rfl rfl (XE.k hR (dk6)) (Nat.le_of_ble_eq_true rfl) (by decide) (by omega) (by omega) (fun S hR => ?_)
              refine ws_aload C d_X_deliver_108 rfl ?_
              have hH := XE.hnd hR ht0
              obtain ⟨uH, hH⟩ := hH
              refine wx_msI C d_X_deliver_110 f_X_127 rfl rfl hH.1 hH.2.1 ?_
              clear hH
              exact ws_iret C R d_X_deliver_113 rfl (by omega) (by omega) ⟨by rw [hs, t0], by rw [hs]; rw [t0, t1, t4, t5, hm1] at hR; exact hR.out⟩
            · refine ws_aload C d_X_deliver_79 rfl ?_
              refine wx_msI C d_X_deliver_81 f_X_127 rfl rfl hMi.1 hMi.2.1 ?_
              refine ws_iconst C (nI 5) d_X_deliver_84 (by decide) ?_
              refine ws_icmp_eqN C d_X_deliver_85 (by first | omega | exact okl hO _ _) (by first | omega | exact okl hO _ _) (fun h85 => ?_) (fun h85 => ?_)
              · have he24 : G.1 24 m = G.1 3 w := by omega
                have hr2 : G.1 2 w = 0 := by omega
                have hs : dlvF G (nI v) (nI w) = (nI (G.1 23 m), arv (stk G m) w v (G.1 25 m) (G.1 26 m)) := by rw [hs0, hdl, if_neg (by omega), if_pos he24, if_neg (by omega)]
                obtain ⟨p1, p2, p3, p4⟩ := (hq he24).2 hr2 (by omega)
                obtain ⟨h2, t, eh, e15, ⟨t0, t1, t2, t3, t4, t5⟩, hX2⟩ := hX.hand hm
                have e6 := eh 6 0 (by decide)
                have e4 := eh 4 w (by decide)
                rw [← e15, ← e6, ← e4]
                rw [← e6] at R
                have kn : ∀ j, j < 20 ∨ 26 < j → (stk G m).1 j = G.1 j := fun j hj => stk_ne G m hj
                have hO2 : OK (stk G m) := ok_stk hO
                have hW2 : WF (stk G m) := hW.w_stk m
                have hw3 : w < (stk G m).1 0 0 := by rw [kn 0 (by decide)]; exact hw0
                have hnC : nC (stk G m) t w ≤ N := by
                  unfold nC
                  rw [t0, t4, kn 4 (by decide)]
                  split
                  · rename_i h5; rw [if_pos ⟨h5, he24⟩] at hN; exact hN
                  · omega
                have ht0 : t 0 ≠ 0 := by omega
                clear hR hX hMi
                have hR : XE (vZ F.1) h2 t G S := ⟨r, hX2⟩
                refine ws_aload_n C d_X_deliver_91 rfl ?_
                refine wx_getP C hR 194 0 (h2 1 0) d_X_deliver_92 f_X_24 rfl rfl (dpX (by decide)) rfl ?_
                refine ws_iload_n C d_X_deliver_95 rfl ?_
                refine ws_callVr C w_X_130 (As := [_]) (c_AL_remove hX2 hO hm) d_X_deliver_96 rfl rfl (hX2.1.1 1 0 dk1) (Nat.le_of_ble_eq_true rfl) (by decide) (by omega) (by omega) (fun S hR => ?_)
                refine ws_pop C d_X_deliver_99 rfl ?_
                refine ws_aload_n C d_X_deliver_100 rfl ?_
                refine ws_aload C d_X_deliver_101 rfl ?_
                refine ws_aload C d_X_deliver_103 rfl ?_
                refine ws_callVv C w_X_133 (As := [_, _]) (c_X_receive_n hR hO2 hW2 hw3 (by omega) (by rw [kn 0 (by decide), t1, hm1]; exact hv0) (by rw [kn 4 (by decide), t1, t4, hm1]; exact p1) (by rw [kn 2 (by decide)]; exact hr2) (by rw [kn 4 (by decide)]; exact p2) (by omega) (by rw [stk_20]; omega)) d_X_deliver_105 rfl rfl (XE.k hR (dk6)) (Nat.le_of_ble_eq_true rfl) (by decide) (by omega) (by omega) (fun S hR => ?_)
                refine ws_aload C d_X_deliver_108 rfl ?_
                have hH := XE.hnd hR ht0
                obtain ⟨uH, hH⟩ := hH
                refine wx_msI C d_X_deliver_110 f_X_127 rfl rfl hH.1 hH.2.1 ?_
                clear hH
                exact ws_iret C R d_X_deliver_113 rfl (by omega) (by omega) ⟨by rw [hs, t0], by rw [hs]; rw [t1, t4, t5, hm1] at hR; exact hR.out⟩
              · have hs : dlvF G (nI v) (nI w) = (-2, G) := by rw [hs0, hdl, if_pos (by omega)]
                refine ws_bipush C (-2) d_X_deliver_88 (by decide) ?_
                exact ws_iret C R d_X_deliver_90 rfl (by omega) (by omega) ⟨by rw [hs], by rw [hs]; exact hR.out⟩
    · have hs : dlvF G v w = (-1, G) := by rw [dlvF, if_neg (by simp [hwI])]
      have hwF : inN w 5 = false := Bool.eq_false_iff.mpr hwI
      refine ws_iload_n C d_X_deliver_0 rfl ?_
      refine ws_callSi C w_X_74 (As := [_]) (c_X_isNodeNumber (P := fun S' => S = S') rfl v) d_X_deliver_1 rfl rfl (Nat.le_of_ble_eq_true rfl) (by decide) (by omega) (by omega) (fun S' hS' => ?_)
      subst hS'
      refine ws_if_eqB C d_X_deliver_4 (fun z => Bool.noConfusion (hvI.symm.trans z)) (fun _ => ?_)
      refine ws_iload_n C d_X_deliver_7 rfl ?_
      refine ws_callSi C w_X_74 (As := [_]) (c_X_isNodeNumber (P := fun S' => S = S') rfl w) d_X_deliver_8 rfl rfl (Nat.le_of_ble_eq_true rfl) (by decide) (by omega) (by omega) (fun S' hS' => ?_)
      subst hS'
      refine ws_if_neB C d_X_deliver_11 (fun z => Bool.noConfusion (hwF.symm.trans z)) (fun _ => ?_)
      refine ws_iconst C (-1) d_X_deliver_14 (by decide) ?_
      exact ws_iret C R d_X_deliver_15 rfl (by omega) (by omega) ⟨by rw [hs], by rw [hs]; exact hR.out⟩
  · have hs : dlvF G v w = (-1, G) := by rw [dlvF, if_neg (by simp [hvI])]
    have hvF : inN v 5 = false := Bool.eq_false_iff.mpr hvI
    refine ws_iload_n C d_X_deliver_0 rfl ?_
    refine ws_callSi C w_X_74 (As := [_]) (c_X_isNodeNumber (P := fun S' => S = S') rfl v) d_X_deliver_1 rfl rfl (Nat.le_of_ble_eq_true rfl) (by decide) (by omega) (by omega) (fun S' hS' => ?_)
    subst hS'
    refine ws_if_eqB C d_X_deliver_4 (fun _ => ?_) (fun z => Bool.noConfusion (hvF.symm.trans z))
    refine ws_iconst C (-1) d_X_deliver_14 (by decide) ?_
    exact ws_iret C R d_X_deliver_15 rfl (by omega) (by omega) ⟨by rw [hs], by rw [hs]; exact hR.out⟩
