/-! the reference: members of configurations, logs, messages -/
set_option maxHeartbeats 4000000 in
set_option maxRecDepth 100000 in
theorem c_M_successor {V : Ev} {o : Nat} {ad : Nat → Nat} {G : GS} {S : Sto} (hR : MR o ad G S) (hO : OK G) {v : Nat} (hv : v ≤ 5) : CT V mi_M_successor 0 0 [.ref o, .int (nI v)] S (Pi (oI (suc G v)) (MR o ad G)) := by
  refine CT.of (cc := prog_8_method_5_code) (own := "ChainVersionsModel") (nL := 3) (d := 1) (by decide) rfl rfl rfl rfl (by simp [Value.category]) (Nat.le_of_ble_eq_true rfl) rfl ?_
  intro F hV hn C R
  subst hV
  have hb3 : G.1 3 v ≤ 12 := hO 3 v
  refine ws_iload_n C d_M_successor_0 rfl ?_
  refine ws_iconst C (nI 1) d_M_successor_1 (by decide) ?_
  refine ws_iaddN C d_M_successor_2 ?_
  refine ws_istore_n C d_M_successor_3 (by rw [hn]; decide) ?_
  suffices hL : ∀ n, n ≤ 5 → sucF G (G.1 3 v) n = suc G v → ∀ S : Sto, MR o ad G S → WS F 4 [some (.ref o), some (.int (nI v)), some (.int (nI (6 - n)))] [] S 0 0 from by
    have h6 : v + 1 = 6 - (5 - v) := by omega
    rw [h6]
    exact hL (5 - v) (by omega) rfl S hR
  intro n
  induction n with
  | zero =>
    intro _ hp S hR
    refine ws_iload_n C d_M_successor_4 rfl ?_
    refine ws_bipush C (nI 6) d_M_successor_5 (by decide) ?_
    refine ws_icmp_geN C d_M_successor_7 (by omega) (by omega) (fun h7 => ?_) (fun h7 => ?_)
    · refine ws_iconst C (-1) d_M_successor_32 (by decide) ?_
      exact ws_iret C R d_M_successor_33 rfl (by decide) (by decide) ⟨by rw [← hp]; rfl, hR⟩
    · omega
  | succ n ih =>
    intro hn5 hp S hR
    have e5 : 6 - (n + 1) = 5 - n := by omega
    rw [e5]
    refine ws_iload_n C d_M_successor_4 rfl ?_
    refine ws_bipush C (nI 6) d_M_successor_5 (by decide) ?_
    refine ws_icmp_geN C d_M_successor_7 (by omega) (by omega) (fun h7 => ?_) (fun h7 => ?_)
    · omega
    · refine ws_aload_n C d_M_successor_10 rfl ?_
      refine ws_aload_n C d_M_successor_11 rfl ?_
      refine wm_arr C hR 3 d_M_successor_12 f_M_16 rfl rfl rfl ?_
      refine ws_iload_n C d_M_successor_15 rfl ?_
      refine wm_aldN C hR 3 d_M_successor_16 rfl rfl (by decide) (show _ < 6 by omega) ?_
      refine ws_iload_n C d_M_successor_17 rfl ?_
      refine ws_callVi C w_M_90 (As := [_, _]) (c_M_isIn hR hO (by omega) (by omega)) d_M_successor_18 rfl rfl hR.1 (Nat.le_of_ble_eq_true rfl) (by decide) (by decide) (by decide) (fun S hR => ?_)
      refine ws_if_eqB C d_M_successor_21 (fun h21 => ?_) (fun h21 => ?_)
      · refine ws_iinc C _ d_M_successor_26 rfl (inc1 _) (by rw [hn]; decide) ?_
        refine ws_goto C d_M_successor_29 ?_
        rw [show 5 - n + 1 = 6 - n by omega]
        exact ih (by omega) (by rw [← hp, sucF, if_neg (by rw [h21]; decide)]) S hR
      · refine ws_iload_n C d_M_successor_24 rfl ?_
        exact ws_iret C R d_M_successor_25 rfl (by decide) (by decide) ⟨by rw [← hp, sucF, if_pos h21]; rfl, hR⟩
set_option maxHeartbeats 4000000 in
set_option maxRecDepth 100000 in
theorem c_M_tailOf {V : Ev} {o : Nat} {ad : Nat → Nat} {G : GS} {S : Sto} (hR : MR o ad G S) (hO : OK G) {e : Nat} (he : e ≤ 13) : CT V mi_M_tailOf 0 0 [.ref o, .int (nI e)] S (Pi (oI (tlo G e)) (MR o ad G)) := by
  refine CT.of (cc := prog_8_method_6_code) (own := "ChainVersionsModel") (nL := 4) (d := 1) (by decide) rfl rfl rfl rfl (by simp [Value.category]) (Nat.le_of_ble_eq_true rfl) rfl ?_
  intro F hV hn C R
  subst hV
  refine ws_iconst C (-1) d_M_tailOf_0 (by decide) ?_
  refine ws_istore_n C d_M_tailOf_1 (by rw [hn]; decide) ?_
  refine ws_iconst C (nI 0) d_M_tailOf_2 (by decide) ?_
  refine ws_istore_n C d_M_tailOf_3 (by rw [hn]; decide) ?_
  suffices hL : ∀ n w, w + n = 6 → ∀ S : Sto, MR o ad G S → WS F 4 [some (.ref o), some (.int (nI e)), some (.int (oI (prdF G e w))), some (.int (nI w))] [] S 0 0 from hL 6 0 rfl S hR
  intro n
  induction n with
  | zero =>
    intro w hw S hR
    have hw : w = 6 := by omega
    subst hw
    refine ws_iload_n C d_M_tailOf_4 rfl ?_
    refine ws_bipush C (nI 6) d_M_tailOf_5 (by decide) ?_
    refine ws_icmp_geN C d_M_tailOf_7 (by omega) (by omega) (fun h7 => ?_) (fun h7 => ?_)
    · refine ws_iload_n C d_M_tailOf_31 rfl ?_
      exact ws_iret C R d_M_tailOf_32 rfl (by decide) (by decide) ⟨rfl, hR⟩
    · omega
  | succ n ih =>
    intro w hw S hR
    refine ws_iload_n C d_M_tailOf_4 rfl ?_
    refine ws_bipush C (nI 6) d_M_tailOf_5 (by decide) ?_
    refine ws_icmp_geN C d_M_tailOf_7 (by omega) (by omega) (fun h7 => ?_) (fun h7 => ?_)
    · omega
    · refine ws_aload_n C d_M_tailOf_10 rfl ?_
      refine ws_iload_n C d_M_tailOf_11 rfl ?_
      refine ws_iload_n C d_M_tailOf_12 rfl ?_
      refine ws_callVi C w_M_90 (As := [_, _]) (c_M_isIn hR hO (by omega) (by omega)) d_M_tailOf_13 rfl rfl hR.1 (Nat.le_of_ble_eq_true rfl) (by decide) (by decide) (by decide) (fun S hR => ?_)
      refine ws_if_eqB C d_M_tailOf_16 (fun h16 => ?_) (fun h16 => ?_)
      · refine ws_iload_n C d_M_tailOf_23 rfl ?_
        refine ws_istore_n C d_M_tailOf_24 (by rw [hn]; decide) ?_
        refine ws_iinc C _ d_M_tailOf_25 rfl (inc1 _) (by rw [hn]; decide) ?_
        refine ws_goto C d_M_tailOf_28 ?_
        have hq : prdF G e (w + 1) = prdF G e w := by rw [prdF, if_neg (by rw [h16]; decide)]
        have hi := ih (w + 1) (by omega) S hR
        rw [hq] at hi
        exact hi
      · refine ws_iload_n C d_M_tailOf_19 rfl ?_
        refine ws_goto C d_M_tailOf_20 ?_
        refine ws_istore_n C d_M_tailOf_24 (by rw [hn]; decide) ?_
        refine ws_iinc C _ d_M_tailOf_25 rfl (inc1 _) (by rw [hn]; decide) ?_
        refine ws_goto C d_M_tailOf_28 ?_
        have hq : prdF G e (w + 1) = some w := by rw [prdF, if_pos h16]
        have hi := ih (w + 1) (by omega) S hR
        rw [hq] at hi
        exact hi
theorem inN_of {x : Int32} {n : Nat} (h : inN x n = true) (hn : n < 2 ^ 31) : ∃ j, j ≤ n ∧ x = nI j := by
  simp only [inN, decide_eq_true_eq] at h
  exact nI_of2 (nI_toInt hn) h.1 (Int32.not_lt.mp h.2)
set_option maxHeartbeats 4000000 in
set_option maxRecDepth 100000 in
theorem c_M_serves {V : Ev} {o : Nat} {ad : Nat → Nat} {G : GS} {S : Sto} (hR : MR o ad G S) (hO : OK G) (x : Int32) : CT V mi_M_serves 0 0 [.ref o, .int x] S (Pi (bI (svs G x)) (MR o ad G)) := by
  refine CT.of (cc := prog_8_method_7_code) (own := "ChainVersionsModel") (nL := 2) (d := 1) (by decide) rfl rfl rfl rfl (by simp [Value.category]) (Nat.le_of_ble_eq_true rfl) rfl ?_
  intro F hV hn C R
  subst hV
  refine ws_iload_n C d_M_serves_0 rfl ?_
  refine ws_iconst C (nI 5) d_M_serves_1 (by decide) ?_
  refine ws_callSi C w_M_94 (As := [_, _]) (c_M_outside hR _ 5) d_M_serves_2 rfl rfl (Nat.le_of_ble_eq_true rfl) (by decide) (by decide) (by decide) (fun S hR => ?_)
  refine ws_if_neB C d_M_serves_5 (fun h5 => ?_) (fun h5 => ?_)
  · refine ws_iconst C (nI 0) d_M_serves_30 (by decide) ?_
    exact ws_zret C R d_M_serves_31 rfl (by decide) (by decide) (by decide) ⟨by simp [svs, bI, nI_0, (show inN x 5 = false by simpa using h5)], hR⟩
  · have h5 : inN x 5 = true := by simpa using h5
    obtain ⟨j, hj, rfl⟩ := inN_of h5 (by decide)
    have hb1 : G.1 1 j ≤ 1 := hO 1 j
    have hb2 : G.1 2 j ≤ 1 := hO 2 j
    have hx1 : ix (nI j) = j := nI_clamp (by omega)
    refine ws_aload_n C d_M_serves_8 rfl ?_
    refine wm_arr C hR 1 d_M_serves_9 f_M_7 rfl rfl rfl ?_
    refine ws_iload_n C d_M_serves_12 rfl ?_
    refine wm_zldN C hR 1 d_M_serves_13 rfl rfl (by decide) (show _ < 6 by omega) ?_
    refine ws_if_eqN C d_M_serves_14 (by omega) (fun h14 => ?_) (fun h14 => ?_)
    · refine ws_iconst C (nI 0) d_M_serves_30 (by decide) ?_
      exact ws_zret C R d_M_serves_31 rfl (by decide) (by decide) (by decide) ⟨by simp only [svs, hx1, h5]; simp [bI, nI_0, nI_one]; try omega, hR⟩
    · refine ws_aload_n C d_M_serves_17 rfl ?_
      refine wm_arr C hR 2 d_M_serves_18 f_M_13 rfl rfl rfl ?_
      refine ws_iload_n C d_M_serves_21 rfl ?_
      refine wm_zldN C hR 2 d_M_serves_22 rfl rfl (by decide) (show _ < 6 by omega) ?_
      refine ws_if_eqN C d_M_serves_23 (by omega) (fun h23 => ?_) (fun h23 => ?_)
      · refine ws_iconst C (nI 0) d_M_serves_30 (by decide) ?_
        exact ws_zret C R d_M_serves_31 rfl (by decide) (by decide) (by decide) ⟨by simp only [svs, hx1, h5]; simp [bI, nI_0, nI_one]; try omega, hR⟩
      · refine ws_iconst C (nI 1) d_M_serves_26 (by decide) ?_
        refine ws_goto C d_M_serves_27 ?_
        exact ws_zret C R d_M_serves_31 rfl (by decide) (by decide) (by decide) ⟨by simp only [svs, hx1, h5]; simp [bI, nI_0, nI_one]; try omega, hR⟩
set_option maxHeartbeats 4000000 in
set_option maxRecDepth 100000 in
theorem c_M_isClean {V : Ev} {o : Nat} {ad : Nat → Nat} {G : GS} {S : Sto} (hR : MR o ad G S) (hO : OK G) {v k : Nat} (hv : v ≤ 5) (hk : k ≤ 3) : CT V mi_M_isClean 0 0 [.ref o, .int (nI v), .int (nI k)] S (Pi (bI (isCl G v k)) (MR o ad G)) := by
  refine CT.of (cc := prog_8_method_8_code) (own := "ChainVersionsModel") (nL := 4) (d := 0) (by decide) rfl rfl rfl rfl (by simp [Value.category]) (Nat.le_of_ble_eq_true rfl) rfl ?_
  intro F hV hn C R
  subst hV
  have hb4 : G.1 4 v ≤ 100 := hO 4 v
  have hb5 : G.1 5 v ≤ 100 := hO 5 v
  refine ws_aload_n C d_M_isClean_0 rfl ?_
  refine wm_arr C hR 5 d_M_isClean_1 f_M_23 rfl rfl rfl ?_
  refine ws_iload_n C d_M_isClean_4 rfl ?_
  refine wm_aldN C hR 5 d_M_isClean_5 rfl rfl (by decide) (show _ < 6 by first | omega | exact okl hO _ _) ?_
  refine ws_iconst C (nI 1) d_M_isClean_6 (by decide) ?_
  refine ws_iaddN C d_M_isClean_7 ?_
  refine ws_istore_n C d_M_isClean_8 (by rw [hn]; decide) ?_
  suffices hL : ∀ n i, n = G.1 4 v + 1 - i → 1 ≤ i → i ≤ 200 → clF G v k n i = isCl G v k → ∀ S : Sto, MR o ad G S → WS F 9 [some (.ref o), some (.int (nI v)), some (.int (nI k)), some (.int (nI i))] [] S 0 0 from hL _ (G.1 5 v + 1) rfl (by omega) (by omega) (by rw [isCl, Nat.add_sub_add_right]) S hR
  intro n
  induction n with
  | zero =>
    intro i hi h1 h2 hp S hR
    refine ws_iload_n C d_M_isClean_9 rfl ?_
    refine ws_aload_n C d_M_isClean_10 rfl ?_
    refine wm_arr C hR 4 d_M_isClean_11 f_M_20 rfl rfl rfl ?_
    refine ws_iload_n C d_M_isClean_14 rfl ?_
    refine wm_aldN C hR 4 d_M_isClean_15 rfl rfl (by decide) (show _ < 6 by first | omega | exact okl hO _ _) ?_
    refine ws_icmp_gtN C d_M_isClean_16 (by first | omega | exact okl hO _ _) (by first | omega | exact okl hO _ _) (fun h16 => ?_) (fun h16 => ?_)
    · refine ws_iconst C (nI 1) d_M_isClean_43 (by decide) ?_
      exact ws_zret C R d_M_isClean_44 rfl (by decide) (by decide) (by decide) ⟨by rw [← hp]; rfl, hR⟩
    · omega
  | succ n ih =>
    intro i hi h1 h2 hp S hR
    refine ws_iload_n C d_M_isClean_9 rfl ?_
    refine ws_aload_n C d_M_isClean_10 rfl ?_
    refine wm_arr C hR 4 d_M_isClean_11 f_M_20 rfl rfl rfl ?_
    refine ws_iload_n C d_M_isClean_14 rfl ?_
    refine wm_aldN C hR 4 d_M_isClean_15 rfl rfl (by decide) (show _ < 6 by first | omega | exact okl hO _ _) ?_
    refine ws_icmp_gtN C d_M_isClean_16 (by first | omega | exact okl hO _ _) (by first | omega | exact okl hO _ _) (fun h16 => ?_) (fun h16 => ?_)
    · omega
    · refine ws_aload_n C d_M_isClean_19 rfl ?_
      refine wm_arr C hR 9 d_M_isClean_20 f_M_32 rfl rfl rfl ?_
      refine ws_sipush C (nI 128) d_M_isClean_23 (by decide) ?_
      refine ws_iload_n C d_M_isClean_26 rfl ?_
      refine ws_imulN C d_M_isClean_27 ?_
      refine ws_iload_n C d_M_isClean_28 rfl ?_
      refine ws_iaddN C d_M_isClean_29 ?_
      refine wm_aldN C hR 9 d_M_isClean_30 rfl rfl (by decide) (show _ < 768 by first | omega | exact okl hO _ _) ?_
      refine ws_iload_n C d_M_isClean_31 rfl ?_
      refine ws_icmp_neN C d_M_isClean_32 (by first | omega | exact okl hO _ _) (by first | omega | exact okl hO _ _) (fun h32 => ?_) (fun h32 => ?_)
      · refine ws_iinc C _ d_M_isClean_37 rfl (inc1 _) (by rw [hn]; decide) ?_
        refine ws_goto C d_M_isClean_40 ?_
        exact ih (i + 1) (by omega) (by omega) (by omega) (by rw [← hp, clF, if_neg h32]) S hR
      · refine ws_iconst C (nI 0) d_M_isClean_35 (by decide) ?_
        exact ws_zret C R d_M_isClean_36 rfl (by decide) (by decide) (by decide) ⟨by rw [← hp, clF, if_pos h32]; rfl, hR⟩
set_option maxHeartbeats 4000000 in
set_option maxRecDepth 100000 in
theorem c_M_cleanNumber {V : Ev} {o : Nat} {ad : Nat → Nat} {G : GS} {S : Sto} (hR : MR o ad G S) (hO : OK G) {v k : Nat} (hv : v ≤ 5) (hk : k ≤ 3) : CT V mi_M_cleanNumber 0 0 [.ref o, .int (nI v), .int (nI k)] S (Pi (nI (clN G v k)) (MR o ad G)) := by
  refine CT.of (cc := prog_8_method_9_code) (own := "ChainVersionsModel") (nL := 4) (d := 0) (by decide) rfl rfl rfl rfl (by simp [Value.category]) (Nat.le_of_ble_eq_true rfl) rfl ?_
  intro F hV hn C R
  subst hV
  have hb4 : G.1 4 v ≤ 100 := hO 4 v
  have hb5 : G.1 5 v ≤ 100 := hO 5 v
  refine ws_aload_n C d_M_cleanNumber_0 rfl ?_
  refine wm_arr C hR 5 d_M_cleanNumber_1 f_M_23 rfl rfl rfl ?_
  refine ws_iload_n C d_M_cleanNumber_4 rfl ?_
  refine wm_aldN C hR 5 d_M_cleanNumber_5 rfl rfl (by decide) (show _ < 6 by first | omega | exact okl hO _ _) ?_
  refine ws_istore_n C d_M_cleanNumber_6 (by rw [hn]; decide) ?_
  suffices hL : ∀ i, i ≤ 100 → cnF G v k i = clN G v k → ∀ S : Sto, MR o ad G S → WS F 7 [some (.ref o), some (.int (nI v)), some (.int (nI k)), some (.int (nI i))] [] S 0 0 from hL _ hb5 rfl S hR
  intro i
  induction i with
  | zero =>
    intro hi hp S hR
    refine ws_iload_n C d_M_cleanNumber_7 rfl ?_
    refine ws_if_leN C d_M_cleanNumber_8 (by first | omega | exact okl hO _ _) (fun h8 => ?_) (fun h8 => ?_)
    · refine ws_iconst C (nI 0) d_M_cleanNumber_35 (by decide) ?_
      exact ws_iret C R d_M_cleanNumber_36 rfl (by decide) (by decide) ⟨by rw [← hp]; rfl, hR⟩
    · omega
  | succ i ih =>
    intro hi hp S hR
    refine ws_iload_n C d_M_cleanNumber_7 rfl ?_
    refine ws_if_leN C d_M_cleanNumber_8 (by first | omega | exact okl hO _ _) (fun h8 => ?_) (fun h8 => ?_)
    · omega
    · refine ws_aload_n C d_M_cleanNumber_11 rfl ?_
      refine wm_arr C hR 9 d_M_cleanNumber_12 f_M_32 rfl rfl rfl ?_
      refine ws_sipush C (nI 128) d_M_cleanNumber_15 (by decide) ?_
      refine ws_iload_n C d_M_cleanNumber_18 rfl ?_
      refine ws_imulN C d_M_cleanNumber_19 ?_
      refine ws_iload_n C d_M_cleanNumber_20 rfl ?_
      refine ws_iaddN C d_M_cleanNumber_21 ?_
      refine wm_aldN C hR 9 d_M_cleanNumber_22 rfl rfl (by decide) (show _ < 768 by first | omega | exact okl hO _ _) ?_
      refine ws_iload_n C d_M_cleanNumber_23 rfl ?_
      refine ws_icmp_neN C d_M_cleanNumber_24 (by first | omega | exact okl hO _ _) (by first | omega | exact okl hO _ _) (fun h24 => ?_) (fun h24 => ?_)
      · refine ws_iinc C _ d_M_cleanNumber_29 rfl (dec1 (by first | omega | exact okl hO _ _)) (by rw [hn]; decide) ?_
        refine ws_goto C d_M_cleanNumber_32 ?_
        exact ih (by omega) (by rw [← hp, cnF, if_neg h24]) S hR
      · refine ws_iload_n C d_M_cleanNumber_27 rfl ?_
        exact ws_iret C R d_M_cleanNumber_28 rfl (by decide) (by decide) ⟨by rw [← hp, cnF, if_pos h24], hR⟩
set_option maxHeartbeats 4000000 in
set_option maxRecDepth 100000 in
theorem c_M_valueAt {V : Ev} {o : Nat} {ad : Nat → Nat} {G : GS} {S : Sto} (hR : MR o ad G S) (hO : OK G) {v i : Nat} (hv : v ≤ 5) (hi : i ≤ 100) : CT V mi_M_valueAt 0 0 [.ref o, .int (nI v), .int (nI i)] S (Pi (valAt G v i) (MR o ad G)) := by
  refine CT.of (cc := prog_8_method_10_code) (own := "ChainVersionsModel") (nL := 3) (d := 0) (by decide) rfl rfl rfl rfl (by simp [Value.category]) (Nat.le_of_ble_eq_true rfl) rfl ?_
  intro F hV hn C R
  subst hV
  refine ws_iload_n C d_M_valueAt_0 rfl ?_
  refine ws_if_neN C d_M_valueAt_1 (by omega) (fun h1 => ?_) (fun h1 => ?_)
  · refine ws_aload_n C d_M_valueAt_8 rfl ?_
    refine wm_arr C hR 10 d_M_valueAt_9 f_M_35 rfl rfl rfl ?_
    refine ws_sipush C (nI 128) d_M_valueAt_12 (by decide) ?_
    refine ws_iload_n C d_M_valueAt_15 rfl ?_
    refine ws_imulN C d_M_valueAt_16 ?_
    refine ws_iload_n C d_M_valueAt_17 rfl ?_
    refine ws_iaddN C d_M_valueAt_18 ?_
    refine wm_aldV C hR 10 d_M_valueAt_19 rfl rfl (by decide) (show _ < 768 by omega) ?_
    exact ws_iret C R d_M_valueAt_20 rfl (by decide) (by decide) ⟨by rw [valAt, if_neg h1], hR⟩
  · refine ws_iconst C (nI 0) d_M_valueAt_4 (by decide) ?_
    refine ws_goto C d_M_valueAt_5 ?_
    exact ws_iret C R d_M_valueAt_20 rfl (by decide) (by decide) ⟨by rw [valAt, if_pos h1]; rfl, hR⟩
set_option maxHeartbeats 4000000 in
set_option maxRecDepth 100000 in
theorem c_M_send {V : Ev} {o : Nat} {ad : Nat → Nat} {G : GS} {S : Sto} (hR : MR o ad G S) (hO : OK G) {v k a b : Nat} {w : Option Nat} (hv : v ≤ 5) (hw : ∀ x, w = some x → x ≤ 5) : CT V mi_M_send 0 0 [.ref o, .int (nI v), .int (oI w), .int (nI k), .int (nI a), .int (nI b)] S (Pv (MR o ad (snd G v w k a b))) := by
  refine CT.of (cc := prog_8_method_11_code) (own := "ChainVersionsModel") (nL := 6) (d := 0) (by decide) rfl rfl rfl rfl (by simp [Value.category]) (Nat.le_of_ble_eq_true rfl) rfl ?_
  intro F hV hn C R
  subst hV
  have hb20 : G.1 20 0 ≤ 1399 := hO 20 0
  cases w with
  | none =>
    refine ws_iload_n C d_M_send_0 rfl ?_
    refine ws_if_ltM C d_M_send_1 ?_
    exact ws_vret C R d_M_send_28 rfl (by decide) (by decide) ⟨rfl, hR⟩
  | some w =>
    have hw := hw w rfl
    have hb1 : G.1 1 w ≤ 1 := hO 1 w
    refine ws_iload_n C d_M_send_0 rfl ?_
    refine ws_if_ltN C d_M_send_1 (by first | omega | exact okl hO _ _) ?_
    refine ws_aload_n C d_M_send_4 rfl ?_
    refine wm_arr C hR 1 d_M_send_5 f_M_7 rfl rfl rfl ?_
    refine ws_iload_n C d_M_send_8 rfl ?_
    refine wm_zldN C hR 1 d_M_send_9 rfl rfl (by decide) (show _ < 6 by first | omega | exact okl hO _ _) ?_
    refine ws_if_eqN C d_M_send_10 (by first | omega | exact okl hO _ _) (fun h10 => ?_) (fun h10 => ?_)
    · exact ws_vret C R d_M_send_28 rfl (by decide) (by decide) ⟨rfl, by rw [snd]; rw [if_pos (by omega)]; exact hR⟩
    · refine ws_aload_n C d_M_send_13 rfl ?_
      refine wm_arr C hR 3 d_M_send_14 f_M_16 rfl rfl rfl ?_
      refine ws_iload_n C d_M_send_17 rfl ?_
      refine wm_aldN C hR 3 d_M_send_18 rfl rfl (by decide) (show _ < 6 by first | omega | exact okl hO _ _) ?_
      refine ws_aload_n C d_M_send_19 rfl ?_
      refine wm_arr C hR 3 d_M_send_20 f_M_16 rfl rfl rfl ?_
      refine ws_iload_n C d_M_send_23 rfl ?_
      refine wm_aldN C hR 3 d_M_send_24 rfl rfl (by decide) (show _ < 6 by first | omega | exact okl hO _ _) ?_
      refine ws_icmp_leN C d_M_send_25 (by first | omega | exact okl hO _ _) (by first | omega | exact okl hO _ _) (fun h25 => ?_) (fun h25 => ?_)
      · refine ws_aload_n C d_M_send_29 rfl ?_
        refine wm_arr C hR 21 d_M_send_30 f_M_65 rfl rfl rfl ?_
        refine ws_aload_n C d_M_send_33 rfl ?_
        refine wm_20 C hR d_M_send_34 f_M_97 ?_
        refine ws_iload_n C d_M_send_37 rfl ?_
        refine wm_astN C hR 21 d_M_send_38 rfl rfl (by decide) (show _ < 1400 by first | omega | exact okl hO _ _) (fun S hR => ?_)
        refine ws_aload_n C d_M_send_39 rfl ?_
        refine wm_arr C hR 22 d_M_send_40 f_M_68 rfl rfl rfl ?_
        refine ws_aload_n C d_M_send_43 rfl ?_
        refine wm_20 C hR d_M_send_44 f_M_97 ?_
        refine ws_top (nI (G.1 20 0)) (by simp [gN_1, gN_2, gV_1, gV_2]) ?_
        refine ws_iload_n C d_M_send_47 rfl ?_
        refine wm_astN C hR 22 d_M_send_48 rfl rfl (by decide) (show _ < 1400 by first | omega | exact okl hO _ _) (fun S hR => ?_)
        refine ws_aload_n C d_M_send_49 rfl ?_
        refine wm_arr C hR 23 d_M_send_50 f_M_71 rfl rfl rfl ?_
        refine ws_aload_n C d_M_send_53 rfl ?_
        refine wm_20 C hR d_M_send_54 f_M_97 ?_
        refine ws_top (nI (G.1 20 0)) (by simp [gN_1, gN_2, gV_1, gV_2]) ?_
        refine ws_iload_n C d_M_send_57 rfl ?_
        refine wm_astN C hR 23 d_M_send_58 rfl rfl (by decide) (show _ < 1400 by first | omega | exact okl hO _ _) (fun S hR => ?_)
        refine ws_aload_n C d_M_send_59 rfl ?_
        refine wm_arr C hR 24 d_M_send_60 f_M_74 rfl rfl rfl ?_
        refine ws_aload_n C d_M_send_63 rfl ?_
        refine wm_20 C hR d_M_send_64 f_M_97 ?_
        refine ws_top (nI (G.1 20 0)) (by simp [gN_1, gN_2, gV_1, gV_2]) ?_
        refine ws_aload_n C d_M_send_67 rfl ?_
        refine wm_arr C hR 3 d_M_send_68 f_M_16 rfl rfl rfl ?_
        refine ws_iload_n C d_M_send_71 rfl ?_
        refine wm_aldN C hR 3 d_M_send_72 rfl rfl (by decide) (show _ < 6 by first | omega | exact okl hO _ _) ?_
        refine ws_top (nI (G.1 3 v)) (by simp [gN_1, gN_2, gV_1, gV_2]) ?_
        refine wm_astN C hR 24 d_M_send_73 rfl rfl (by decide) (show _ < 1400 by first | omega | exact okl hO _ _) (fun S hR => ?_)
        refine ws_aload_n C d_M_send_74 rfl ?_
        refine wm_arr C hR 25 d_M_send_75 f_M_77 rfl rfl rfl ?_
        refine ws_aload_n C d_M_send_78 rfl ?_
        refine wm_20 C hR d_M_send_79 f_M_97 ?_
        refine ws_top (nI (G.1 20 0)) (by simp [gN_1, gN_2, gV_1, gV_2]) ?_
        refine ws_iload C d_M_send_82 rfl ?_
        refine wm_astN C hR 25 d_M_send_84 rfl rfl (by decide) (show _ < 1400 by first | omega | exact okl hO _ _) (fun S hR => ?_)
        refine ws_aload_n C d_M_send_85 rfl ?_
        refine wm_arr C hR 26 d_M_send_86 f_M_80 rfl rfl rfl ?_
        refine ws_aload_n C d_M_send_89 rfl ?_
        refine wm_20 C hR d_M_send_90 f_M_97 ?_
        refine ws_top (nI (G.1 20 0)) (by simp [gN_1, gN_2, gV_1, gV_2]) ?_
        refine ws_iload C d_M_send_93 rfl ?_
        refine wm_astN C hR 26 d_M_send_95 rfl rfl (by decide) (show _ < 1400 by first | omega | exact okl hO _ _) (fun S hR => ?_)
        refine ws_aload_n C d_M_send_96 rfl ?_
        refine ws_dup C d_M_send_97 rfl ?_
        refine wm_20 C hR d_M_send_98 f_M_97 ?_
        refine ws_top (nI (G.1 20 0)) (by simp [gN_1, gN_2, gV_1, gV_2]) ?_
        refine ws_iconst C (nI 1) d_M_send_101 (by decide) ?_
        refine ws_iaddN C d_M_send_102 ?_
        refine wm_put C hR 20 (by decide) d_M_send_103 f_M_97 (fun S hR => ?_)
        exact ws_vret C R d_M_send_106 rfl (by decide) (by decide) ⟨rfl, by rw [snd]; rw [if_neg (by omega)]; exact hR⟩
      · exact ws_vret C R d_M_send_28 rfl (by decide) (by decide) ⟨rfl, by rw [snd]; rw [if_pos (by omega)]; exact hR⟩
set_option maxHeartbeats 4000000 in
set_option maxRecDepth 100000 in
theorem c_M_first {V : Ev} {o : Nat} {ad : Nat → Nat} {G : GS} {S : Sto} (hR : MR o ad G S) (hO : OK G) {v w : Nat} (hv : v ≤ 5) (hw : w ≤ 5) : CT V mi_M_first 0 0 [.ref o, .int (nI v), .int (nI w)] S (Pi (oI (frs G v w)) (MR o ad G)) := by
  refine CT.of (cc := prog_8_method_12_code) (own := "ChainVersionsModel") (nL := 4) (d := 0) (by decide) rfl rfl rfl rfl (by simp [Value.category]) (Nat.le_of_ble_eq_true rfl) rfl ?_
  intro F hV hn C R
  subst hV
  have hb20 : G.1 20 0 ≤ 1399 := hO 20 0
  refine ws_iconst C (nI 0) d_M_first_0 (by decide) ?_
  refine ws_istore_n C d_M_first_1 (by rw [hn]; decide) ?_
  suffices hL : ∀ n m, m + n = G.1 20 0 → frF G v w n = frs G v w → ∀ S : Sto, MR o ad G S → WS F 2 [some (.ref o), some (.int (nI v)), some (.int (nI w)), some (.int (nI m))] [] S 0 0 from hL _ 0 (by omega) rfl S hR
  intro n
  induction n with
  | zero =>
    intro m hm hp S hR
    refine ws_iload_n C d_M_first_2 rfl ?_
    refine ws_aload_n C d_M_first_3 rfl ?_
    refine wm_20 C hR d_M_first_4 f_M_97 ?_
    refine ws_icmp_geN C d_M_first_7 (by first | omega | exact okl hO _ _) (by first | omega | exact okl hO _ _) (fun h7 => ?_) (fun h7 => ?_)
    · refine ws_iconst C (-1) d_M_first_38 (by decide) ?_
      exact ws_iret C R d_M_first_39 rfl (by decide) (by decide) ⟨by rw [← hp]; rfl, hR⟩
    · omega
  | succ n ih =>
    intro m hm hp S hR
    have em : G.1 20 0 - (n + 1) = m := by omega
    rw [frF, em] at hp
    refine ws_iload_n C d_M_first_2 rfl ?_
    refine ws_aload_n C d_M_first_3 rfl ?_
    refine wm_20 C hR d_M_first_4 f_M_97 ?_
    refine ws_icmp_geN C d_M_first_7 (by first | omega | exact okl hO _ _) (by first | omega | exact okl hO _ _) (fun h7 => ?_) (fun h7 => ?_)
    · omega
    · refine ws_aload_n C d_M_first_10 rfl ?_
      refine wm_arr C hR 21 d_M_first_11 f_M_65 rfl rfl rfl ?_
      refine ws_iload_n C d_M_first_14 rfl ?_
      refine wm_aldN C hR 21 d_M_first_15 rfl rfl (by decide) (show _ < 1400 by first | omega | exact okl hO _ _) ?_
      refine ws_iload_n C d_M_first_16 rfl ?_
      refine ws_icmp_neN C d_M_first_17 (by first | omega | exact okl hO _ _) (by first | omega | exact okl hO _ _) (fun h17 => ?_) (fun h17 => ?_)
      · refine ws_iinc C _ d_M_first_32 rfl (inc1 _) (by rw [hn]; decide) ?_
        refine ws_goto C d_M_first_35 ?_
        exact ih (m + 1) (by omega) (by rw [← hp, if_neg (by omega)]) S hR
      · refine ws_aload_n C d_M_first_20 rfl ?_
        refine wm_arr C hR 22 d_M_first_21 f_M_68 rfl rfl rfl ?_
        refine ws_iload_n C d_M_first_24 rfl ?_
        refine wm_aldN C hR 22 d_M_first_25 rfl rfl (by decide) (show _ < 1400 by first | omega | exact okl hO _ _) ?_
        refine ws_iload_n C d_M_first_26 rfl ?_
        refine ws_icmp_neN C d_M_first_27 (by first | omega | exact okl hO _ _) (by first | omega | exact okl hO _ _) (fun h27 => ?_) (fun h27 => ?_)
        · refine ws_iinc C _ d_M_first_32 rfl (inc1 _) (by rw [hn]; decide) ?_
          refine ws_goto C d_M_first_35 ?_
          exact ih (m + 1) (by omega) (by rw [← hp, if_neg (by omega)]) S hR
        · refine ws_iload_n C d_M_first_30 rfl ?_
          exact ws_iret C R d_M_first_31 rfl (by decide) (by decide) ⟨by rw [← hp, if_pos ⟨h17, h27⟩]; rfl, hR⟩
