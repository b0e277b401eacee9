/-! the reference: its calls -/
set_option maxHeartbeats 4000000 in
set_option maxRecDepth 100000 in
theorem c_M_status {V : Ev} {o : Nat} {ad : Nat → Nat} {G : GS} {S : Sto} (hR : MR o ad G S) (hO : OK G) (c : Int32) : CT V mi_M_status 0 0 [.ref o, .int c] S (Pi (staF G c) (MR o ad G)) := by
  refine CT.of (cc := prog_8_method_27_code) (own := "ChainVersionsModel") (nL := 2) (d := 1) (by decide) rfl rfl rfl rfl (by simp [Value.category]) (Nat.le_of_ble_eq_true rfl) rfl ?_
  intro F hV hn C R
  subst hV
  refine ws_iload_n C d_M_status_0 rfl ?_
  refine ws_iconst C (nI 2) d_M_status_1 (by decide) ?_
  refine ws_callSi C w_M_94 (As := [_, _]) (c_M_outside hR c 2) d_M_status_2 rfl rfl (Nat.le_of_ble_eq_true rfl) (by decide) (by decide) (by decide) (fun S hR => ?_)
  refine ws_if_eqB C d_M_status_5 (fun h5 => ?_) (fun h5 => ?_)
  · have xc : inN c 2 = true := by simpa using h5
    obtain ⟨c, bc, rfl⟩ := inN_of xc (by decide)
    have ec : ix (nI c) = c := ix_n (by omega)
    refine ws_aload_n C d_M_status_12 rfl ?_
    refine wm_arr C hR 13 d_M_status_13 f_M_44 rfl rfl rfl ?_
    refine ws_iload_n C d_M_status_16 rfl ?_
    refine wm_aldN C hR 13 d_M_status_17 rfl rfl (by decide) (show _ < 3 by omega) ?_
    exact ws_iret C R d_M_status_18 rfl (by decide) (by decide) ⟨by simp [staF, xc, ec], hR⟩
  · have xc : inN c 2 = false := by simpa using h5
    refine ws_iconst C (-1) d_M_status_8 (by decide) ?_
    refine ws_goto C d_M_status_9 ?_
    exact ws_iret C R d_M_status_18 rfl (by decide) (by decide) ⟨by simp [staF, xc], hR⟩
set_option maxHeartbeats 4000000 in
set_option maxRecDepth 100000 in
theorem c_M_isDone {V : Ev} {o : Nat} {ad : Nat → Nat} {G : GS} {S : Sto} (hR : MR o ad G S) (hO : OK G) (c : Int32) : CT V mi_M_isDone 0 0 [.ref o, .int c] S (Pi (bI (dnB G c)) (MR o ad G)) := by
  refine CT.of (cc := prog_8_method_28_code) (own := "ChainVersionsModel") (nL := 2) (d := 1) (by decide) rfl rfl rfl rfl (by simp [Value.category]) (Nat.le_of_ble_eq_true rfl) rfl ?_
  intro F hV hn C R
  subst hV
  refine ws_iload_n C d_M_isDone_0 rfl ?_
  refine ws_iconst C (nI 2) d_M_isDone_1 (by decide) ?_
  refine ws_callSi C w_M_94 (As := [_, _]) (c_M_outside hR c 2) d_M_isDone_2 rfl rfl (Nat.le_of_ble_eq_true rfl) (by decide) (by decide) (by decide) (fun S hR => ?_)
  refine ws_if_neB C d_M_isDone_5 (fun h5 => ?_) (fun h5 => ?_)
  · have xc : inN c 2 = false := by simpa using h5
    refine ws_iconst C (nI 0) d_M_isDone_32 (by decide) ?_
    exact ws_zret C R d_M_isDone_33 rfl (by decide) (by decide) (by decide) ⟨by simp [dnB, bI, nI_0, nI_one, xc], hR⟩
  · have xc : inN c 2 = true := by simpa using h5
    obtain ⟨c, bc, rfl⟩ := inN_of xc (by decide)
    have ec : ix (nI c) = c := ix_n (by omega)
    refine ws_aload_n C d_M_isDone_8 rfl ?_
    refine wm_arr C hR 13 d_M_isDone_9 f_M_44 rfl rfl rfl ?_
    refine ws_iload_n C d_M_isDone_12 rfl ?_
    refine wm_aldN C hR 13 d_M_isDone_13 rfl rfl (by decide) (show _ < 3 by first | omega | exact okl hO _ _) ?_
    refine ws_iconst C (nI 2) d_M_isDone_14 (by decide) ?_
    refine ws_icmp_eqN C d_M_isDone_15 (by first | omega | exact okl hO _ _) (by first | omega | exact okl hO _ _) (fun h15 => ?_) (fun h15 => ?_)
    · refine ws_iconst C (nI 1) d_M_isDone_28 (by decide) ?_
      refine ws_goto C d_M_isDone_29 ?_
      exact ws_zret C R d_M_isDone_33 rfl (by decide) (by decide) (by decide) ⟨by simp [dnB, bI, nI_0, nI_one, xc, ec, *], hR⟩
    · refine ws_aload_n C d_M_isDone_18 rfl ?_
      refine wm_arr C hR 13 d_M_isDone_19 f_M_44 rfl rfl rfl ?_
      refine ws_iload_n C d_M_isDone_22 rfl ?_
      refine wm_aldN C hR 13 d_M_isDone_23 rfl rfl (by decide) (show _ < 3 by first | omega | exact okl hO _ _) ?_
      refine ws_iconst C (nI 4) d_M_isDone_24 (by decide) ?_
      refine ws_icmp_neN C d_M_isDone_25 (by first | omega | exact okl hO _ _) (by first | omega | exact okl hO _ _) (fun h25 => ?_) (fun h25 => ?_)
      · refine ws_iconst C (nI 0) d_M_isDone_32 (by decide) ?_
        exact ws_zret C R d_M_isDone_33 rfl (by decide) (by decide) (by decide) ⟨by simp [dnB, bI, nI_0, nI_one, xc, ec, *], hR⟩
      · refine ws_iconst C (nI 1) d_M_isDone_28 (by decide) ?_
        refine ws_goto C d_M_isDone_29 ?_
        exact ws_zret C R d_M_isDone_33 rfl (by decide) (by decide) (by decide) ⟨by simp [dnB, bI, nI_0, nI_one, xc, ec, *], hR⟩
theorem dnB_in {G : GS} {c : Int32} (h : dnB G c = true) : inN c 2 = true := by simp only [dnB, Bool.and_eq_true] at h; exact h.1
theorem svs_in {G : GS} {c : Int32} (h : svs G c = true) : inN c 5 = true := by simp only [svs, Bool.and_eq_true] at h; exact h.1
set_option maxHeartbeats 4000000 in
set_option maxRecDepth 100000 in
theorem c_M_number {V : Ev} {o : Nat} {ad : Nat → Nat} {G : GS} {S : Sto} (hR : MR o ad G S) (hO : OK G) (c : Int32) : CT V mi_M_number 0 0 [.ref o, .int c] S (Pi (numF G c) (MR o ad G)) := by
  refine CT.of (cc := prog_8_method_29_code) (own := "ChainVersionsModel") (nL := 2) (d := 2) (by decide) rfl rfl rfl rfl (by simp [Value.category]) (Nat.le_of_ble_eq_true rfl) rfl ?_
  intro F hV hn C R
  subst hV
  refine ws_aload_n C d_M_number_0 rfl ?_
  refine ws_iload_n C d_M_number_1 rfl ?_
  refine ws_callVi C w_M_154 (As := [_]) (c_M_isDone hR hO c) d_M_number_2 rfl rfl hR.1 (Nat.le_of_ble_eq_true rfl) (by decide) (by decide) (by decide) (fun S hR => ?_)
  refine ws_if_eqB C d_M_number_5 (fun h5 => ?_) (fun h5 => ?_)
  · refine ws_iconst C (-1) d_M_number_17 (by decide) ?_
    exact ws_iret C R d_M_number_18 rfl (by decide) (by decide) ⟨by simp [numF, h5, nI_0], hR⟩
  · obtain ⟨c, bc, rfl⟩ := inN_of (dnB_in h5) (by decide)
    have ec : ix (nI c) = c := ix_n (by omega)
    refine ws_aload_n C d_M_number_8 rfl ?_
    refine wm_arr C hR 18 d_M_number_9 f_M_59 rfl rfl rfl ?_
    refine ws_iload_n C d_M_number_12 rfl ?_
    refine wm_aldN C hR 18 d_M_number_13 rfl rfl (by decide) (show _ < 3 by omega) ?_
    refine ws_goto C d_M_number_14 ?_
    exact ws_iret C R d_M_number_18 rfl (by decide) (by decide) ⟨by simp [numF, h5, ec], hR⟩
set_option maxHeartbeats 4000000 in
set_option maxRecDepth 100000 in
theorem c_M_value {V : Ev} {o : Nat} {ad : Nat → Nat} {G : GS} {S : Sto} (hR : MR o ad G S) (hO : OK G) (c : Int32) : CT V mi_M_value 0 0 [.ref o, .int c] S (Pi (valF G c) (MR o ad G)) := by
  refine CT.of (cc := prog_8_method_30_code) (own := "ChainVersionsModel") (nL := 2) (d := 2) (by decide) rfl rfl rfl rfl (by simp [Value.category]) (Nat.le_of_ble_eq_true rfl) rfl ?_
  intro F hV hn C R
  subst hV
  refine ws_aload_n C d_M_value_0 rfl ?_
  refine ws_iload_n C d_M_value_1 rfl ?_
  refine ws_callVi C w_M_154 (As := [_]) (c_M_isDone hR hO c) d_M_value_2 rfl rfl hR.1 (Nat.le_of_ble_eq_true rfl) (by decide) (by decide) (by decide) (fun S hR => ?_)
  refine ws_if_eqB C d_M_value_5 (fun h5 => ?_) (fun h5 => ?_)
  · refine ws_iconst C (nI 0) d_M_value_17 (by decide) ?_
    exact ws_iret C R d_M_value_18 rfl (by decide) (by decide) ⟨by simp [valF, h5, nI_0], hR⟩
  · obtain ⟨c, bc, rfl⟩ := inN_of (dnB_in h5) (by decide)
    have ec : ix (nI c) = c := ix_n (by omega)
    refine ws_aload_n C d_M_value_8 rfl ?_
    refine wm_arr C hR 19 d_M_value_9 f_M_62 rfl rfl rfl ?_
    refine ws_iload_n C d_M_value_12 rfl ?_
    refine wm_aldV C hR 19 d_M_value_13 rfl rfl (by decide) (show _ < 3 by omega) ?_
    refine ws_goto C d_M_value_14 ?_
    exact ws_iret C R d_M_value_18 rfl (by decide) (by decide) ⟨by simp [valF, h5, ec], hR⟩
set_option maxHeartbeats 4000000 in
set_option maxRecDepth 100000 in
theorem c_M_length {V : Ev} {o : Nat} {ad : Nat → Nat} {G : GS} {S : Sto} (hR : MR o ad G S) (hO : OK G) (v : Int32) : CT V mi_M_length 0 0 [.ref o, .int v] S (Pi (lnF G v) (MR o ad G)) := by
  refine CT.of (cc := prog_8_method_39_code) (own := "ChainVersionsModel") (nL := 2) (d := 2) (by decide) rfl rfl rfl rfl (by simp [Value.category]) (Nat.le_of_ble_eq_true rfl) rfl ?_
  intro F hV hn C R
  subst hV
  refine ws_aload_n C d_M_length_0 rfl ?_
  refine ws_iload_n C d_M_length_1 rfl ?_
  refine ws_callVi C w_M_147 (As := [_]) (c_M_serves hR hO v) d_M_length_2 rfl rfl hR.1 (Nat.le_of_ble_eq_true rfl) (by decide) (by decide) (by decide) (fun S hR => ?_)
  refine ws_if_eqB C d_M_length_5 (fun h5 => ?_) (fun h5 => ?_)
  · refine ws_iconst C (-1) d_M_length_17 (by decide) ?_
    exact ws_iret C R d_M_length_18 rfl (by decide) (by decide) ⟨by simp [lnF, h5], hR⟩
  · obtain ⟨v, bv, rfl⟩ := inN_of (svs_in h5) (by decide)
    have ev : ix (nI v) = v := ix_n (by omega)
    refine ws_aload_n C d_M_length_8 rfl ?_
    refine wm_arr C hR 4 d_M_length_9 f_M_20 rfl rfl rfl ?_
    refine ws_iload_n C d_M_length_12 rfl ?_
    refine wm_aldN C hR 4 d_M_length_13 rfl rfl (by decide) (show _ < 6 by omega) ?_
    refine ws_goto C d_M_length_14 ?_
    exact ws_iret C R d_M_length_18 rfl (by decide) (by decide) ⟨by simp [lnF, h5, ev], hR⟩
set_option maxHeartbeats 4000000 in
set_option maxRecDepth 100000 in
theorem c_M_settled {V : Ev} {o : Nat} {ad : Nat → Nat} {G : GS} {S : Sto} (hR : MR o ad G S) (hO : OK G) (v : Int32) : CT V mi_M_settled 0 0 [.ref o, .int v] S (Pi (stF G v) (MR o ad G)) := by
  refine CT.of (cc := prog_8_method_40_code) (own := "ChainVersionsModel") (nL := 2) (d := 2) (by decide) rfl rfl rfl rfl (by simp [Value.category]) (Nat.le_of_ble_eq_true rfl) rfl ?_
  intro F hV hn C R
  subst hV
  refine ws_aload_n C d_M_settled_0 rfl ?_
  refine ws_iload_n C d_M_settled_1 rfl ?_
  refine ws_callVi C w_M_147 (As := [_]) (c_M_serves hR hO v) d_M_settled_2 rfl rfl hR.1 (Nat.le_of_ble_eq_true rfl) (by decide) (by decide) (by decide) (fun S hR => ?_)
  refine ws_if_eqB C d_M_settled_5 (fun h5 => ?_) (fun h5 => ?_)
  · refine ws_iconst C (-1) d_M_settled_17 (by decide) ?_
    exact ws_iret C R d_M_settled_18 rfl (by decide) (by decide) ⟨by simp [stF, h5], hR⟩
  · obtain ⟨v, bv, rfl⟩ := inN_of (svs_in h5) (by decide)
    have ev : ix (nI v) = v := ix_n (by omega)
    refine ws_aload_n C d_M_settled_8 rfl ?_
    refine wm_arr C hR 5 d_M_settled_9 f_M_23 rfl rfl rfl ?_
    refine ws_iload_n C d_M_settled_12 rfl ?_
    refine wm_aldN C hR 5 d_M_settled_13 rfl rfl (by decide) (show _ < 6 by omega) ?_
    refine ws_goto C d_M_settled_14 ?_
    exact ws_iret C R d_M_settled_18 rfl (by decide) (by decide) ⟨by simp [stF, h5, ev], hR⟩
set_option maxHeartbeats 4000000 in
set_option maxRecDepth 100000 in
theorem c_M_epoch {V : Ev} {o : Nat} {ad : Nat → Nat} {G : GS} {S : Sto} (hR : MR o ad G S) (hO : OK G) (v : Int32) : CT V mi_M_epoch 0 0 [.ref o, .int v] S (Pi (epF G v) (MR o ad G)) := by
  refine CT.of (cc := prog_8_method_38_code) (own := "ChainVersionsModel") (nL := 2) (d := 1) (by decide) rfl rfl rfl rfl (by simp [Value.category]) (Nat.le_of_ble_eq_true rfl) rfl ?_
  intro F hV hn C R
  subst hV
  refine ws_iload_n C d_M_epoch_0 rfl ?_
  refine ws_iconst C (nI 5) d_M_epoch_1 (by decide) ?_
  refine ws_callSi C w_M_94 (As := [_, _]) (c_M_outside hR v 5) d_M_epoch_2 rfl rfl (Nat.le_of_ble_eq_true rfl) (by decide) (by decide) (by decide) (fun S hR => ?_)
  refine ws_if_neB C d_M_epoch_5 (fun h5 => ?_) (fun h5 => ?_)
  · have xv : inN v 5 = false := by simpa using h5
    refine ws_iconst C (-1) d_M_epoch_17 (by decide) ?_
    refine ws_goto C d_M_epoch_18 ?_
    exact ws_iret C R d_M_epoch_27 rfl (by decide) (by decide) ⟨by simp [epF, xv], hR⟩
  · have xv : inN v 5 = true := by simpa using h5
    obtain ⟨v, bv, rfl⟩ := inN_of xv (by decide)
    have ev : ix (nI v) = v := ix_n (by omega)
    have hb1 : G.1 1 v ≤ 1 := hO 1 v
    refine ws_aload_n C d_M_epoch_8 rfl ?_
    refine wm_arr C hR 1 d_M_epoch_9 f_M_7 rfl rfl rfl ?_
    refine ws_iload_n C d_M_epoch_12 rfl ?_
    refine wm_zldN C hR 1 d_M_epoch_13 rfl rfl (by decide) (show _ < 6 by first | omega | exact okl hO _ _) ?_
    refine ws_if_neN C d_M_epoch_14 (by first | omega | exact okl hO _ _) (fun h14 => ?_) (fun h14 => ?_)
    · refine ws_aload_n C d_M_epoch_21 rfl ?_
      refine wm_arr C hR 3 d_M_epoch_22 f_M_16 rfl rfl rfl ?_
      refine ws_iload_n C d_M_epoch_25 rfl ?_
      refine wm_aldN C hR 3 d_M_epoch_26 rfl rfl (by decide) (show _ < 6 by first | omega | exact okl hO _ _) ?_
      exact ws_iret C R d_M_epoch_27 rfl (by decide) (by decide) ⟨by simp [epF, xv, ev, (show G.1 1 v = 1 by omega)], hR⟩
    · refine ws_iconst C (-1) d_M_epoch_17 (by decide) ?_
      refine ws_goto C d_M_epoch_18 ?_
      exact ws_iret C R d_M_epoch_27 rfl (by decide) (by decide) ⟨by simp [epF, xv, ev, h14], hR⟩
set_option maxHeartbeats 4000000 in
set_option maxRecDepth 100000 in
theorem c_M_waiting {V : Ev} {o : Nat} {ad : Nat → Nat} {G : GS} {S : Sto} (hR : MR o ad G S) (hO : OK G) (v w : Int32) : CT V mi_M_waiting 0 0 [.ref o, .int v, .int w] S (Pi (wtF G v w) (MR o ad G)) := by
  refine CT.of (cc := prog_8_method_32_code) (own := "ChainVersionsModel") (nL := 5) (d := 1) (by decide) rfl rfl rfl rfl (by simp [Value.category]) (Nat.le_of_ble_eq_true rfl) rfl ?_
  intro F hV hn C R
  subst hV
  have hb20 : G.1 20 0 ≤ 1399 := hO 20 0
  refine ws_iload_n C d_M_waiting_0 rfl ?_
  refine ws_iconst C (nI 5) d_M_waiting_1 (by decide) ?_
  refine ws_callSi C w_M_94 (As := [_, _]) (c_M_outside hR v 5) d_M_waiting_2 rfl rfl (Nat.le_of_ble_eq_true rfl) (by decide) (by decide) (by decide) (fun S hR => ?_)
  refine ws_if_neB C d_M_waiting_5 (fun h5 => ?_) (fun h5 => ?_)
  · have xv : inN v 5 = false := by simpa using h5
    refine ws_iconst C (-1) d_M_waiting_16 (by decide) ?_
    exact ws_iret C R d_M_waiting_17 rfl (by decide) (by decide) ⟨by simp [wtF, xv], hR⟩
  · have xv : inN v 5 = true := by simpa using h5
    obtain ⟨v, bv, rfl⟩ := inN_of xv (by decide)
    have ev : ix (nI v) = v := ix_n (by omega)
    refine ws_iload_n C d_M_waiting_8 rfl ?_
    refine ws_iconst C (nI 5) d_M_waiting_9 (by decide) ?_
    refine ws_callSi C w_M_94 (As := [_, _]) (c_M_outside hR w 5) d_M_waiting_10 rfl rfl (Nat.le_of_ble_eq_true rfl) (by decide) (by decide) (by decide) (fun S hR => ?_)
    refine ws_if_eqB C d_M_waiting_13 (fun h13 => ?_) (fun h13 => ?_)
    · have xw : inN w 5 = true := by simpa using h13
      obtain ⟨w, bw, rfl⟩ := inN_of xw (by decide)
      have ew : ix (nI w) = w := ix_n (by omega)
      refine ws_iconst C (nI 0) d_M_waiting_18 (by decide) ?_
      refine ws_istore_n C d_M_waiting_19 (by rw [hn]; decide) ?_
      refine ws_iconst C (nI 0) d_M_waiting_20 (by decide) ?_
      refine ws_istore C d_M_waiting_21 (by rw [hn]; decide) ?_
      suffices hL : ∀ n m, m + n = G.1 20 0 → ∀ S : Sto, MR o ad G S → WS F 23 [some (.ref o), some (.int (nI v)), some (.int (nI w)), some (.int (nI (wtN G v w m))), some (.int (nI m))] [] S 0 0 from hL (G.1 20 0) 0 (by omega) S hR
      intro n
      induction n with
      | zero =>
        intro m hm S hR
        have e : m = G.1 20 0 := by omega
        refine ws_iload C d_M_waiting_23 rfl ?_
        refine ws_aload_n C d_M_waiting_25 rfl ?_
        refine wm_20 C hR d_M_waiting_26 f_M_97 ?_
        refine ws_icmp_geN C d_M_waiting_29 (by first | omega | exact okl hO _ _) (by first | omega | exact okl hO _ _) (fun h29 => ?_) (fun h29 => ?_)
        · refine ws_iload_n C d_M_waiting_68 rfl ?_
          exact ws_iret C R d_M_waiting_69 rfl (by decide) (by decide) ⟨by simp [wtF, xv, xw, ev, ew, e], hR⟩
        · omega
      | succ n ih =>
        intro m hm S hR
        refine ws_iload C d_M_waiting_23 rfl ?_
        refine ws_aload_n C d_M_waiting_25 rfl ?_
        refine wm_20 C hR d_M_waiting_26 f_M_97 ?_
        refine ws_icmp_geN C d_M_waiting_29 (by first | omega | exact okl hO _ _) (by first | omega | exact okl hO _ _) (fun h29 => ?_) (fun h29 => ?_)
        · omega
        · refine ws_aload_n C d_M_waiting_32 rfl ?_
          refine wm_arr C hR 21 d_M_waiting_33 f_M_65 rfl rfl rfl ?_
          refine ws_iload C d_M_waiting_36 rfl ?_
          refine wm_aldN C hR 21 d_M_waiting_38 rfl rfl (by decide) (show _ < 1400 by first | omega | exact okl hO _ _) ?_
          refine ws_iload_n C d_M_waiting_39 rfl ?_
          refine ws_icmp_neN C d_M_waiting_40 (by first | omega | exact okl hO _ _) (by first | omega | exact okl hO _ _) (fun h40 => ?_) (fun h40 => ?_)
          · refine ws_iload_n C d_M_waiting_60 rfl ?_
            refine ws_istore_n C d_M_waiting_61 (by rw [hn]; decide) ?_
            refine ws_iinc C _ d_M_waiting_62 rfl (inc1 _) (by rw [hn]; decide) ?_
            refine ws_goto C d_M_waiting_65 ?_
            have h9 := ih (m + 1) (by omega) S hR
            rw [wtN, if_neg (by omega)] at h9
            exact h9
          · refine ws_aload_n C d_M_waiting_43 rfl ?_
            refine wm_arr C hR 22 d_M_waiting_44 f_M_68 rfl rfl rfl ?_
            refine ws_iload C d_M_waiting_47 rfl ?_
            refine wm_aldN C hR 22 d_M_waiting_49 rfl rfl (by decide) (show _ < 1400 by first | omega | exact okl hO _ _) ?_
            refine ws_iload_n C d_M_waiting_50 rfl ?_
            refine ws_icmp_neN C d_M_waiting_51 (by first | omega | exact okl hO _ _) (by first | omega | exact okl hO _ _) (fun h51 => ?_) (fun h51 => ?_)
            · refine ws_iload_n C d_M_waiting_60 rfl ?_
              refine ws_istore_n C d_M_waiting_61 (by rw [hn]; decide) ?_
              refine ws_iinc C _ d_M_waiting_62 rfl (inc1 _) (by rw [hn]; decide) ?_
              refine ws_goto C d_M_waiting_65 ?_
              have h9 := ih (m + 1) (by omega) S hR
              rw [wtN, if_neg (by omega)] at h9
              exact h9
            · refine ws_iload_n C d_M_waiting_54 rfl ?_
              refine ws_iconst C (nI 1) d_M_waiting_55 (by decide) ?_
              refine ws_iaddN C d_M_waiting_56 ?_
              refine ws_goto C d_M_waiting_57 ?_
              refine ws_istore_n C d_M_waiting_61 (by rw [hn]; decide) ?_
              refine ws_iinc C _ d_M_waiting_62 rfl (inc1 _) (by rw [hn]; decide) ?_
              refine ws_goto C d_M_waiting_65 ?_
              have h9 := ih (m + 1) (by omega) S hR
              rw [wtN, if_pos (by omega)] at h9
              exact h9
    · have xw : inN w 5 = false := by simpa using h13
      refine ws_iconst C (-1) d_M_waiting_16 (by decide) ?_
      exact ws_iret C R d_M_waiting_17 rfl (by decide) (by decide) ⟨by simp [wtF, xv, xw], hR⟩
set_option maxHeartbeats 4000000 in
set_option maxRecDepth 100000 in
theorem c_M_put {V : Ev} {o : Nat} {ad : Nat → Nat} {G : GS} {S : Sto} (hR : MR o ad G S) (hO : OK G) (hse : ∀ v, G.1 5 v ≤ G.1 4 v) (c k x : Int32) (hw : ∀ (c : Int32) (j : Nat), c = nI j → G.1 14 j + 1 ≤ 600) : CT V mi_M_put 0 0 [.ref o, .int c, .int k, .int x] S (Pi (putF G c k x).1 (MR o ad (putF G c k x).2)) := by
  refine CT.of (cc := prog_8_method_24_code) (own := "ChainVersionsModel") (nL := 4) (d := 4) (by decide) rfl rfl rfl rfl (by simp [Value.category]) (Nat.le_of_ble_eq_true rfl) rfl ?_
  intro F hV hn C R
  subst hV
  refine ws_iload_n C d_M_put_0 rfl ?_
  refine ws_iconst C (nI 2) d_M_put_1 (by decide) ?_
  refine ws_callSi C w_M_94 (As := [_, _]) (c_M_outside hR c 2) d_M_put_2 rfl rfl (Nat.le_of_ble_eq_true rfl) (by decide) (by decide) (by decide) (fun S hR => ?_)
  refine ws_if_neB C d_M_put_5 (fun h5 => ?_) (fun h5 => ?_)
  · have xc : inN c 2 = false := by simpa using h5
    refine ws_iconst C (-1) d_M_put_16 (by decide) ?_
    exact ws_iret C R d_M_put_17 rfl (by decide) (by decide) ⟨by simp [putF, xc], by simp [putF, xc]; exact hR⟩
  · have xc : inN c 2 = true := by simpa using h5
    obtain ⟨c, bc, rfl⟩ := inN_of xc (by decide)
    have ec : ix (nI c) = c := ix_n (by omega)
    refine ws_iload_n C d_M_put_8 rfl ?_
    refine ws_iconst C (nI 3) d_M_put_9 (by decide) ?_
    refine ws_callSi C w_M_94 (As := [_, _]) (c_M_outside hR k 3) d_M_put_10 rfl rfl (Nat.le_of_ble_eq_true rfl) (by decide) (by decide) (by decide) (fun S hR => ?_)
    refine ws_if_eqB C d_M_put_13 (fun h13 => ?_) (fun h13 => ?_)
    · have xk : inN k 3 = true := by simpa using h13
      obtain ⟨k, bk, rfl⟩ := inN_of xk (by decide)
      have ek : ix (nI k) = k := ix_n (by omega)
      have eP : putF G (nI c) (nI k) x = (if G.1 13 c % 2 = 1 then (-2, G) else (nI (swr (gV (gN (gN (gN G 13 c 1) 14 c (G.1 14 c + 1)) 15 c k) 16 c x) c).1, (swr (gV (gN (gN (gN G 13 c 1) 14 c (G.1 14 c + 1)) 15 c k) 16 c x) c).2)) := by simp [putF, xc, xk, ec, ek]
      rw [eP] at R
      have hb13 : G.1 13 c ≤ 4 := hO 13 c
      have hb14 : G.1 14 c + 1 ≤ 600 := hw (nI c) c rfl
      refine ws_aload_n C d_M_put_18 rfl ?_
      refine wm_arr C hR 13 d_M_put_19 f_M_44 rfl rfl rfl ?_
      refine ws_iload_n C d_M_put_22 rfl ?_
      refine wm_aldN C hR 13 d_M_put_23 rfl rfl (by decide) (show _ < 3 by first | omega | exact okl hO _ _) ?_
      refine ws_iconst C (nI 1) d_M_put_24 (by decide) ?_
      refine ws_iand C d_M_put_25 ?_
      refine ws_iconst C (nI 1) d_M_put_26 (by decide) ?_
      refine ws_icmp_ne C d_M_put_27 (fun h27 => ?_) (fun h27 => ?_)
      · refine ws_aload_n C d_M_put_33 rfl ?_
        refine wm_arr C hR 13 d_M_put_34 f_M_44 rfl rfl rfl ?_
        refine ws_iload_n C d_M_put_37 rfl ?_
        refine ws_iconst C (nI 1) d_M_put_38 (by decide) ?_
        refine wm_astN C hR 13 d_M_put_39 rfl rfl (by decide) (show _ < 3 by first | omega | exact okl hO _ _) (fun S hR => ?_)
        refine ws_aload_n C d_M_put_40 rfl ?_
        refine wm_arr C hR 14 d_M_put_41 f_M_47 rfl rfl rfl ?_
        refine ws_iload_n C d_M_put_44 rfl ?_
        refine ws_dup2 C d_M_put_45 rfl rfl ?_
        refine wm_aldN C hR 14 d_M_put_46 rfl rfl (by decide) (show _ < 3 by first | omega | exact okl hO _ _) ?_
        refine ws_top (nI (G.1 14 c)) (by simp [gN_1, gN_2, gV_1, gV_2]) ?_
        refine ws_iconst C (nI 1) d_M_put_47 (by decide) ?_
        refine ws_iaddN C d_M_put_48 ?_
        refine wm_astN C hR 14 d_M_put_49 rfl rfl (by decide) (show _ < 3 by first | omega | exact okl hO _ _) (fun S hR => ?_)
        refine ws_aload_n C d_M_put_50 rfl ?_
        refine wm_arr C hR 15 d_M_put_51 f_M_50 rfl rfl rfl ?_
        refine ws_iload_n C d_M_put_54 rfl ?_
        refine ws_iload_n C d_M_put_55 rfl ?_
        refine wm_astN C hR 15 d_M_put_56 rfl rfl (by decide) (show _ < 3 by first | omega | exact okl hO _ _) (fun S hR => ?_)
        refine ws_aload_n C d_M_put_57 rfl ?_
        refine wm_arr C hR 16 d_M_put_58 f_M_53 rfl rfl rfl ?_
        refine ws_iload_n C d_M_put_61 rfl ?_
        refine ws_iload_n C d_M_put_62 rfl ?_
        refine wm_astV C hR 16 d_M_put_63 rfl rfl (by decide) (show _ < 3 by first | omega | exact okl hO _ _) (fun S hR => ?_)
        refine ws_aload_n C d_M_put_64 rfl ?_
        refine ws_iload_n C d_M_put_65 rfl ?_
        refine ws_callVi C w_M_144 (As := [_]) (c_M_sendWrite hR (ok_gV (ok_gN (ok_gN (ok_gN hO (by decide)) hb14) bk)) (by omega) (fun v => hse v)) d_M_put_66 rfl rfl hR.1 (Nat.le_of_ble_eq_true rfl) (by decide) (by decide) (by decide) (fun S hR => ?_)
        exact ws_iret C R d_M_put_69 rfl (by decide) (by decide) ⟨by rw [if_neg (fun z => h27 ((and1 hb13).mpr z))], by rw [if_neg (fun z => h27 ((and1 hb13).mpr z))]; exact hR⟩
      · refine ws_bipush C (-2) d_M_put_30 (by decide) ?_
        exact ws_iret C R d_M_put_32 rfl (by decide) (by decide) ⟨by rw [if_pos ((and1 hb13).mp h27)], by rw [if_pos ((and1 hb13).mp h27)]; exact hR⟩
    · have xk : inN k 3 = false := by simpa using h13
      refine ws_iconst C (-1) d_M_put_16 (by decide) ?_
      exact ws_iret C R d_M_put_17 rfl (by decide) (by decide) ⟨by simp [putF, xc, xk], by simp [putF, xc, xk]; exact hR⟩
set_option maxHeartbeats 4000000 in
set_option maxRecDepth 100000 in
theorem c_M_get {V : Ev} {o : Nat} {ad : Nat → Nat} {G : GS} {S : Sto} (hR : MR o ad G S) (hO : OK G) (c v k : Int32) : CT V mi_M_get 0 0 [.ref o, .int c, .int v, .int k] S (Pi (getF G c v k).1 (MR o ad (getF G c v k).2)) := by
  refine CT.of (cc := prog_8_method_25_code) (own := "ChainVersionsModel") (nL := 4) (d := 3) (by decide) rfl rfl rfl rfl (by simp [Value.category]) (Nat.le_of_ble_eq_true rfl) rfl ?_
  intro F hV hn C R
  subst hV
  refine ws_iload_n C d_M_get_0 rfl ?_
  refine ws_iconst C (nI 2) d_M_get_1 (by decide) ?_
  refine ws_callSi C w_M_94 (As := [_, _]) (c_M_outside hR c 2) d_M_get_2 rfl rfl (Nat.le_of_ble_eq_true rfl) (by decide) (by decide) (by decide) (fun S hR => ?_)
  refine ws_if_neB C d_M_get_5 (fun h5 => ?_) (fun h5 => ?_)
  · have xc : inN c 2 = false := by simpa using h5
    refine ws_iconst C (-1) d_M_get_24 (by decide) ?_
    exact ws_iret C R d_M_get_25 rfl (by decide) (by decide) ⟨by simp [getF, xc], by simp [getF, xc]; exact hR⟩
  · have xc : inN c 2 = true := by simpa using h5
    obtain ⟨c, bc, rfl⟩ := inN_of xc (by decide)
    have ec : ix (nI c) = c := ix_n (by omega)
    refine ws_iload_n C d_M_get_8 rfl ?_
    refine ws_iconst C (nI 3) d_M_get_9 (by decide) ?_
    refine ws_callSi C w_M_94 (As := [_, _]) (c_M_outside hR k 3) d_M_get_10 rfl rfl (Nat.le_of_ble_eq_true rfl) (by decide) (by decide) (by decide) (fun S hR => ?_)
    refine ws_if_neB C d_M_get_13 (fun h13 => ?_) (fun h13 => ?_)
    · have xk : inN k 3 = false := by simpa using h13
      refine ws_iconst C (-1) d_M_get_24 (by decide) ?_
      exact ws_iret C R d_M_get_25 rfl (by decide) (by decide) ⟨by simp [getF, xc, xk], by simp [getF, xc, xk]; exact hR⟩
    · have xk : inN k 3 = true := by simpa using h13
      obtain ⟨k, bk, rfl⟩ := inN_of xk (by decide)
      have ek : ix (nI k) = k := ix_n (by omega)
      refine ws_iload_n C d_M_get_16 rfl ?_
      refine ws_iconst C (nI 5) d_M_get_17 (by decide) ?_
      refine ws_callSi C w_M_94 (As := [_, _]) (c_M_outside hR v 5) d_M_get_18 rfl rfl (Nat.le_of_ble_eq_true rfl) (by decide) (by decide) (by decide) (fun S hR => ?_)
      refine ws_if_eqB C d_M_get_21 (fun h21 => ?_) (fun h21 => ?_)
      · have xv : inN v 5 = true := by simpa using h21
        obtain ⟨v, bv, rfl⟩ := inN_of xv (by decide)
        have ev : ix (nI v) = v := ix_n (by omega)
        have eP : getF G (nI c) (nI v) (nI k) = (if G.1 13 c % 2 = 1 then (-2, G) else if svs G (nI v) = true then (nI (srv (gV (gN (gN G 13 c 3) 15 c k) 29 c (-1)) c v).1, (srv (gV (gN (gN G 13 c 3) 15 c k) 29 c (-1)) c v).2) else (0, G)) := by simp [getF, xc, xk, xv, ec, ek, ev]
        rw [eP] at R
        have hb13 : G.1 13 c ≤ 4 := hO 13 c
        refine ws_aload_n C d_M_get_26 rfl ?_
        refine wm_arr C hR 13 d_M_get_27 f_M_44 rfl rfl rfl ?_
        refine ws_iload_n C d_M_get_30 rfl ?_
        refine wm_aldN C hR 13 d_M_get_31 rfl rfl (by decide) (show _ < 3 by first | omega | exact okl hO _ _) ?_
        refine ws_iconst C (nI 1) d_M_get_32 (by decide) ?_
        refine ws_iand C d_M_get_33 ?_
        refine ws_iconst C (nI 1) d_M_get_34 (by decide) ?_
        refine ws_icmp_ne C d_M_get_35 (fun h35 => ?_) (fun h35 => ?_)
        · refine ws_aload_n C d_M_get_41 rfl ?_
          refine ws_iload_n C d_M_get_42 rfl ?_
          refine ws_callVi C w_M_147 (As := [_]) (c_M_serves hR hO (nI v)) d_M_get_43 rfl rfl hR.1 (Nat.le_of_ble_eq_true rfl) (by decide) (by decide) (by decide) (fun S hR => ?_)
          refine ws_if_neB C d_M_get_46 (fun h46 => ?_) (fun h46 => ?_)
          · refine ws_aload_n C d_M_get_51 rfl ?_
            refine wm_arr C hR 13 d_M_get_52 f_M_44 rfl rfl rfl ?_
            refine ws_iload_n C d_M_get_55 rfl ?_
            refine ws_iconst C (nI 3) d_M_get_56 (by decide) ?_
            refine wm_astN C hR 13 d_M_get_57 rfl rfl (by decide) (show _ < 3 by first | omega | exact okl hO _ _) (fun S hR => ?_)
            refine ws_aload_n C d_M_get_58 rfl ?_
            refine wm_arr C hR 15 d_M_get_59 f_M_50 rfl rfl rfl ?_
            refine ws_iload_n C d_M_get_62 rfl ?_
            refine ws_iload_n C d_M_get_63 rfl ?_
            refine wm_astN C hR 15 d_M_get_64 rfl rfl (by decide) (show _ < 3 by first | omega | exact okl hO _ _) (fun S hR => ?_)
            refine ws_aload_n C d_M_get_65 rfl ?_
            refine ws_iload_n C d_M_get_66 rfl ?_
            refine ws_iload_n C d_M_get_67 rfl ?_
            refine ws_callVi C w_M_151 (As := [_, _]) (c_M_serve (hR.same (G' := gV (gN (gN G 13 c 3) 15 c k) 29 c (-1)) (fun j _ => rfl) (fun j hj => gV_ne _ (by omega))) (ok_gV (ok_gN (ok_gN hO (by decide)) bk)) (by omega) (by omega)) d_M_get_68 rfl rfl hR.1 (Nat.le_of_ble_eq_true rfl) (by decide) (by decide) (by decide) (fun S hR => ?_)
            exact ws_iret C R d_M_get_71 rfl (by decide) (by decide) ⟨by rw [if_neg (fun z => h35 ((and1 hb13).mpr z)), if_pos h46], by rw [if_neg (fun z => h35 ((and1 hb13).mpr z)), if_pos h46]; exact hR⟩
          · refine ws_iconst C (nI 0) d_M_get_49 (by decide) ?_
            exact ws_iret C R d_M_get_50 rfl (by decide) (by decide) ⟨by rw [if_neg (fun z => h35 ((and1 hb13).mpr z)), if_neg (by rw [h46]; decide)]; rfl, by rw [if_neg (fun z => h35 ((and1 hb13).mpr z)), if_neg (by rw [h46]; decide)]; exact hR⟩
        · refine ws_bipush C (-2) d_M_get_38 (by decide) ?_
          exact ws_iret C R d_M_get_40 rfl (by decide) (by decide) ⟨by rw [if_pos ((and1 hb13).mp h35)], by rw [if_pos ((and1 hb13).mp h35)]; exact hR⟩
      · have xv : inN v 5 = false := by simpa using h21
        refine ws_iconst C (-1) d_M_get_24 (by decide) ?_
        exact ws_iret C R d_M_get_25 rfl (by decide) (by decide) ⟨by simp [getF, xc, xk, xv], by simp [getF, xc, xk, xv]; exact hR⟩
set_option maxHeartbeats 4000000 in
set_option maxRecDepth 100000 in
theorem c_M_retry {V : Ev} {o : Nat} {ad : Nat → Nat} {G : GS} {S : Sto} (hR : MR o ad G S) (hO : OK G) (hse : ∀ v, G.1 5 v ≤ G.1 4 v) (c v : Int32) : CT V mi_M_retry 0 0 [.ref o, .int c, .int v] S (Pi (rtyF G c v).1 (MR o ad (rtyF G c v).2)) := by
  refine CT.of (cc := prog_8_method_26_code) (own := "ChainVersionsModel") (nL := 3) (d := 4) (by decide) rfl rfl rfl rfl (by simp [Value.category]) (Nat.le_of_ble_eq_true rfl) rfl ?_
  intro F hV hn C R
  subst hV
  refine ws_iload_n C d_M_retry_0 rfl ?_
  refine ws_iconst C (nI 2) d_M_retry_1 (by decide) ?_
  refine ws_callSi C w_M_94 (As := [_, _]) (c_M_outside hR c 2) d_M_retry_2 rfl rfl (Nat.le_of_ble_eq_true rfl) (by decide) (by decide) (by decide) (fun S hR => ?_)
  refine ws_if_eqB C d_M_retry_5 (fun h5 => ?_) (fun h5 => ?_)
  · have xc : inN c 2 = true := by simpa using h5
    obtain ⟨c, bc, rfl⟩ := inN_of xc (by decide)
    have ec : ix (nI c) = c := ix_n (by omega)
    have eP : rtyF G (nI c) v = (if G.1 13 c = 0 ∨ G.1 13 c = 4 then (-3, G) else if G.1 13 c < 3 then (nI (swr G c).1, (swr G c).2) else if G.1 1 (G.1 17 c) = 1 then (-2, G) else if inN v 5 = true then (if svs G v = true then (nI (srv G c (ix v)).1, (srv G c (ix v)).2) else (0, G)) else (-1, G)) := by simp [rtyF, xc, ec]
    rw [eP] at R
    have hb13 : G.1 13 c ≤ 4 := hO 13 c
    have hb17 : G.1 17 c ≤ 5 := hO 17 c
    have hb1 : G.1 1 (G.1 17 c) ≤ 1 := hO 1 _
    refine ws_aload_n C d_M_retry_10 rfl ?_
    refine wm_arr C hR 13 d_M_retry_11 f_M_44 rfl rfl rfl ?_
    refine ws_iload_n C d_M_retry_14 rfl ?_
    refine wm_aldN C hR 13 d_M_retry_15 rfl rfl (by decide) (show _ < 3 by first | omega | exact okl hO _ _) ?_
    refine ws_if_eqN C d_M_retry_16 (by first | omega | exact okl hO _ _) (fun h16 => ?_) (fun h16 => ?_)
    · refine ws_bipush C (-3) d_M_retry_29 (by decide) ?_
      exact ws_iret C R d_M_retry_31 rfl (by decide) (by decide) ⟨by rw [if_pos (by omega)], by rw [if_pos (by omega)]; exact hR⟩
    · refine ws_aload_n C d_M_retry_19 rfl ?_
      refine wm_arr C hR 13 d_M_retry_20 f_M_44 rfl rfl rfl ?_
      refine ws_iload_n C d_M_retry_23 rfl ?_
      refine wm_aldN C hR 13 d_M_retry_24 rfl rfl (by decide) (show _ < 3 by first | omega | exact okl hO _ _) ?_
      refine ws_iconst C (nI 4) d_M_retry_25 (by decide) ?_
      refine ws_icmp_neN C d_M_retry_26 (by first | omega | exact okl hO _ _) (by first | omega | exact okl hO _ _) (fun h26 => ?_) (fun h26 => ?_)
      · refine ws_aload_n C d_M_retry_32 rfl ?_
        refine wm_arr C hR 13 d_M_retry_33 f_M_44 rfl rfl rfl ?_
        refine ws_iload_n C d_M_retry_36 rfl ?_
        refine wm_aldN C hR 13 d_M_retry_37 rfl rfl (by decide) (show _ < 3 by first | omega | exact okl hO _ _) ?_
        refine ws_iconst C (nI 3) d_M_retry_38 (by decide) ?_
        refine ws_icmp_geN C d_M_retry_39 (by first | omega | exact okl hO _ _) (by first | omega | exact okl hO _ _) (fun h39 => ?_) (fun h39 => ?_)
        · refine ws_aload_n C d_M_retry_48 rfl ?_
          refine wm_arr C hR 1 d_M_retry_49 f_M_7 rfl rfl rfl ?_
          refine ws_aload_n C d_M_retry_52 rfl ?_
          refine wm_arr C hR 17 d_M_retry_53 f_M_56 rfl rfl rfl ?_
          refine ws_iload_n C d_M_retry_56 rfl ?_
          refine wm_aldN C hR 17 d_M_retry_57 rfl rfl (by decide) (show _ < 3 by first | omega | exact okl hO _ _) ?_
          refine wm_zldN C hR 1 d_M_retry_58 rfl rfl (by decide) (show _ < 6 by first | omega | exact okl hO _ _) ?_
          refine ws_if_eqN C d_M_retry_59 (by first | omega | exact okl hO _ _) (fun h59 => ?_) (fun h59 => ?_)
          · refine ws_iload_n C d_M_retry_65 rfl ?_
            refine ws_iconst C (nI 5) d_M_retry_66 (by decide) ?_
            refine ws_callSi C w_M_94 (As := [_, _]) (c_M_outside hR v 5) d_M_retry_67 rfl rfl (Nat.le_of_ble_eq_true rfl) (by decide) (by decide) (by decide) (fun S hR => ?_)
            refine ws_if_eqB C d_M_retry_70 (fun h70 => ?_) (fun h70 => ?_)
            · have xv : inN v 5 = true := by simpa using h70
              obtain ⟨v, bv, rfl⟩ := inN_of xv (by decide)
              have ev : ix (nI v) = v := ix_n (by omega)
              refine ws_aload_n C d_M_retry_75 rfl ?_
              refine ws_iload_n C d_M_retry_76 rfl ?_
              refine ws_callVi C w_M_147 (As := [_]) (c_M_serves hR hO (nI v)) d_M_retry_77 rfl rfl hR.1 (Nat.le_of_ble_eq_true rfl) (by decide) (by decide) (by decide) (fun S hR => ?_)
              refine ws_if_eqB C d_M_retry_80 (fun h80 => ?_) (fun h80 => ?_)
              · refine ws_iconst C (nI 0) d_M_retry_92 (by decide) ?_
                exact ws_iret C R d_M_retry_93 rfl (by decide) (by decide) ⟨by rw [if_neg (by omega), if_neg (by omega), if_neg (by omega), if_pos xv, if_neg (by rw [h80]; decide)]; rfl, by rw [if_neg (by omega), if_neg (by omega), if_neg (by omega), if_pos xv, if_neg (by rw [h80]; decide)]; exact hR⟩
              · refine ws_aload_n C d_M_retry_83 rfl ?_
                refine ws_iload_n C d_M_retry_84 rfl ?_
                refine ws_iload_n C d_M_retry_85 rfl ?_
                refine ws_callVi C w_M_151 (As := [_, _]) (c_M_serve hR hO (by omega) (by omega)) d_M_retry_86 rfl rfl hR.1 (Nat.le_of_ble_eq_true rfl) (by decide) (by decide) (by decide) (fun S hR => ?_)
                refine ws_goto C d_M_retry_89 ?_
                exact ws_iret C R d_M_retry_93 rfl (by decide) (by decide) ⟨by rw [if_neg (by omega), if_neg (by omega), if_neg (by omega), if_pos xv, if_pos h80, ev], by rw [if_neg (by omega), if_neg (by omega), if_neg (by omega), if_pos xv, if_pos h80, ev]; exact hR⟩
            · have xv : inN v 5 = false := by simpa using h70
              refine ws_iconst C (-1) d_M_retry_73 (by decide) ?_
              exact ws_iret C R d_M_retry_74 rfl (by decide) (by decide) ⟨by rw [if_neg (by omega), if_neg (by omega), if_neg (by omega), if_neg (by rw [xv]; decide)], by rw [if_neg (by omega), if_neg (by omega), if_neg (by omega), if_neg (by rw [xv]; decide)]; exact hR⟩
          · refine ws_bipush C (-2) d_M_retry_62 (by decide) ?_
            exact ws_iret C R d_M_retry_64 rfl (by decide) (by decide) ⟨by rw [if_neg (by omega), if_neg (by omega), if_pos (by omega)], by rw [if_neg (by omega), if_neg (by omega), if_pos (by omega)]; exact hR⟩
        · refine ws_aload_n C d_M_retry_42 rfl ?_
          refine ws_iload_n C d_M_retry_43 rfl ?_
          refine ws_callVi C w_M_144 (As := [_]) (c_M_sendWrite hR hO (by omega) hse) d_M_retry_44 rfl rfl hR.1 (Nat.le_of_ble_eq_true rfl) (by decide) (by decide) (by decide) (fun S hR => ?_)
          exact ws_iret C R d_M_retry_47 rfl (by decide) (by decide) ⟨by rw [if_neg (by omega), if_pos (by omega)], by rw [if_neg (by omega), if_pos (by omega)]; exact hR⟩
      · refine ws_bipush C (-3) d_M_retry_29 (by decide) ?_
        exact ws_iret C R d_M_retry_31 rfl (by decide) (by decide) ⟨by rw [if_pos (by omega)], by rw [if_pos (by omega)]; exact hR⟩
  · have xc : inN c 2 = false := by simpa using h5
    refine ws_iconst C (-1) d_M_retry_8 (by decide) ?_
    exact ws_iret C R d_M_retry_9 rfl (by decide) (by decide) ⟨by simp [rtyF, xc], by simp [rtyF, xc]; exact hR⟩
