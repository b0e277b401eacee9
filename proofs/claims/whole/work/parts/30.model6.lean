/-! the reference: deliver, stop, join, tick, adopt, member, version, look -/
def dlvOK (G : GS) (v w : Nat) : Prop := ∀ m, frs G v w = some m → (1 ≤ G.1 23 m ∧ G.1 23 m ≤ 5) ∧ G.1 20 0 + 2 ≤ 1400 ∧ (G.1 24 m = G.1 3 w → (G.1 23 m = 1 → G.1 4 w + 1 ≤ 100) ∧ (G.1 23 m = 3 → G.1 25 m ≤ 3) ∧ (G.1 23 m = 4 → G.1 26 m ≤ 2) ∧ (G.1 23 m = 5 → G.1 20 0 + (G.1 25 m - G.1 4 w) ≤ 1400))
set_option maxHeartbeats 4000000 in
set_option maxRecDepth 100000 in
theorem c_M_deliver {V : Ev} {o : Nat} {ad : Nat → Nat} {G : GS} {S : Sto} (hR : MR o ad G S) (hO : OK G) (v w : Int32) (hD : ∀ (v w : Int32) (i j : Nat), v = nI i → w = nI j → dlvOK G i j) : CT V mi_M_deliver 0 0 [.ref o, .int v, .int w] S (Pi (dlvF G v w).1 (MR o ad (dlvF G v w).2)) := by
  refine CT.of (cc := prog_8_method_31_code) (own := "ChainVersionsModel") (nL := 8) (d := 5) (by decide) rfl rfl rfl rfl (by simp [Value.category]) (Nat.le_of_ble_eq_true rfl) rfl ?_
  intro F hV hn C R
  subst hV
  refine ws_iload_n C d_M_deliver_0 rfl ?_
  refine ws_iconst C (nI 5) d_M_deliver_1 (by decide) ?_
  refine ws_callSi C w_M_94 (As := [_, _]) (c_M_outside hR v 5) d_M_deliver_2 rfl rfl (Nat.le_of_ble_eq_true rfl) (by decide) (by decide) (by decide) (fun S hR => ?_)
  refine ws_if_neB C d_M_deliver_5 (fun h5 => ?_) (fun h5 => ?_)
  · have xv : inN v 5 = false := by simpa using h5
    refine ws_iconst C (-1) d_M_deliver_16 (by decide) ?_
    exact ws_iret C R d_M_deliver_17 rfl (by decide) (by decide) ⟨by simp [dlvF, xv], by simp [dlvF, xv]; exact hR⟩
  · have xv : inN v 5 = true := by simpa using h5
    obtain ⟨v, bv, rfl⟩ := inN_of xv (by decide)
    have ev : ix (nI v) = v := ix_n (by omega)
    refine ws_iload_n C d_M_deliver_8 rfl ?_
    refine ws_iconst C (nI 5) d_M_deliver_9 (by decide) ?_
    refine ws_callSi C w_M_94 (As := [_, _]) (c_M_outside hR w 5) d_M_deliver_10 rfl rfl (Nat.le_of_ble_eq_true rfl) (by decide) (by decide) (by decide) (fun S hR => ?_)
    refine ws_if_eqB C d_M_deliver_13 (fun h13 => ?_) (fun h13 => ?_)
    · have xw : inN w 5 = true := by simpa using h13
      obtain ⟨w, bw, rfl⟩ := inN_of xw (by decide)
      have ew : ix (nI w) = w := ix_n (by omega)
      have eP : dlvF G (nI v) (nI w) = dlvN G v w := by simp [dlvF, xv, xw, ev, ew]
      rw [eP] at R
      have hD := hD (nI v) (nI w) v w rfl rfl
      refine ws_aload_n C d_M_deliver_18 rfl ?_
      refine ws_iload_n C d_M_deliver_19 rfl ?_
      refine ws_iload_n C d_M_deliver_20 rfl ?_
      refine ws_callVi C w_M_157 (As := [_, _]) (c_M_first hR hO (by omega) (by omega)) d_M_deliver_21 rfl rfl hR.1 (Nat.le_of_ble_eq_true rfl) (by decide) (by decide) (by decide) (fun S hR => ?_)
      cases hf : frs G v w with
      | none =>
        have eN : dlvN G v w = (0, G) := by simp [dlvN, hf]
        rw [eN] at R
        refine ws_istore_n C d_M_deliver_24 (by rw [hn]; decide) ?_
        refine ws_iload_n C d_M_deliver_25 rfl ?_
        refine ws_if_geM C d_M_deliver_26 ?_
        refine ws_iconst C (nI 0) d_M_deliver_29 (by decide) ?_
        exact ws_iret C R d_M_deliver_30 rfl (by decide) (by decide) ⟨rfl, hR⟩
      | some m =>
        obtain ⟨hm, -, -⟩ := frs_lt hf
        obtain ⟨hk, hc, hD⟩ := hD m hf
        have eN : dlvN G v w = (if G.1 3 w < G.1 24 m ∨ (G.1 24 m = G.1 3 w ∧ G.1 2 w = 0 ∧ G.1 23 m ≠ 5) then (-2, G) else (nI (G.1 23 m), if G.1 24 m = G.1 3 w then (if G.1 2 w = 1 then act (stk G m) w v (G.1 23 m) (G.1 25 m) (G.1 26 m) else arv (stk G m) w v (G.1 25 m) (G.1 26 m)) else stk G m)) := by simp [dlvN, hf]
        rw [eN] at R
        have hb20 : G.1 20 0 ≤ 1399 := hO 20 0
        have hb2 : G.1 2 w ≤ 1 := hO 2 w
        have hb25 : G.1 25 m ≤ 100 := hO 25 m
        have hb26 : G.1 26 m ≤ 100 := hO 26 m
        have hO2 : OK (stk G m) := ok_stk hO
        refine ws_istore_n C d_M_deliver_24 (by rw [hn]; decide) ?_
        have k95 : ∀ (q : Nat) (S : Sto), (q = 1 ∧ G.1 24 m = G.1 3 w ∨ q = 0 ∧ ¬ G.1 24 m = G.1 3 w) → ¬ (G.1 3 w < G.1 24 m ∨ (G.1 24 m = G.1 3 w ∧ G.1 2 w = 0 ∧ G.1 23 m ≠ 5)) → MR o ad G S → WS F 95 [some (.ref o), some (.int (nI v)), some (.int (nI w)), some (.int (nI m)), some (.int (nI q)), none, none, none] [] S 0 0 := by
          intro q S hq hne hR
          rw [if_neg hne] at R
          refine ws_aload_n C d_M_deliver_95 rfl ?_
          refine wm_arr C hR 23 d_M_deliver_96 f_M_71 rfl rfl rfl ?_
          refine ws_iload_n C d_M_deliver_99 rfl ?_
          refine wm_aldN C hR 23 d_M_deliver_100 rfl rfl (by decide) (show _ < 1400 by first | omega | exact okl hO _ _) ?_
          refine ws_istore C d_M_deliver_101 (by rw [hn]; decide) ?_
          refine ws_aload_n C d_M_deliver_103 rfl ?_
          refine wm_arr C hR 25 d_M_deliver_104 f_M_77 rfl rfl rfl ?_
          refine ws_iload_n C d_M_deliver_107 rfl ?_
          refine wm_aldN C hR 25 d_M_deliver_108 rfl rfl (by decide) (show _ < 1400 by first | omega | exact okl hO _ _) ?_
          refine ws_istore C d_M_deliver_109 (by rw [hn]; decide) ?_
          refine ws_aload_n C d_M_deliver_111 rfl ?_
          refine wm_arr C hR 26 d_M_deliver_112 f_M_80 rfl rfl rfl ?_
          refine ws_iload_n C d_M_deliver_115 rfl ?_
          refine wm_aldN C hR 26 d_M_deliver_116 rfl rfl (by decide) (show _ < 1400 by first | omega | exact okl hO _ _) ?_
          refine ws_istore C d_M_deliver_117 (by rw [hn]; decide) ?_
          refine ws_aload_n C d_M_deliver_119 rfl ?_
          refine ws_iload_n C d_M_deliver_120 rfl ?_
          refine ws_callVv C w_M_100 (As := [_]) (c_M_strike hR hO hm) d_M_deliver_121 rfl rfl hR.1 (Nat.le_of_ble_eq_true rfl) (by decide) (by decide) (by decide) (fun S hR => ?_)
          refine ws_iload C d_M_deliver_124 rfl ?_
          refine ws_if_eqN C d_M_deliver_126 (by omega) (fun h126 => ?_) (fun h126 => ?_)
          · refine ws_iload C d_M_deliver_153 rfl ?_
            refine ws_if_eqN C d_M_deliver_155 (by omega) (fun _ => ?_) (fun z => absurd h126 z)
            refine ws_iload C d_M_deliver_168 rfl ?_
            exact ws_iret C R d_M_deliver_170 rfl (by decide) (by decide) ⟨rfl, by simp only []; rw [if_neg (by omega)] ; exact hR⟩
          · refine ws_aload_n C d_M_deliver_129 rfl ?_
            refine wm_arr C hR 2 d_M_deliver_130 f_M_13 rfl rfl rfl ?_
            refine ws_iload_n C d_M_deliver_133 rfl ?_
            refine wm_zldN C hR 2 d_M_deliver_134 rfl rfl (by decide) (show _ < 6 by first | omega | exact okl hO _ _) ?_
            refine ws_top (nI (G.1 2 w)) (by rw [stk_ne _ _ (by decide)]) ?_
            refine ws_if_eqN C d_M_deliver_135 (by omega) (fun h135 => ?_) (fun h135 => ?_)
            · refine ws_iload C d_M_deliver_153 rfl ?_
              refine ws_if_eqN C d_M_deliver_155 (by omega) (fun z => absurd z h126) (fun _ => ?_)
              refine ws_aload_n C d_M_deliver_158 rfl ?_
              refine ws_iload_n C d_M_deliver_159 rfl ?_
              refine ws_iload_n C d_M_deliver_160 rfl ?_
              refine ws_iload C d_M_deliver_161 rfl ?_
              refine ws_iload C d_M_deliver_163 rfl ?_
              refine ws_callVv C w_M_163 (As := [_, _, _, _]) (c_M_arrive hR hO2 (by omega) (by omega) (by omega) (by omega) (by rw [stk_20]; omega)) d_M_deliver_165 rfl rfl hR.1 (Nat.le_of_ble_eq_true rfl) (by decide) (by decide) (by decide) (fun S hR => ?_)
              refine ws_iload C d_M_deliver_168 rfl ?_
              exact ws_iret C R d_M_deliver_170 rfl (by decide) (by decide) ⟨rfl, by simp only []; rw [if_pos (by omega), if_neg (by omega)] ; exact hR⟩
            · refine ws_aload_n C d_M_deliver_138 rfl ?_
              refine ws_iload_n C d_M_deliver_139 rfl ?_
              refine ws_iload_n C d_M_deliver_140 rfl ?_
              refine ws_iload C d_M_deliver_141 rfl ?_
              refine ws_iload C d_M_deliver_143 rfl ?_
              refine ws_iload C d_M_deliver_145 rfl ?_
              refine ws_callVv C w_M_160 (As := [_, _, _, _, _]) (c_M_act hR hO2 (by omega) (by omega) hk (by omega) (fun z => by rw [stk_ne _ _ (by decide)]; exact (hD (by omega)).1 z) (hD (by omega)).2.1 (hD (by omega)).2.2.1 (fun z => by rw [stk_20, stk_ne _ _ (by decide)]; have := (hD (by omega)).2.2.2 z; omega)) d_M_deliver_147 rfl rfl hR.1 (Nat.le_of_ble_eq_true rfl) (by decide) (by decide) (by decide) (fun S hR => ?_)
              refine ws_goto C d_M_deliver_150 ?_
              refine ws_iload C d_M_deliver_168 rfl ?_
              exact ws_iret C R d_M_deliver_170 rfl (by decide) (by decide) ⟨rfl, by simp only []; rw [if_pos (by omega), if_pos (by omega)] ; exact hR⟩
        have k53 : ∀ (q : Nat) (S : Sto), (q = 1 ∧ G.1 24 m = G.1 3 w ∨ q = 0 ∧ ¬ G.1 24 m = G.1 3 w) → MR o ad G S → WS F 53 [some (.ref o), some (.int (nI v)), some (.int (nI w)), some (.int (nI m)), some (.int (nI q)), none, none, none] [] S 0 0 := by
          intro q S hq hR
          refine ws_aload_n C d_M_deliver_53 rfl ?_
          refine wm_arr C hR 24 d_M_deliver_54 f_M_74 rfl rfl rfl ?_
          refine ws_iload_n C d_M_deliver_57 rfl ?_
          refine wm_aldN C hR 24 d_M_deliver_58 rfl rfl (by decide) (show _ < 1400 by first | omega | exact okl hO _ _) ?_
          refine ws_aload_n C d_M_deliver_59 rfl ?_
          refine wm_arr C hR 3 d_M_deliver_60 f_M_16 rfl rfl rfl ?_
          refine ws_iload_n C d_M_deliver_63 rfl ?_
          refine wm_aldN C hR 3 d_M_deliver_64 rfl rfl (by decide) (show _ < 6 by first | omega | exact okl hO _ _) ?_
          refine ws_icmp_gtN C d_M_deliver_65 (by first | omega | exact okl hO _ _) (by first | omega | exact okl hO _ _) (fun h65 => ?_) (fun h65 => ?_)
          · refine ws_bipush C (-2) d_M_deliver_92 (by decide) ?_
            exact ws_iret C R d_M_deliver_94 rfl (by decide) (by decide) ⟨by rw [if_pos (by omega)], by rw [if_pos (by omega)]; exact hR⟩
          · refine ws_iload C d_M_deliver_68 rfl ?_
            refine ws_if_eqN C d_M_deliver_70 (by first | omega | exact okl hO _ _) (fun h70 => ?_) (fun h70 => ?_)
            · exact k95 q S hq (by omega) hR
            · refine ws_aload_n C d_M_deliver_73 rfl ?_
              refine wm_arr C hR 2 d_M_deliver_74 f_M_13 rfl rfl rfl ?_
              refine ws_iload_n C d_M_deliver_77 rfl ?_
              refine wm_zldN C hR 2 d_M_deliver_78 rfl rfl (by decide) (show _ < 6 by first | omega | exact okl hO _ _) ?_
              refine ws_if_neN C d_M_deliver_79 (by first | omega | exact okl hO _ _) (fun h79 => ?_) (fun h79 => ?_)
              · exact k95 q S hq (by omega) hR
              · refine ws_aload_n C d_M_deliver_82 rfl ?_
                refine wm_arr C hR 23 d_M_deliver_83 f_M_71 rfl rfl rfl ?_
                refine ws_iload_n C d_M_deliver_86 rfl ?_
                refine wm_aldN C hR 23 d_M_deliver_87 rfl rfl (by decide) (show _ < 1400 by first | omega | exact okl hO _ _) ?_
                refine ws_iconst C (nI 5) d_M_deliver_88 (by decide) ?_
                refine ws_icmp_eqN C d_M_deliver_89 (by first | omega | exact okl hO _ _) (by first | omega | exact okl hO _ _) (fun h89 => ?_) (fun h89 => ?_)
                · exact k95 q S hq (by omega) hR
                · refine ws_bipush C (-2) d_M_deliver_92 (by decide) ?_
                  exact ws_iret C R d_M_deliver_94 rfl (by decide) (by decide) ⟨by rw [if_pos (by omega)], by rw [if_pos (by omega)]; exact hR⟩
        refine ws_iload_n C d_M_deliver_25 rfl ?_
        refine ws_if_geN C d_M_deliver_26 (by first | omega | exact okl hO _ _) ?_
        refine ws_aload_n C d_M_deliver_31 rfl ?_
        refine wm_arr C hR 24 d_M_deliver_32 f_M_74 rfl rfl rfl ?_
        refine ws_iload_n C d_M_deliver_35 rfl ?_
        refine wm_aldN C hR 24 d_M_deliver_36 rfl rfl (by decide) (show _ < 1400 by first | omega | exact okl hO _ _) ?_
        refine ws_aload_n C d_M_deliver_37 rfl ?_
        refine wm_arr C hR 3 d_M_deliver_38 f_M_16 rfl rfl rfl ?_
        refine ws_iload_n C d_M_deliver_41 rfl ?_
        refine wm_aldN C hR 3 d_M_deliver_42 rfl rfl (by decide) (show _ < 6 by first | omega | exact okl hO _ _) ?_
        refine ws_icmp_neN C d_M_deliver_43 (by first | omega | exact okl hO _ _) (by first | omega | exact okl hO _ _) (fun h43 => ?_) (fun h43 => ?_)
        · refine ws_iconst C (nI 0) d_M_deliver_50 (by decide) ?_
          refine ws_istore C d_M_deliver_51 (by rw [hn]; decide) ?_
          exact k53 0 S (by omega) hR
        · refine ws_iconst C (nI 1) d_M_deliver_46 (by decide) ?_
          refine ws_goto C d_M_deliver_47 ?_
          refine ws_istore C d_M_deliver_51 (by rw [hn]; decide) ?_
          exact k53 1 S (by omega) hR
    · have xw : inN w 5 = false := by simpa using h13
      refine ws_iconst C (-1) d_M_deliver_16 (by decide) ?_
      exact ws_iret C R d_M_deliver_17 rfl (by decide) (by decide) ⟨by simp [dlvF, xv, xw], by simp [dlvF, xv, xw]; exact hR⟩
theorem bI_z {b : Bool} {n : Nat} (h : nI n = bI b) (hn : n = 0) : b = false := by
  subst hn
  cases b with
  | false => rfl
  | true => exact absurd h (by decide)
theorem bI_nz {b : Bool} {n : Nat} (h : nI n = bI b) (hn : ¬ n = 0) (hb : n ≤ 1 := by omega) : b = true := by
  have e : n = 1 := by omega
  subst e
  cases b with
  | true => rfl
  | false => exact absurd h (by decide)
theorem inN_n {j n : Nat} (h : j ≤ n) (hn : n < 2 ^ 31 := by omega) : inN (nI j) n = true := by
  simp only [inN, decide_eq_true_eq]
  exact ⟨nI_pos (by omega), nI_nlt h hn⟩
theorem otN_1 {G : GS} {v w : Nat} (h : otN G v w = true) : otN G v (w + 1) = true := by rw [otN, h]; rfl
theorem otN_2 {G : GS} {v w : Nat} (h : otN G v w = false) (hw : w = v) : otN G v (w + 1) = false := by rw [otN, h]; simp [hw]
theorem otN_3 {G : GS} {v w : Nat} (h : otN G v w = false) (hs : (G.1 1 w == 1 && G.1 2 w == 1) = false) : otN G v (w + 1) = false := by rw [otN, h, hs]; simp
theorem otN_4 {G : GS} {v w : Nat} (hw : ¬ w = v) (hs : (G.1 1 w == 1 && G.1 2 w == 1) = true) : otN G v (w + 1) = true := by rw [otN, hs]; simp [hw]
set_option maxHeartbeats 4000000 in
set_option maxRecDepth 100000 in
theorem c_M_stop {V : Ev} {o : Nat} {ad : Nat → Nat} {G : GS} {S : Sto} (hR : MR o ad G S) (hO : OK G) (v : Int32) : CT V mi_M_stop 0 0 [.ref o, .int v] S (Pi (bI (stpF G v).1) (MR o ad (stpF G v).2)) := by
  refine CT.of (cc := prog_8_method_33_code) (own := "ChainVersionsModel") (nL := 4) (d := 2) (by decide) rfl rfl rfl rfl (by simp [Value.category]) (Nat.le_of_ble_eq_true rfl) rfl ?_
  intro F hV hn C R
  subst hV
  refine ws_iload_n C d_M_stop_0 rfl ?_
  refine ws_iconst C (nI 5) d_M_stop_1 (by decide) ?_
  refine ws_callSi C w_M_94 (As := [_, _]) (c_M_outside hR v 5) d_M_stop_2 rfl rfl (Nat.le_of_ble_eq_true rfl) (by decide) (by decide) (by decide) (fun S hR => ?_)
  refine ws_if_neB C d_M_stop_5 (fun h5 => ?_) (fun h5 => ?_)
  · have xv : inN v 5 = false := by simpa using h5
    refine ws_iconst C (nI 0) d_M_stop_17 (by decide) ?_
    exact ws_zret C R d_M_stop_18 rfl (by decide) (by decide) (by decide) ⟨by simp [stpF, bI, nI_0, xv], by simp [stpF, xv]; exact hR⟩
  · have xv : inN v 5 = true := by simpa using h5
    obtain ⟨v, bv, rfl⟩ := inN_of xv (by decide)
    have ev : ix (nI v) = v := ix_n (by omega)
    have hb1 : G.1 1 v ≤ 1 := hO 1 v
    have hb8 : G.1 8 0 ≤ 12 := hO 8 0
    refine ws_aload_n C d_M_stop_8 rfl ?_
    refine wm_arr C hR 1 d_M_stop_9 f_M_7 rfl rfl rfl ?_
    refine ws_iload_n C d_M_stop_12 rfl ?_
    refine wm_zldN C hR 1 d_M_stop_13 rfl rfl (by decide) (show _ < 6 by first | omega | exact okl hO _ _) ?_
    refine ws_if_neN C d_M_stop_14 (by first | omega | exact okl hO _ _) (fun h14 => ?_) (fun h14 => ?_)
    · refine ws_iconst C (nI 0) d_M_stop_19 (by decide) ?_
      refine ws_istore_n C d_M_stop_20 (by rw [hn]; decide) ?_
      refine ws_iconst C (nI 0) d_M_stop_21 (by decide) ?_
      refine ws_istore_n C d_M_stop_22 (by rw [hn]; decide) ?_
      have h1 : G.1 1 v = 1 := by omega
      have eP : stpF G (nI v) = (if otN G v 6 = true then (true, los (gN (gN G 1 v 0) 28 v (G.1 27 0)) v (G.1 8 0 + 1)) else (false, G)) := by simp [stpF, xv, ev, h1]
      rw [eP] at R
      suffices hL : ∀ n w, w + n = 6 → ∀ (S : Sto) (b : Nat), nI b = bI (otN G v w) → b ≤ 1 → MR o ad G S → WS F 23 [some (.ref o), some (.int (nI v)), some (.int (nI b)), some (.int (nI w))] [] S 0 0 from hL 6 0 rfl S 0 rfl (by omega) hR
      intro n
      induction n with
      | zero =>
        intro w hw S b hb hb1 hR
        have e : w = 6 := by omega
        subst e
        refine ws_iload_n C d_M_stop_23 rfl ?_
        refine ws_bipush C (nI 6) d_M_stop_24 (by decide) ?_
        refine ws_icmp_geN C d_M_stop_26 (by first | omega | exact okl hO _ _) (by first | omega | exact okl hO _ _) (fun h26 => ?_) (fun h26 => ?_)
        · refine ws_iload_n C d_M_stop_58 rfl ?_
          refine ws_if_neN C d_M_stop_59 (by omega) (fun h59 => ?_) (fun h59 => ?_)
          · have ht : otN G v 6 = true := bI_nz hb h59
            rw [if_pos ht] at R
            refine ws_aload_n C d_M_stop_64 rfl ?_
            refine wm_arr C hR 1 d_M_stop_65 f_M_7 rfl rfl rfl ?_
            refine ws_iload_n C d_M_stop_68 rfl ?_
            refine ws_iconst C (nI 0) d_M_stop_69 (by decide) ?_
            refine wm_zst C hR 1 d_M_stop_70 rfl rfl (by decide) (show _ < 6 by first | omega | exact okl hO _ _) (by decide) (fun S hR => ?_)
            refine ws_aload_n C d_M_stop_71 rfl ?_
            refine ws_iload_n C d_M_stop_72 rfl ?_
            refine ws_aload_n C d_M_stop_73 rfl ?_
            refine wm_8 C hR d_M_stop_74 f_M_87 ?_
            refine ws_top (nI (G.1 8 0)) (by simp [gN_1, gN_2, gV_1, gV_2]) ?_
            refine ws_iconst C (nI 1) d_M_stop_77 (by decide) ?_
            refine ws_iaddN C d_M_stop_78 ?_
            refine ws_callVv C w_M_167 (As := [_, _]) (c_M_lose (hR.same (G' := gN (gN G 1 v 0) 28 v (G.1 27 0)) (fun j hj => gN_ne _ (by omega)) (fun j _ => rfl)) (ok_gN (ok_gN hO (by decide)) (hO 27 0)) (by omega) (by omega)) d_M_stop_79 rfl rfl hR.1 (Nat.le_of_ble_eq_true rfl) (by decide) (by decide) (by decide) (fun S hR => ?_)
            refine ws_iconst C (nI 1) d_M_stop_82 (by decide) ?_
            exact ws_zret C R d_M_stop_83 rfl (by decide) (by decide) (by decide) ⟨rfl, hR⟩
          · have ht : otN G v 6 = false := bI_z hb h59
            rw [if_neg (by rw [ht]; decide)] at R
            refine ws_iconst C (nI 0) d_M_stop_62 (by decide) ?_
            exact ws_zret C R d_M_stop_63 rfl (by decide) (by decide) (by decide) ⟨rfl, hR⟩
        · omega
      | succ n ih =>
        intro w hw S b hb hb1 hR
        have ew : ix (nI w) = w := ix_n (by omega)
        have iw : inN (nI w) 5 = true := inN_n (by omega)
        have esv : svs G (nI w) = (G.1 1 w == 1 && G.1 2 w == 1) := by simp [svs, iw, ew]
        refine ws_iload_n C d_M_stop_23 rfl ?_
        refine ws_bipush C (nI 6) d_M_stop_24 (by decide) ?_
        refine ws_icmp_geN C d_M_stop_26 (by first | omega | exact okl hO _ _) (by first | omega | exact okl hO _ _) (fun h26 => ?_) (fun h26 => ?_)
        · omega
        · refine ws_iload_n C d_M_stop_29 rfl ?_
          refine ws_if_neN C d_M_stop_30 (by first | omega | exact okl hO _ _) (fun h30 => ?_) (fun h30 => ?_)
          · refine ws_iconst C (nI 1) d_M_stop_46 (by decide) ?_
            refine ws_goto C d_M_stop_47 ?_
            refine ws_istore_n C d_M_stop_51 (by rw [hn]; decide) ?_
            refine ws_iinc C _ d_M_stop_52 rfl (inc1 _) (by rw [hn]; decide) ?_
            refine ws_goto C d_M_stop_55 ?_
            exact ih (w + 1) (by omega) S _ (by rw [otN_1 (bI_nz hb h30)]; rfl) (by decide) hR
          · refine ws_iload_n C d_M_stop_33 rfl ?_
            refine ws_iload_n C d_M_stop_34 rfl ?_
            refine ws_icmp_eqN C d_M_stop_35 (by first | omega | exact okl hO _ _) (by first | omega | exact okl hO _ _) (fun h35 => ?_) (fun h35 => ?_)
            · refine ws_iconst C (nI 0) d_M_stop_50 (by decide) ?_
              refine ws_istore_n C d_M_stop_51 (by rw [hn]; decide) ?_
              refine ws_iinc C _ d_M_stop_52 rfl (inc1 _) (by rw [hn]; decide) ?_
              refine ws_goto C d_M_stop_55 ?_
              exact ih (w + 1) (by omega) S _ (by rw [otN_2 (bI_z hb h30) h35]; rfl) (by decide) hR
            · refine ws_aload_n C d_M_stop_38 rfl ?_
              refine ws_iload_n C d_M_stop_39 rfl ?_
              refine ws_callVi C w_M_147 (As := [_]) (c_M_serves hR hO (nI w)) d_M_stop_40 rfl rfl hR.1 (Nat.le_of_ble_eq_true rfl) (by decide) (by decide) (by decide) (fun S hR => ?_)
              refine ws_if_eqB C d_M_stop_43 (fun h43 => ?_) (fun h43 => ?_)
              · refine ws_iconst C (nI 0) d_M_stop_50 (by decide) ?_
                refine ws_istore_n C d_M_stop_51 (by rw [hn]; decide) ?_
                refine ws_iinc C _ d_M_stop_52 rfl (inc1 _) (by rw [hn]; decide) ?_
                refine ws_goto C d_M_stop_55 ?_
                exact ih (w + 1) (by omega) S _ (by rw [otN_3 (bI_z hb h30) (by rw [← esv]; exact h43)]; rfl) (by decide) hR
              · refine ws_iconst C (nI 1) d_M_stop_46 (by decide) ?_
                refine ws_goto C d_M_stop_47 ?_
                refine ws_istore_n C d_M_stop_51 (by rw [hn]; decide) ?_
                refine ws_iinc C _ d_M_stop_52 rfl (inc1 _) (by rw [hn]; decide) ?_
                refine ws_goto C d_M_stop_55 ?_
                exact ih (w + 1) (by omega) S _ (by rw [otN_4 h35 (by rw [← esv]; exact h43)]; rfl) (by decide) hR
    · refine ws_iconst C (nI 0) d_M_stop_17 (by decide) ?_
      exact ws_zret C R d_M_stop_18 rfl (by decide) (by decide) (by decide) ⟨by simp [stpF, bI, nI_0, xv, ev, h14], by simp [stpF, xv, ev, h14]; exact hR⟩
set_option maxHeartbeats 4000000 in
set_option maxRecDepth 100000 in
theorem c_M_join {V : Ev} {o : Nat} {ad : Nat → Nat} {G : GS} {S : Sto} (hR : MR o ad G S) (hO : OK G) : CT V mi_M_join 0 0 [.ref o] S (Pi (jnF G).1 (MR o ad (jnF G).2)) := by
  refine CT.of (cc := prog_8_method_34_code) (own := "ChainVersionsModel") (nL := 2) (d := 0) (by decide) rfl rfl rfl rfl (by simp [Value.category]) (Nat.le_of_ble_eq_true rfl) rfl ?_
  intro F hV hn C R
  subst hV
  have hb0 : G.1 0 0 ≤ 6 := hO 0 0
  have hb8 : G.1 8 0 ≤ 12 := hO 8 0
  have hb7 : G.1 7 (G.1 8 0) ≤ 63 := hO 7 _
  refine ws_aload_n C d_M_join_0 rfl ?_
  refine wm_0 C hR d_M_join_1 f_M_83 ?_
  refine ws_bipush C (nI 6) d_M_join_4 (by decide) ?_
  refine ws_icmp_neN C d_M_join_6 (by first | omega | exact okl hO _ _) (by first | omega | exact okl hO _ _) (fun h6 => ?_) (fun h6 => ?_)
  · refine ws_aload_n C d_M_join_11 rfl ?_
    refine wm_0 C hR d_M_join_12 f_M_83 ?_
    refine ws_istore_n C d_M_join_15 (by rw [hn]; decide) ?_
    refine ws_aload_n C d_M_join_16 rfl ?_
    refine ws_dup C d_M_join_17 rfl ?_
    refine wm_0 C hR d_M_join_18 f_M_83 ?_
    refine ws_top (nI (G.1 0 0)) (by simp [gN_1, gN_2, gV_1, gV_2]) ?_
    refine ws_iconst C (nI 1) d_M_join_21 (by decide) ?_
    refine ws_iaddN C d_M_join_22 ?_
    refine wm_put C hR 0 (by decide) d_M_join_23 f_M_83 (fun S hR => ?_)
    refine ws_aload_n C d_M_join_26 rfl ?_
    refine ws_dup C d_M_join_27 rfl ?_
    refine wm_8 C hR d_M_join_28 f_M_87 ?_
    refine ws_top (nI (G.1 8 0)) (by simp [gN_1, gN_2, gV_1, gV_2]) ?_
    refine ws_iconst C (nI 1) d_M_join_31 (by decide) ?_
    refine ws_iaddN C d_M_join_32 ?_
    refine wm_put C hR 8 (by decide) d_M_join_33 f_M_87 (fun S hR => ?_)
    refine ws_aload_n C d_M_join_36 rfl ?_
    refine wm_arr C hR 7 d_M_join_37 f_M_29 rfl rfl rfl ?_
    refine ws_aload_n C d_M_join_40 rfl ?_
    refine wm_8 C hR d_M_join_41 f_M_87 ?_
    refine ws_top (nI (G.1 8 0 + 1)) (by simp [gN_1, gN_2, gV_1, gV_2]) ?_
    refine ws_aload_n C d_M_join_44 rfl ?_
    refine wm_arr C hR 7 d_M_join_45 f_M_29 rfl rfl rfl ?_
    refine ws_aload_n C d_M_join_48 rfl ?_
    refine wm_8 C hR d_M_join_49 f_M_87 ?_
    refine ws_top (nI (G.1 8 0 + 1)) (by simp [gN_1, gN_2, gV_1, gV_2]) ?_
    refine ws_iconst C (nI 1) d_M_join_52 (by decide) ?_
    refine ws_isubN C d_M_join_53 (by first | omega | exact okl hO _ _) ?_
    refine ws_top (nI (G.1 8 0)) (by rw [Nat.add_sub_cancel]) ?_
    refine wm_aldN C hR 7 d_M_join_54 rfl rfl (by decide) (show _ < 14 by first | omega | exact okl hO _ _) ?_
    refine ws_top (nI (G.1 7 (G.1 8 0))) (by simp [gN_1, gN_2, gV_1, gV_2]) ?_
    refine ws_iconst C (nI 1) d_M_join_55 (by decide) ?_
    refine ws_iload_n C d_M_join_56 rfl ?_
    refine ws_ishl C d_M_join_57 ?_
    refine ws_ior C d_M_join_58 ?_
    refine ws_top (nI (G.1 7 (G.1 8 0) ||| 1 <<< G.1 0 0)) (or1 hb7 (by omega)) ?_
    refine wm_astN C hR 7 d_M_join_59 rfl rfl (by decide) (show _ < 14 by first | omega | exact okl hO _ _) (fun S hR => ?_)
    refine ws_aload_n C d_M_join_60 rfl ?_
    refine wm_arr C hR 1 d_M_join_61 f_M_7 rfl rfl rfl ?_
    refine ws_iload_n C d_M_join_64 rfl ?_
    refine ws_iconst C (nI 1) d_M_join_65 (by decide) ?_
    refine wm_zst C hR 1 d_M_join_66 rfl rfl (by decide) (show _ < 6 by first | omega | exact okl hO _ _) (by decide) (fun S hR => ?_)
    refine ws_aload_n C d_M_join_67 rfl ?_
    refine wm_arr C hR 3 d_M_join_68 f_M_16 rfl rfl rfl ?_
    refine ws_iload_n C d_M_join_71 rfl ?_
    refine ws_aload_n C d_M_join_72 rfl ?_
    refine wm_8 C hR d_M_join_73 f_M_87 ?_
    refine ws_top (nI (G.1 8 0 + 1)) (by simp [gN_1, gN_2, gV_1, gV_2]) ?_
    refine wm_astN C hR 3 d_M_join_76 rfl rfl (by decide) (show _ < 6 by first | omega | exact okl hO _ _) (fun S hR => ?_)
    refine ws_iload_n C d_M_join_77 rfl ?_
    exact ws_iret C R d_M_join_78 rfl (by decide) (by decide) ⟨by rw [jnF, if_neg h6], by rw [jnF, if_neg h6]; exact hR⟩
  · refine ws_iconst C (-1) d_M_join_9 (by decide) ?_
    exact ws_iret C R d_M_join_10 rfl (by decide) (by decide) ⟨by rw [jnF, if_pos h6], by rw [jnF, if_pos h6]; exact hR⟩
set_option maxHeartbeats 4000000 in
set_option maxRecDepth 100000 in
theorem c_M_member {V : Ev} {o : Nat} {ad : Nat → Nat} {G : GS} {S : Sto} (hR : MR o ad G S) (hO : OK G) (k : Int32) : CT V mi_M_member 0 0 [.ref o, .int k] S (Pi (mbF G k) (MR o ad G)) := by
  refine CT.of (cc := prog_8_method_37_code) (own := "ChainVersionsModel") (nL := 4) (d := 1) (by decide) rfl rfl rfl rfl (by simp [Value.category]) (Nat.le_of_ble_eq_true rfl) rfl ?_
  intro F hV hn C R
  subst hV
  have hb8 : G.1 8 0 ≤ 12 := hO 8 0
  refine ws_iload_n C d_M_member_0 rfl ?_
  refine ws_if_ge C d_M_member_1 (fun h1 => ?_) (fun h1 => ?_)
  · have h0 : ¬ k < 0 := Int32.not_lt.mpr h1
    obtain ⟨k, bk, rfl⟩ := nI_of h0
    have ek : ix (nI k) = k := ix_n bk
    have eP : mbF G (nI k) = oI (mbN G (G.1 8 0) 6 k) := by rw [mbF, if_neg h0, ek]
    rw [eP] at R
    refine ws_iload_n C d_M_member_6 rfl ?_
    refine ws_istore_n C d_M_member_7 (by rw [hn]; decide) ?_
    refine ws_iconst C (nI 0) d_M_member_8 (by decide) ?_
    refine ws_istore_n C d_M_member_9 (by rw [hn]; decide) ?_
    suffices hL : ∀ n w l, w + n = 6 → l < 2 ^ 31 → mbN G (G.1 8 0) n l = mbN G (G.1 8 0) 6 k → ∀ S : Sto, MR o ad G S → WS F 10 [some (.ref o), some (.int (nI k)), some (.int (nI l)), some (.int (nI w))] [] S 0 0 from hL 6 0 k rfl bk rfl S hR
    intro n
    induction n with
    | zero =>
      intro w l hw hl hp S hR
      refine ws_iload_n C d_M_member_10 rfl ?_
      refine ws_bipush C (nI 6) d_M_member_11 (by decide) ?_
      refine ws_icmp_geN C d_M_member_13 (by first | omega | exact okl hO _ _) (by first | omega | exact okl hO _ _) (fun h13 => ?_) (fun h13 => ?_)
      · refine ws_iconst C (-1) d_M_member_43 (by decide) ?_
        exact ws_iret C R d_M_member_44 rfl (by decide) (by decide) ⟨by rw [← hp]; rfl, hR⟩
      · omega
    | succ n ih =>
      intro w l hw hl hp S hR
      have e : 5 - n = w := by omega
      rw [mbN, e] at hp
      refine ws_iload_n C d_M_member_10 rfl ?_
      refine ws_bipush C (nI 6) d_M_member_11 (by decide) ?_
      refine ws_icmp_geN C d_M_member_13 (by first | omega | exact okl hO _ _) (by first | omega | exact okl hO _ _) (fun h13 => ?_) (fun h13 => ?_)
      · omega
      · refine ws_aload_n C d_M_member_16 rfl ?_
        refine ws_aload_n C d_M_member_17 rfl ?_
        refine wm_8 C hR d_M_member_18 f_M_87 ?_
        refine ws_iload_n C d_M_member_21 rfl ?_
        refine ws_callVi C w_M_90 (As := [_, _]) (c_M_isIn hR hO (by omega) (by omega)) d_M_member_22 rfl rfl hR.1 (Nat.le_of_ble_eq_true rfl) (by decide) (by decide) (by decide) (fun S hR => ?_)
        refine ws_if_eqB C d_M_member_25 (fun h25 => ?_) (fun h25 => ?_)
        · refine ws_iinc C _ d_M_member_37 rfl (inc1 _) (by rw [hn]; decide) ?_
          refine ws_goto C d_M_member_40 ?_
          exact ih (w + 1) l (by omega) hl (by rw [← hp, if_neg (by rw [h25]; decide)]) S hR
        · refine ws_iload_n C d_M_member_28 rfl ?_
          refine ws_if_neN C d_M_member_29 (by first | omega | exact okl hO _ _) (fun h29 => ?_) (fun h29 => ?_)
          · refine ws_iinc C _ d_M_member_34 rfl (dec1 (by first | omega | exact okl hO _ _)) (by rw [hn]; decide) ?_
            refine ws_iinc C _ d_M_member_37 rfl (inc1 _) (by rw [hn]; decide) ?_
            refine ws_goto C d_M_member_40 ?_
            exact ih (w + 1) (l - 1) (by omega) (by omega) (by rw [← hp, if_pos h25, if_neg h29]) S hR
          · refine ws_iload_n C d_M_member_32 rfl ?_
            exact ws_iret C R d_M_member_33 rfl (by decide) (by decide) ⟨by rw [← hp, if_pos h25, if_pos h29]; rfl, hR⟩
  · refine ws_iconst C (-1) d_M_member_4 (by decide) ?_
    exact ws_iret C R d_M_member_5 rfl (by decide) (by decide) ⟨by rw [mbF, if_pos (Int32.not_le.mp h1)], hR⟩
set_option maxHeartbeats 4000000 in
set_option maxRecDepth 100000 in
theorem c_M_version {V : Ev} {o : Nat} {ad : Nat → Nat} {G : GS} {S : Sto} (hR : MR o ad G S) (hO : OK G) (hse : ∀ v, G.1 5 v ≤ G.1 4 v) (v k a : Int32) : CT V mi_M_version 0 0 [.ref o, .int v, .int k, .int a] S (Pi (vrF G v k a) (MR o ad G)) := by
  refine CT.of (cc := prog_8_method_41_code) (own := "ChainVersionsModel") (nL := 7) (d := 2) (by decide) rfl rfl rfl rfl (by simp [Value.category]) (Nat.le_of_ble_eq_true rfl) rfl ?_
  intro F hV hn C R
  subst hV
  refine ws_aload_n C d_M_version_0 rfl ?_
  refine ws_iload_n C d_M_version_1 rfl ?_
  refine ws_callVi C w_M_147 (As := [_]) (c_M_serves hR hO v) d_M_version_2 rfl rfl hR.1 (Nat.le_of_ble_eq_true rfl) (by decide) (by decide) (by decide) (fun S hR => ?_)
  refine ws_if_eqB C d_M_version_5 (fun h5 => ?_) (fun h5 => ?_)
  · refine ws_iconst C (-1) d_M_version_20 (by decide) ?_
    exact ws_iret C R d_M_version_21 rfl (by decide) (by decide) ⟨by simp [vrF, vrB, h5], hR⟩
  · obtain ⟨v, bv, rfl⟩ := inN_of (svs_in h5) (by decide)
    have ev : ix (nI v) = v := ix_n (by omega)
    have hb4 : G.1 4 v ≤ 100 := hO 4 v
    have hb5 : G.1 5 v ≤ 100 := hO 5 v
    have hs5 := hse v
    refine ws_iload_n C d_M_version_8 rfl ?_
    refine ws_iconst C (nI 3) d_M_version_9 (by decide) ?_
    refine ws_callSi C w_M_94 (As := [_, _]) (c_M_outside hR k 3) d_M_version_10 rfl rfl (Nat.le_of_ble_eq_true rfl) (by decide) (by decide) (by decide) (fun S hR => ?_)
    refine ws_if_neB C d_M_version_13 (fun h13 => ?_) (fun h13 => ?_)
    · have xk : inN k 3 = false := by simpa using h13
      refine ws_iconst C (-1) d_M_version_20 (by decide) ?_
      exact ws_iret C R d_M_version_21 rfl (by decide) (by decide) ⟨by simp [vrF, vrB, h5, xk], hR⟩
    · have xk : inN k 3 = true := by simpa using h13
      obtain ⟨k, bk, rfl⟩ := inN_of xk (by decide)
      have ek : ix (nI k) = k := ix_n (by omega)
      refine ws_iload_n C d_M_version_16 rfl ?_
      refine ws_if_ge C d_M_version_17 (fun h17 => ?_) (fun h17 => ?_)
      · have h0 : ¬ a < 0 := Int32.not_lt.mpr h17
        obtain ⟨a, ba, rfl⟩ := nI_of h0
        have ea : ix (nI a) = a := ix_n ba
        have eP : vrF G (nI v) (nI k) (nI a) = nI (vrN G v k (G.1 4 v - G.1 5 v) (G.1 5 v + 1) a (clN G v k)) := by simp [vrF, vrB, vrX, h5, xk, h0, ev, ek, ea]
        rw [eP] at R
        refine ws_aload_n C d_M_version_22 rfl ?_
        refine ws_iload_n C d_M_version_23 rfl ?_
        refine ws_iload_n C d_M_version_24 rfl ?_
        refine ws_callVi C w_M_128 (As := [_, _]) (c_M_cleanNumber hR hO (by omega) (by omega)) d_M_version_25 rfl rfl hR.1 (Nat.le_of_ble_eq_true rfl) (by decide) (by decide) (by decide) (fun S hR => ?_)
        refine ws_istore C d_M_version_28 (by rw [hn]; decide) ?_
        refine ws_iload_n C d_M_version_30 rfl ?_
        refine ws_istore C d_M_version_31 (by rw [hn]; decide) ?_
        refine ws_aload_n C d_M_version_33 rfl ?_
        refine wm_arr C hR 5 d_M_version_34 f_M_23 rfl rfl rfl ?_
        refine ws_iload_n C d_M_version_37 rfl ?_
        refine wm_aldN C hR 5 d_M_version_38 rfl rfl (by decide) (show _ < 6 by first | omega | exact okl hO _ _) ?_
        refine ws_iconst C (nI 1) d_M_version_39 (by decide) ?_
        refine ws_iaddN C d_M_version_40 ?_
        refine ws_istore C d_M_version_41 (by rw [hn]; decide) ?_
        suffices hL : ∀ n i l r, i + n = G.1 4 v + 1 → l < 2 ^ 31 → vrN G v k n i l r = vrN G v k (G.1 4 v - G.1 5 v) (G.1 5 v + 1) a (clN G v k) → ∀ S : Sto, MR o ad G S → WS F 43 [some (.ref o), some (.int (nI v)), some (.int (nI k)), some (.int (nI a)), some (.int (nI r)), some (.int (nI l)), some (.int (nI i))] [] S 0 0 from hL (G.1 4 v - G.1 5 v) (G.1 5 v + 1) a _ (by omega) ba rfl S hR
        intro n
        induction n with
        | zero =>
          intro i l r hi hl hp S hR
          refine ws_iload C d_M_version_43 rfl ?_
          refine ws_aload_n C d_M_version_45 rfl ?_
          refine wm_arr C hR 4 d_M_version_46 f_M_20 rfl rfl rfl ?_
          refine ws_iload_n C d_M_version_49 rfl ?_
          refine wm_aldN C hR 4 d_M_version_50 rfl rfl (by decide) (show _ < 6 by first | omega | exact okl hO _ _) ?_
          refine ws_icmp_gtN C d_M_version_51 (by first | omega | exact okl hO _ _) (by first | omega | exact okl hO _ _) (fun h51 => ?_) (fun h51 => ?_)
          · refine ws_iload C d_M_version_89 rfl ?_
            exact ws_iret C R d_M_version_91 rfl (by decide) (by decide) ⟨by rw [← hp, vrN], hR⟩
          · omega
        | succ n ih =>
          intro i l r hi hl hp S hR
          rw [vrN] at hp
          refine ws_iload C d_M_version_43 rfl ?_
          refine ws_aload_n C d_M_version_45 rfl ?_
          refine wm_arr C hR 4 d_M_version_46 f_M_20 rfl rfl rfl ?_
          refine ws_iload_n C d_M_version_49 rfl ?_
          refine wm_aldN C hR 4 d_M_version_50 rfl rfl (by decide) (show _ < 6 by first | omega | exact okl hO _ _) ?_
          refine ws_icmp_gtN C d_M_version_51 (by first | omega | exact okl hO _ _) (by first | omega | exact okl hO _ _) (fun h51 => ?_) (fun h51 => ?_)
          · omega
          · refine ws_iload C d_M_version_54 rfl ?_
            refine ws_if_leN C d_M_version_56 (by first | omega | exact okl hO _ _) (fun h56 => ?_) (fun h56 => ?_)
            · refine ws_iload C d_M_version_89 rfl ?_
              exact ws_iret C R d_M_version_91 rfl (by decide) (by decide) ⟨by rw [← hp, if_pos h56], hR⟩
            · refine ws_aload_n C d_M_version_59 rfl ?_
              refine wm_arr C hR 9 d_M_version_60 f_M_32 rfl rfl rfl ?_
              refine ws_sipush C (nI 128) d_M_version_63 (by decide) ?_
              refine ws_iload_n C d_M_version_66 rfl ?_
              refine ws_imulN C d_M_version_67 ?_
              refine ws_iload C d_M_version_68 rfl ?_
              refine ws_iaddN C d_M_version_70 ?_
              refine wm_aldN C hR 9 d_M_version_71 rfl rfl (by decide) (show _ < 768 by first | omega | exact okl hO _ _) ?_
              refine ws_iload_n C d_M_version_72 rfl ?_
              refine ws_icmp_neN C d_M_version_73 (by first | omega | exact okl hO _ _) (by first | omega | exact okl hO _ _) (fun h73 => ?_) (fun h73 => ?_)
              · refine ws_iinc C _ d_M_version_83 rfl (inc1 _) (by rw [hn]; decide) ?_
                refine ws_goto C d_M_version_86 ?_
                exact ih (i + 1) l r (by omega) hl (by rw [← hp, if_neg (by omega), if_neg h73]) S hR
              · refine ws_iload C d_M_version_76 rfl ?_
                refine ws_istore C d_M_version_78 (by rw [hn]; decide) ?_
                refine ws_iinc C _ d_M_version_80 rfl (dec1 (by first | omega | exact okl hO _ _)) (by rw [hn]; decide) ?_
                refine ws_iinc C _ d_M_version_83 rfl (inc1 _) (by rw [hn]; decide) ?_
                refine ws_goto C d_M_version_86 ?_
                exact ih (i + 1) (l - 1) i (by omega) (by omega) (by rw [← hp, if_neg (by omega), if_pos h73]) S hR
      · refine ws_iconst C (-1) d_M_version_20 (by decide) ?_
        exact ws_iret C R d_M_version_21 rfl (by decide) (by decide) ⟨by simp [vrF, vrB, h5, xk, (Int32.not_le.mp h17)], hR⟩
set_option maxHeartbeats 4000000 in
set_option maxRecDepth 100000 in
theorem c_M_look {V : Ev} {o : Nat} {ad : Nat → Nat} {G : GS} {S : Sto} (hR : MR o ad G S) (hO : OK G) (hse : ∀ v, G.1 5 v ≤ G.1 4 v) (v k a : Int32) : CT V mi_M_look 0 0 [.ref o, .int v, .int k, .int a] S (Pi (lkF G v k a) (MR o ad G)) := by
  refine CT.of (cc := prog_8_method_42_code) (own := "ChainVersionsModel") (nL := 5) (d := 3) (by decide) rfl rfl rfl rfl (by simp [Value.category]) (Nat.le_of_ble_eq_true rfl) rfl ?_
  intro F hV hn C R
  subst hV
  refine ws_aload_n C d_M_look_0 rfl ?_
  refine ws_iload_n C d_M_look_1 rfl ?_
  refine ws_iload_n C d_M_look_2 rfl ?_
  refine ws_iload_n C d_M_look_3 rfl ?_
  refine ws_callVi C w_M_171 (As := [_, _, _]) (c_M_version hR hO hse v k a) d_M_look_4 rfl rfl hR.1 (Nat.le_of_ble_eq_true rfl) (by decide) (by decide) (by decide) (fun S hR => ?_)
  by_cases hB : vrB G v k a = true
  · have e : vrF G v k a = nI (vrX G v k a) := by rw [vrF, if_pos hB]
    have hx := vrX_le hO hse v k a
    have hin : inN v 5 = true := by simp only [vrB, Bool.and_eq_true] at hB; exact svs_in hB.1
    have e2 : lkF G v k a = valAt G (ix v) (vrX G v k a) := by rw [lkF, if_pos hB]
    rw [e2] at R
    rw [e]
    generalize vrX G v k a = r at *
    obtain ⟨v, bv, rfl⟩ := inN_of hin (by decide)
    rw [ix_n (show v < 2 ^ 31 by omega)] at R
    refine ws_istore C d_M_look_7 (by rw [hn]; decide) ?_
    refine ws_iload C d_M_look_9 rfl ?_
    refine ws_if_geN C d_M_look_11 (by omega) ?_
    refine ws_aload_n C d_M_look_18 rfl ?_
    refine ws_iload_n C d_M_look_19 rfl ?_
    refine ws_iload C d_M_look_20 rfl ?_
    refine ws_callVi C w_M_121 (As := [_, _]) (c_M_valueAt hR hO bv hx) d_M_look_22 rfl rfl hR.1 (Nat.le_of_ble_eq_true rfl) (by decide) (by decide) (by decide) (fun S hR => ?_)
    exact ws_iret C R d_M_look_25 rfl (by decide) (by decide) ⟨rfl, hR⟩
  · have e : vrF G v k a = -1 := by rw [vrF, if_neg hB]
    rw [e]
    refine ws_istore C d_M_look_7 (by rw [hn]; decide) ?_
    refine ws_iload C d_M_look_9 rfl ?_
    refine ws_if_geM C d_M_look_11 ?_
    refine ws_iconst C (nI 0) d_M_look_14 (by decide) ?_
    refine ws_goto C d_M_look_15 ?_
    exact ws_iret C R d_M_look_25 rfl (by decide) (by decide) ⟨by rw [lkF, if_neg hB]; rfl, hR⟩
