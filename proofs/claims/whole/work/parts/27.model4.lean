/-! the reference: serve, write, answer, act, arrive -/
set_option maxHeartbeats 4000000 in
set_option maxRecDepth 100000 in
theorem c_M_serve {V : Ev} {o : Nat} {ad : Nat → Nat} {G : GS} {S : Sto} (hR : MR o ad G S) (hO : OK G) {c v : Nat} (hc : c ≤ 2) (hv : v ≤ 5) : CT V mi_M_serve 0 0 [.ref o, .int (nI c), .int (nI v)] S (Pi (nI (srv G c v).1) (MR o ad (srv G c v).2)) := by
  refine CT.of (cc := prog_8_method_19_code) (own := "ChainVersionsModel") (nL := 4) (d := 2) (by decide) rfl rfl rfl rfl (by simp [Value.category]) (Nat.le_of_ble_eq_true rfl) rfl ?_
  intro F hV hn C R
  subst hV
  have hb15 : G.1 15 c ≤ 3 := hO 15 c
  have hb3 : G.1 3 v ≤ 12 := hO 3 v
  refine ws_aload_n C d_M_serve_0 rfl ?_
  refine wm_arr C hR 17 d_M_serve_1 f_M_56 rfl rfl rfl ?_
  refine ws_iload_n C d_M_serve_4 rfl ?_
  refine ws_iload_n C d_M_serve_5 rfl ?_
  refine wm_astN C hR 17 d_M_serve_6 rfl rfl (by decide) (show _ < 3 by first | omega | exact okl hO _ _) (fun S hR => ?_)
  refine ws_aload_n C d_M_serve_7 rfl ?_
  refine wm_arr C hR 15 d_M_serve_8 f_M_50 rfl rfl rfl ?_
  refine ws_iload_n C d_M_serve_11 rfl ?_
  refine wm_aldN C hR 15 d_M_serve_12 rfl rfl (by decide) (show _ < 3 by first | omega | exact okl hO _ _) ?_
  refine ws_top (nI (G.1 15 c)) (by simp [gN_1, gN_2, gV_1, gV_2]) ?_
  refine ws_istore_n C d_M_serve_13 (by rw [hn]; decide) ?_
  refine ws_aload_n C d_M_serve_14 rfl ?_
  refine ws_iload_n C d_M_serve_15 rfl ?_
  refine ws_iload_n C d_M_serve_16 rfl ?_
  refine ws_callVi C w_M_125 (As := [_, _]) (c_M_isClean hR (ok_gN hO hv) hv hb15) d_M_serve_17 rfl rfl hR.1 (Nat.le_of_ble_eq_true rfl) (by decide) (by decide) (by decide) (fun S hR => ?_)
  refine ws_top (bI (isCl G v (G.1 15 c))) (by rw [isCl_c (gN_ne _ (by decide)) (gN_ne _ (by decide)) (gN_ne _ (by decide))]) ?_
  refine ws_if_eqB C d_M_serve_20 (fun h20 => ?_) (fun h20 => ?_)
  · refine ws_aload_n C d_M_serve_37 rfl ?_
    refine ws_iload_n C d_M_serve_38 rfl ?_
    refine ws_aload_n C d_M_serve_39 rfl ?_
    refine ws_aload_n C d_M_serve_40 rfl ?_
    refine wm_arr C hR 3 d_M_serve_41 f_M_16 rfl rfl rfl ?_
    refine ws_iload_n C d_M_serve_44 rfl ?_
    refine wm_aldN C hR 3 d_M_serve_45 rfl rfl (by decide) (show _ < 6 by first | omega | exact okl hO _ _) ?_
    refine ws_top (nI (G.1 3 v)) (by simp [gN_1, gN_2, gV_1, gV_2]) ?_
    refine ws_callVi C w_M_135 (As := [_]) (c_M_tailOf hR (ok_gN hO hv) (by omega)) d_M_serve_46 rfl rfl hR.1 (Nat.le_of_ble_eq_true rfl) (by decide) (by decide) (by decide) (fun S hR => ?_)
    refine ws_top (oI (tlo G (G.1 3 v))) (by rw [tlo_c (gN_ne _ (by decide))]) ?_
    refine ws_iconst C (nI 3) d_M_serve_49 (by decide) ?_
    refine ws_iload_n C d_M_serve_50 rfl ?_
    refine ws_iload_n C d_M_serve_51 rfl ?_
    refine ws_callVv C w_M_114 (As := [_, _, _, _, _]) (c_M_send hR (ok_gN hO hv) (w := tlo G (G.1 3 v)) hv (fun x hx => tlo_le hx)) d_M_serve_52 rfl rfl hR.1 (Nat.le_of_ble_eq_true rfl) (by decide) (by decide) (by decide) (fun S hR => ?_)
    refine ws_bipush C (nI 6) d_M_serve_55 (by decide) ?_
    exact ws_iret C R d_M_serve_57 rfl (by decide) (by decide) ⟨by rw [srv, if_neg (by rw [h20]; decide)], by rw [srv, if_neg (by rw [h20]; decide)]; exact hR.snd29⟩
  · refine ws_aload_n C d_M_serve_23 rfl ?_
    refine ws_iload_n C d_M_serve_24 rfl ?_
    refine ws_iload_n C d_M_serve_25 rfl ?_
    refine ws_aload_n C d_M_serve_26 rfl ?_
    refine ws_iload_n C d_M_serve_27 rfl ?_
    refine ws_iload_n C d_M_serve_28 rfl ?_
    refine ws_callVi C w_M_128 (As := [_, _]) (c_M_cleanNumber hR (ok_gN hO hv) hv hb15) d_M_serve_29 rfl rfl hR.1 (Nat.le_of_ble_eq_true rfl) (by decide) (by decide) (by decide) (fun S hR => ?_)
    refine ws_top (nI (clN G v (G.1 15 c))) (by rw [clN_c (gN_ne _ (by decide)) (gN_ne _ (by decide))]) ?_
    refine ws_callVv C w_M_131 (As := [_, _, _]) (c_M_done hR (ok_gN hO hv) hc hv (clN_le hO _ _)) d_M_serve_32 rfl rfl hR.1 (Nat.le_of_ble_eq_true rfl) (by decide) (by decide) (by decide) (fun S hR => ?_)
    refine ws_iconst C (nI 5) d_M_serve_35 (by decide) ?_
    exact ws_iret C R d_M_serve_36 rfl (by decide) (by decide) ⟨by rw [srv, if_pos h20], by rw [srv, if_pos h20]; exact hR⟩
set_option maxHeartbeats 4000000 in
set_option maxRecDepth 100000 in
theorem c_M_sendWrite {V : Ev} {o : Nat} {ad : Nat → Nat} {G : GS} {S : Sto} (hR : MR o ad G S) (hO : OK G) {c : Nat} (hc : c ≤ 2) (hse : ∀ v, G.1 5 v ≤ G.1 4 v) : CT V mi_M_sendWrite 0 0 [.ref o, .int (nI c)] S (Pi (nI (swr G c).1) (MR o ad (swr G c).2)) := by
  refine CT.of (cc := prog_8_method_20_code) (own := "ChainVersionsModel") (nL := 4) (d := 3) (by decide) rfl rfl rfl rfl (by simp [Value.category]) (Nat.le_of_ble_eq_true rfl) rfl ?_
  intro F hV hn C R
  subst hV
  have hb8 : G.1 8 0 ≤ 12 := hO 8 0
  refine ws_iconst C (nI 0) d_M_sendWrite_0 (by decide) ?_
  refine ws_istore_n C d_M_sendWrite_1 (by rw [hn]; decide) ?_
  suffices hL : ∀ n h, h + n = 5 → hdF G (G.1 8 0) n = hdo G → ∀ S : Sto, MR o ad G S → WS F 2 [some (.ref o), some (.int (nI c)), some (.int (nI h)), none] [] S 0 0 from hL 5 0 rfl rfl S hR
  have h25 : ∀ S : Sto, MR o ad G S → WS F 25 [some (.ref o), some (.int (nI c)), some (.int (nI (hdo G))), none] [] S 0 0 := by
    intro S hR
    have hh := hdo_le G
    have hsw : swr G c = if G.1 1 (hdo G) = 0 ∨ prd G (hdo G) ≠ none then (0, G) else match fwF G (hdo G) c (G.1 4 (hdo G)) 1 with | some i => (if i ≤ G.1 5 (hdo G) then 4 else 3, G) | none => if 8 ≤ G.1 4 (hdo G) - G.1 5 (hdo G) ∨ 100 ≤ G.1 4 (hdo G) then (1, G) else (2, tak G (hdo G) (G.1 15 c) (G.2 16 c) c (G.1 14 c)) := rfl
    generalize hdo G = h at *
    have hb4 : G.1 4 h ≤ 100 := hO 4 h
    have hb5 : G.1 5 h ≤ 100 := hO 5 h
    have hs5 := hse h
    refine ws_aload_n C d_M_sendWrite_25 rfl ?_
    refine wm_arr C hR 1 d_M_sendWrite_26 f_M_7 rfl rfl rfl ?_
    refine ws_iload_n C d_M_sendWrite_29 rfl ?_
    refine wm_zldN C hR 1 d_M_sendWrite_30 rfl rfl (by decide) (show _ < 6 by first | omega | exact okl hO _ _) ?_
    refine ws_if_eqN C d_M_sendWrite_31 (by first | omega | exact okl hO _ _) (fun h31 => ?_) (fun h31 => ?_)
    · refine ws_iconst C (nI 0) d_M_sendWrite_42 (by decide) ?_
      exact ws_iret C R d_M_sendWrite_43 rfl (by decide) (by decide) ⟨by rw [hsw, if_pos (Or.inl h31)], by rw [hsw, if_pos (Or.inl h31)]; exact hR⟩
    · refine ws_aload_n C d_M_sendWrite_34 rfl ?_
      refine ws_iload_n C d_M_sendWrite_35 rfl ?_
      refine ws_callVi C w_M_111 (As := [_]) (c_M_predecessor hR hO (by omega)) d_M_sendWrite_36 rfl rfl hR.1 (Nat.le_of_ble_eq_true rfl) (by decide) (by decide) (by decide) (fun S hR => ?_)
      refine ws_if_ltO C d_M_sendWrite_39 (fun n hn => by have := prd_le hh hn; omega) (fun h39 => ?_) (fun h39 => ?_)
      · rw [if_neg (by rw [h39]; simp; exact h31)] at hsw
        refine ws_iconst C (nI 1) d_M_sendWrite_44 (by decide) ?_
        refine ws_istore_n C d_M_sendWrite_45 (by rw [hn]; decide) ?_
        suffices hL : ∀ n i, i + n = G.1 4 h + 1 → 1 ≤ i → fwF G h c n i = fwF G h c (G.1 4 h) 1 → ∀ S : Sto, MR o ad G S → WS F 46 [some (.ref o), some (.int (nI c)), some (.int (nI h)), some (.int (nI i))] [] S 0 0 from hL _ 1 (by omega) (by omega) rfl S hR
        intro n
        induction n with
        | zero =>
          intro i hi h1 hp S hR
          rw [← hp, fwF] at hsw
          refine ws_iload_n C d_M_sendWrite_46 rfl ?_
          refine ws_aload_n C d_M_sendWrite_47 rfl ?_
          refine wm_arr C hR 4 d_M_sendWrite_48 f_M_20 rfl rfl rfl ?_
          refine ws_iload_n C d_M_sendWrite_51 rfl ?_
          refine wm_aldN C hR 4 d_M_sendWrite_52 rfl rfl (by decide) (show _ < 6 by first | omega | exact okl hO _ _) ?_
          refine ws_icmp_gtN C d_M_sendWrite_53 (by first | omega | exact okl hO _ _) (by first | omega | exact okl hO _ _) (fun h53 => ?_) (fun h53 => ?_)
          · refine ws_aload_n C d_M_sendWrite_115 rfl ?_
            refine wm_arr C hR 4 d_M_sendWrite_116 f_M_20 rfl rfl rfl ?_
            refine ws_iload_n C d_M_sendWrite_119 rfl ?_
            refine wm_aldN C hR 4 d_M_sendWrite_120 rfl rfl (by decide) (show _ < 6 by first | omega | exact okl hO _ _) ?_
            refine ws_aload_n C d_M_sendWrite_121 rfl ?_
            refine wm_arr C hR 5 d_M_sendWrite_122 f_M_23 rfl rfl rfl ?_
            refine ws_iload_n C d_M_sendWrite_125 rfl ?_
            refine wm_aldN C hR 5 d_M_sendWrite_126 rfl rfl (by decide) (show _ < 6 by first | omega | exact okl hO _ _) ?_
            refine ws_isubN C d_M_sendWrite_127 (by first | omega | exact okl hO _ _) ?_
            refine ws_bipush C (nI 8) d_M_sendWrite_128 (by decide) ?_
            refine ws_icmp_geN C d_M_sendWrite_130 (by first | omega | exact okl hO _ _) (by first | omega | exact okl hO _ _) (fun h130 => ?_) (fun h130 => ?_)
            · refine ws_iconst C (nI 1) d_M_sendWrite_144 (by decide) ?_
              exact ws_iret C R d_M_sendWrite_145 rfl (by decide) (by decide) ⟨by rw [hsw]; simp only []; rw [if_pos (Or.inl h130)], by rw [hsw]; simp only []; rw [if_pos (Or.inl h130)]; exact hR⟩
            · refine ws_aload_n C d_M_sendWrite_133 rfl ?_
              refine wm_arr C hR 4 d_M_sendWrite_134 f_M_20 rfl rfl rfl ?_
              refine ws_iload_n C d_M_sendWrite_137 rfl ?_
              refine wm_aldN C hR 4 d_M_sendWrite_138 rfl rfl (by decide) (show _ < 6 by first | omega | exact okl hO _ _) ?_
              refine ws_bipush C (nI 100) d_M_sendWrite_139 (by decide) ?_
              refine ws_icmp_ltN C d_M_sendWrite_141 (by first | omega | exact okl hO _ _) (by first | omega | exact okl hO _ _) (fun h141 => ?_) (fun h141 => ?_)
              · refine ws_aload_n C d_M_sendWrite_146 rfl ?_
                refine ws_iload_n C d_M_sendWrite_147 rfl ?_
                refine ws_aload_n C d_M_sendWrite_148 rfl ?_
                refine wm_arr C hR 15 d_M_sendWrite_149 f_M_50 rfl rfl rfl ?_
                refine ws_iload_n C d_M_sendWrite_152 rfl ?_
                refine wm_aldN C hR 15 d_M_sendWrite_153 rfl rfl (by decide) (show _ < 3 by first | omega | exact okl hO _ _) ?_
                refine ws_aload_n C d_M_sendWrite_154 rfl ?_
                refine wm_arr C hR 16 d_M_sendWrite_155 f_M_53 rfl rfl rfl ?_
                refine ws_iload_n C d_M_sendWrite_158 rfl ?_
                refine wm_aldV C hR 16 d_M_sendWrite_159 rfl rfl (by decide) (show _ < 3 by first | omega | exact okl hO _ _) ?_
                refine ws_iload_n C d_M_sendWrite_160 rfl ?_
                refine ws_aload_n C d_M_sendWrite_161 rfl ?_
                refine wm_arr C hR 14 d_M_sendWrite_162 f_M_47 rfl rfl rfl ?_
                refine ws_iload_n C d_M_sendWrite_165 rfl ?_
                refine wm_aldN C hR 14 d_M_sendWrite_166 rfl rfl (by decide) (show _ < 3 by first | omega | exact okl hO _ _) ?_
                refine ws_callVv C w_M_118 (As := [_, _, _, _, _]) (c_M_take hR hO (by omega) (by omega) (hO 15 c) (by omega) (hO 14 c)) d_M_sendWrite_167 rfl rfl hR.1 (Nat.le_of_ble_eq_true rfl) (by decide) (by decide) (by decide) (fun S hR => ?_)
                refine ws_iconst C (nI 2) d_M_sendWrite_170 (by decide) ?_
                exact ws_iret C R d_M_sendWrite_171 rfl (by decide) (by decide) ⟨by rw [hsw]; simp only []; rw [if_neg (by omega)], by rw [hsw]; simp only []; rw [if_neg (by omega)]; exact hR⟩
              · refine ws_iconst C (nI 1) d_M_sendWrite_144 (by decide) ?_
                exact ws_iret C R d_M_sendWrite_145 rfl (by decide) (by decide) ⟨by rw [hsw]; simp only []; rw [if_pos (Or.inr (by omega))], by rw [hsw]; simp only []; rw [if_pos (Or.inr (by omega))]; exact hR⟩
          · omega
        | succ n ih =>
          intro i hi h1 hp S hR
          refine ws_iload_n C d_M_sendWrite_46 rfl ?_
          refine ws_aload_n C d_M_sendWrite_47 rfl ?_
          refine wm_arr C hR 4 d_M_sendWrite_48 f_M_20 rfl rfl rfl ?_
          refine ws_iload_n C d_M_sendWrite_51 rfl ?_
          refine wm_aldN C hR 4 d_M_sendWrite_52 rfl rfl (by decide) (show _ < 6 by first | omega | exact okl hO _ _) ?_
          refine ws_icmp_gtN C d_M_sendWrite_53 (by first | omega | exact okl hO _ _) (by first | omega | exact okl hO _ _) (fun h53 => ?_) (fun h53 => ?_)
          · omega
          · refine ws_aload_n C d_M_sendWrite_56 rfl ?_
            refine wm_arr C hR 11 d_M_sendWrite_57 f_M_38 rfl rfl rfl ?_
            refine ws_sipush C (nI 128) d_M_sendWrite_60 (by decide) ?_
            refine ws_iload_n C d_M_sendWrite_63 rfl ?_
            refine ws_imulN C d_M_sendWrite_64 ?_
            refine ws_iload_n C d_M_sendWrite_65 rfl ?_
            refine ws_iaddN C d_M_sendWrite_66 ?_
            refine wm_aldN C hR 11 d_M_sendWrite_67 rfl rfl (by decide) (show _ < 768 by first | omega | exact okl hO _ _) ?_
            refine ws_iload_n C d_M_sendWrite_68 rfl ?_
            refine ws_icmp_neN C d_M_sendWrite_69 (by first | omega | exact okl hO _ _) (by first | omega | exact okl hO _ _) (fun h69 => ?_) (fun h69 => ?_)
            · refine ws_iinc C _ d_M_sendWrite_109 rfl (inc1 _) (by rw [hn]; decide) ?_
              refine ws_goto C d_M_sendWrite_112 ?_
              exact ih (i + 1) (by omega) (by omega) (by rw [← hp, fwF, if_neg (by omega)]) S hR
            · refine ws_aload_n C d_M_sendWrite_72 rfl ?_
              refine wm_arr C hR 12 d_M_sendWrite_73 f_M_41 rfl rfl rfl ?_
              refine ws_sipush C (nI 128) d_M_sendWrite_76 (by decide) ?_
              refine ws_iload_n C d_M_sendWrite_79 rfl ?_
              refine ws_imulN C d_M_sendWrite_80 ?_
              refine ws_iload_n C d_M_sendWrite_81 rfl ?_
              refine ws_iaddN C d_M_sendWrite_82 ?_
              refine wm_aldN C hR 12 d_M_sendWrite_83 rfl rfl (by decide) (show _ < 768 by first | omega | exact okl hO _ _) ?_
              refine ws_aload_n C d_M_sendWrite_84 rfl ?_
              refine wm_arr C hR 14 d_M_sendWrite_85 f_M_47 rfl rfl rfl ?_
              refine ws_iload_n C d_M_sendWrite_88 rfl ?_
              refine wm_aldN C hR 14 d_M_sendWrite_89 rfl rfl (by decide) (show _ < 3 by first | omega | exact okl hO _ _) ?_
              refine ws_icmp_neN C d_M_sendWrite_90 (by first | omega | exact okl hO _ _) (by first | omega | exact okl hO _ _) (fun h90 => ?_) (fun h90 => ?_)
              · refine ws_iinc C _ d_M_sendWrite_109 rfl (inc1 _) (by rw [hn]; decide) ?_
                refine ws_goto C d_M_sendWrite_112 ?_
                exact ih (i + 1) (by omega) (by omega) (by rw [← hp, fwF, if_neg (by omega)]) S hR
              · refine ws_iload_n C d_M_sendWrite_93 rfl ?_
                refine ws_aload_n C d_M_sendWrite_94 rfl ?_
                refine wm_arr C hR 5 d_M_sendWrite_95 f_M_23 rfl rfl rfl ?_
                refine ws_iload_n C d_M_sendWrite_98 rfl ?_
                refine wm_aldN C hR 5 d_M_sendWrite_99 rfl rfl (by decide) (show _ < 6 by first | omega | exact okl hO _ _) ?_
                refine ws_icmp_gtN C d_M_sendWrite_100 (by first | omega | exact okl hO _ _) (by first | omega | exact okl hO _ _) (fun h100 => ?_) (fun h100 => ?_)
                · refine ws_iconst C (nI 3) d_M_sendWrite_107 (by decide) ?_
                  exact ws_iret C R d_M_sendWrite_108 rfl (by decide) (by decide) ⟨by rw [hsw, ← hp, fwF, if_pos ⟨h69, h90⟩]; simp only []; rw [if_neg (by omega)], by rw [hsw, ← hp, fwF, if_pos ⟨h69, h90⟩]; exact hR⟩
                · refine ws_iconst C (nI 4) d_M_sendWrite_103 (by decide) ?_
                  refine ws_goto C d_M_sendWrite_104 ?_
                  exact ws_iret C R d_M_sendWrite_108 rfl (by decide) (by decide) ⟨by rw [hsw, ← hp, fwF, if_pos ⟨h69, h90⟩]; simp only []; rw [if_pos (by omega)], by rw [hsw, ← hp, fwF, if_pos ⟨h69, h90⟩]; exact hR⟩
      · refine ws_iconst C (nI 0) d_M_sendWrite_42 (by decide) ?_
        exact ws_iret C R d_M_sendWrite_43 rfl (by decide) (by decide) ⟨by rw [hsw, if_pos (Or.inr h39)], by rw [hsw, if_pos (Or.inr h39)]; exact hR⟩
  intro n
  induction n with
  | zero =>
    intro h hh hp S hR
    have e : h = hdo G := by rw [← hp, hdF]; omega
    refine ws_iload_n C d_M_sendWrite_2 rfl ?_
    refine ws_iconst C (nI 5) d_M_sendWrite_3 (by decide) ?_
    refine ws_icmp_geN C d_M_sendWrite_4 (by first | omega | exact okl hO _ _) (by first | omega | exact okl hO _ _) (fun h4 => ?_) (fun h4 => ?_)
    · rw [e]
      exact h25 S hR
    · omega
  | succ n ih =>
    intro h hh hp S hR
    have e : 4 - n = h := by omega
    rw [hdF, e] at hp
    refine ws_iload_n C d_M_sendWrite_2 rfl ?_
    refine ws_iconst C (nI 5) d_M_sendWrite_3 (by decide) ?_
    refine ws_icmp_geN C d_M_sendWrite_4 (by first | omega | exact okl hO _ _) (by first | omega | exact okl hO _ _) (fun h4 => ?_) (fun h4 => ?_)
    · omega
    · refine ws_aload_n C d_M_sendWrite_7 rfl ?_
      refine ws_aload_n C d_M_sendWrite_8 rfl ?_
      refine wm_8 C hR d_M_sendWrite_9 f_M_87 ?_
      refine ws_iload_n C d_M_sendWrite_12 rfl ?_
      refine ws_callVi C w_M_90 (As := [_, _]) (c_M_isIn hR hO (by omega) (by omega)) d_M_sendWrite_13 rfl rfl hR.1 (Nat.le_of_ble_eq_true rfl) (by decide) (by decide) (by decide) (fun S hR => ?_)
      refine ws_if_neB C d_M_sendWrite_16 (fun h16 => ?_) (fun h16 => ?_)
      · rw [if_pos h16] at hp
        have h9 := h25 S hR
        rw [← hp] at h9
        exact h9
      · refine ws_iinc C _ d_M_sendWrite_19 rfl (inc1 _) (by rw [hn]; decide) ?_
        refine ws_goto C d_M_sendWrite_22 ?_
        exact ih (h + 1) (by omega) (by rw [← hp, if_neg (by rw [h16]; decide)]) S hR
set_option maxHeartbeats 4000000 in
set_option maxRecDepth 100000 in
theorem c_M_answer {V : Ev} {o : Nat} {ad : Nat → Nat} {G : GS} {S : Sto} (hR : MR o ad G S) (hO : OK G) {w i c : Nat} (hw : w ≤ 5) (hi : i ≤ 100) (hc : c ≤ 2) : CT V mi_M_answer 0 0 [.ref o, .int (nI w), .int (nI i), .int (nI c)] S (Pv (MR o ad (ans G w i c))) := by
  refine CT.of (cc := prog_8_method_22_code) (own := "ChainVersionsModel") (nL := 5) (d := 2) (by decide) rfl rfl rfl rfl (by simp [Value.category]) (Nat.le_of_ble_eq_true rfl) rfl ?_
  intro F hV hn C R
  subst hV
  have hb15 : G.1 15 c ≤ 3 := hO 15 c
  refine ws_iload_n C d_M_answer_0 rfl ?_
  refine ws_aload_n C d_M_answer_1 rfl ?_
  refine wm_arr C hR 5 d_M_answer_2 f_M_23 rfl rfl rfl ?_
  refine ws_iload_n C d_M_answer_5 rfl ?_
  refine wm_aldN C hR 5 d_M_answer_6 rfl rfl (by decide) (show _ < 6 by first | omega | exact okl hO _ _) ?_
  refine ws_icmp_leN C d_M_answer_7 (by first | omega | exact okl hO _ _) (by first | omega | exact okl hO _ _) (fun h7 => ?_) (fun h7 => ?_)
  · refine ws_iconst C (nI 0) d_M_answer_45 (by decide) ?_
    refine ws_istore C d_M_answer_46 (by rw [hn]; decide) ?_
    refine ws_aload_n C d_M_answer_48 rfl ?_
    refine ws_iload_n C d_M_answer_49 rfl ?_
    refine ws_iload_n C d_M_answer_50 rfl ?_
    refine ws_iload C d_M_answer_51 rfl ?_
    refine ws_if_eqN C d_M_answer_53 (by decide) (fun _ => ?_) (fun h => absurd rfl h)
    refine ws_aload_n C d_M_answer_60 rfl ?_
    refine ws_iload_n C d_M_answer_61 rfl ?_
    refine ws_aload_n C d_M_answer_62 rfl ?_
    refine wm_arr C hR 15 d_M_answer_63 f_M_50 rfl rfl rfl ?_
    refine ws_iload_n C d_M_answer_66 rfl ?_
    refine wm_aldN C hR 15 d_M_answer_67 rfl rfl (by decide) (show _ < 3 by first | omega | exact okl hO _ _) ?_
    refine ws_callVi C w_M_128 (As := [_, _]) (c_M_cleanNumber hR hO hw hb15) d_M_answer_68 rfl rfl hR.1 (Nat.le_of_ble_eq_true rfl) (by decide) (by decide) (by decide) (fun S hR => ?_)
    refine ws_callVv C w_M_131 (As := [_, _, _]) (c_M_done hR hO hc hw (clN_le hO _ _)) d_M_answer_71 rfl rfl hR.1 (Nat.le_of_ble_eq_true rfl) (by decide) (by decide) (by decide) (fun S hR => ?_)
    exact ws_vret C R d_M_answer_74 rfl (by decide) (by decide) ⟨rfl, by rw [ans, if_neg (by omega)]; exact hR⟩
  · refine ws_iload_n C d_M_answer_10 rfl ?_
    refine ws_aload_n C d_M_answer_11 rfl ?_
    refine wm_arr C hR 4 d_M_answer_12 f_M_20 rfl rfl rfl ?_
    refine ws_iload_n C d_M_answer_15 rfl ?_
    refine wm_aldN C hR 4 d_M_answer_16 rfl rfl (by decide) (show _ < 6 by first | omega | exact okl hO _ _) ?_
    refine ws_icmp_gtN C d_M_answer_17 (by first | omega | exact okl hO _ _) (by first | omega | exact okl hO _ _) (fun h17 => ?_) (fun h17 => ?_)
    · refine ws_iconst C (nI 0) d_M_answer_45 (by decide) ?_
      refine ws_istore C d_M_answer_46 (by rw [hn]; decide) ?_
      refine ws_aload_n C d_M_answer_48 rfl ?_
      refine ws_iload_n C d_M_answer_49 rfl ?_
      refine ws_iload_n C d_M_answer_50 rfl ?_
      refine ws_iload C d_M_answer_51 rfl ?_
      refine ws_if_eqN C d_M_answer_53 (by decide) (fun _ => ?_) (fun h => absurd rfl h)
      refine ws_aload_n C d_M_answer_60 rfl ?_
      refine ws_iload_n C d_M_answer_61 rfl ?_
      refine ws_aload_n C d_M_answer_62 rfl ?_
      refine wm_arr C hR 15 d_M_answer_63 f_M_50 rfl rfl rfl ?_
      refine ws_iload_n C d_M_answer_66 rfl ?_
      refine wm_aldN C hR 15 d_M_answer_67 rfl rfl (by decide) (show _ < 3 by first | omega | exact okl hO _ _) ?_
      refine ws_callVi C w_M_128 (As := [_, _]) (c_M_cleanNumber hR hO hw hb15) d_M_answer_68 rfl rfl hR.1 (Nat.le_of_ble_eq_true rfl) (by decide) (by decide) (by decide) (fun S hR => ?_)
      refine ws_callVv C w_M_131 (As := [_, _, _]) (c_M_done hR hO hc hw (clN_le hO _ _)) d_M_answer_71 rfl rfl hR.1 (Nat.le_of_ble_eq_true rfl) (by decide) (by decide) (by decide) (fun S hR => ?_)
      exact ws_vret C R d_M_answer_74 rfl (by decide) (by decide) ⟨rfl, by rw [ans, if_neg (by omega)]; exact hR⟩
    · refine ws_aload_n C d_M_answer_20 rfl ?_
      refine wm_arr C hR 9 d_M_answer_21 f_M_32 rfl rfl rfl ?_
      refine ws_sipush C (nI 128) d_M_answer_24 (by decide) ?_
      refine ws_iload_n C d_M_answer_27 rfl ?_
      refine ws_imulN C d_M_answer_28 ?_
      refine ws_iload_n C d_M_answer_29 rfl ?_
      refine ws_iaddN C d_M_answer_30 ?_
      refine wm_aldN C hR 9 d_M_answer_31 rfl rfl (by decide) (show _ < 768 by first | omega | exact okl hO _ _) ?_
      refine ws_aload_n C d_M_answer_32 rfl ?_
      refine wm_arr C hR 15 d_M_answer_33 f_M_50 rfl rfl rfl ?_
      refine ws_iload_n C d_M_answer_36 rfl ?_
      refine wm_aldN C hR 15 d_M_answer_37 rfl rfl (by decide) (show _ < 3 by first | omega | exact okl hO _ _) ?_
      refine ws_icmp_neN C d_M_answer_38 (by first | omega | exact okl hO _ _) (by first | omega | exact okl hO _ _) (fun h38 => ?_) (fun h38 => ?_)
      · refine ws_iconst C (nI 0) d_M_answer_45 (by decide) ?_
        refine ws_istore C d_M_answer_46 (by rw [hn]; decide) ?_
        refine ws_aload_n C d_M_answer_48 rfl ?_
        refine ws_iload_n C d_M_answer_49 rfl ?_
        refine ws_iload_n C d_M_answer_50 rfl ?_
        refine ws_iload C d_M_answer_51 rfl ?_
        refine ws_if_eqN C d_M_answer_53 (by decide) (fun _ => ?_) (fun h => absurd rfl h)
        refine ws_aload_n C d_M_answer_60 rfl ?_
        refine ws_iload_n C d_M_answer_61 rfl ?_
        refine ws_aload_n C d_M_answer_62 rfl ?_
        refine wm_arr C hR 15 d_M_answer_63 f_M_50 rfl rfl rfl ?_
        refine ws_iload_n C d_M_answer_66 rfl ?_
        refine wm_aldN C hR 15 d_M_answer_67 rfl rfl (by decide) (show _ < 3 by first | omega | exact okl hO _ _) ?_
        refine ws_callVi C w_M_128 (As := [_, _]) (c_M_cleanNumber hR hO hw hb15) d_M_answer_68 rfl rfl hR.1 (Nat.le_of_ble_eq_true rfl) (by decide) (by decide) (by decide) (fun S hR => ?_)
        refine ws_callVv C w_M_131 (As := [_, _, _]) (c_M_done hR hO hc hw (clN_le hO _ _)) d_M_answer_71 rfl rfl hR.1 (Nat.le_of_ble_eq_true rfl) (by decide) (by decide) (by decide) (fun S hR => ?_)
        exact ws_vret C R d_M_answer_74 rfl (by decide) (by decide) ⟨rfl, by rw [ans, if_neg (by omega)]; exact hR⟩
      · refine ws_iconst C (nI 1) d_M_answer_41 (by decide) ?_
        refine ws_goto C d_M_answer_42 ?_
        refine ws_istore C d_M_answer_46 (by rw [hn]; decide) ?_
        refine ws_aload_n C d_M_answer_48 rfl ?_
        refine ws_iload_n C d_M_answer_49 rfl ?_
        refine ws_iload_n C d_M_answer_50 rfl ?_
        refine ws_iload C d_M_answer_51 rfl ?_
        refine ws_if_eqN C d_M_answer_53 (by decide) (fun h => absurd h (by decide)) (fun _ => ?_)
        refine ws_iload_n C d_M_answer_56 rfl ?_
        refine ws_goto C d_M_answer_57 ?_
        refine ws_callVv C w_M_131 (As := [_, _, _]) (c_M_done hR hO hc hw hi) d_M_answer_71 rfl rfl hR.1 (Nat.le_of_ble_eq_true rfl) (by decide) (by decide) (by decide) (fun S hR => ?_)
        exact ws_vret C R d_M_answer_74 rfl (by decide) (by decide) ⟨rfl, by rw [ans, if_pos (by omega)]; exact hR⟩
theorem nI_t {n : Nat} (h : n < 2 ^ 31) : (nI n).toInt = (n : Int) := nI_toInt h
set_option maxHeartbeats 4000000 in
set_option maxRecDepth 100000 in
theorem c_M_act {V : Ev} {o : Nat} {ad : Nat → Nat} {G : GS} {S : Sto} (hR : MR o ad G S) (hO : OK G) {w v k a b : Nat} (hw : w ≤ 5) (hv : v ≤ 5) (hk : 1 ≤ k ∧ k ≤ 5) (ha : a ≤ 100) (h1 : k = 1 → G.1 4 w + 1 ≤ 100) (h3 : k = 3 → a ≤ 3) (h4 : k = 4 → b ≤ 2) (h5 : k = 5 → G.1 20 0 + (a - G.1 4 w) ≤ 1399) : CT V mi_M_act 0 0 [.ref o, .int (nI w), .int (nI v), .int (nI k), .int (nI a), .int (nI b)] S (Pv (MR o ad (act G w v k a b))) := by
  refine CT.of (cc := prog_8_method_21_code) (own := "ChainVersionsModel") (nL := 7) (d := 4) (by decide) rfl rfl rfl rfl (by simp [Value.category]) (Nat.le_of_ble_eq_true rfl) rfl ?_
  intro F hV hn C R
  subst hV
  have hb5 : G.1 5 w ≤ 100 := hO 5 w
  have hb4 : G.1 4 w ≤ 100 := hO 4 w
  have hk5 : k = 1 ∨ k = 2 ∨ k = 3 ∨ k = 4 ∨ k = 5 := by omega
  rcases hk5 with rfl | rfl | rfl | rfl | rfl
  · refine ws_iload_n C d_M_act_0 rfl ?_
    have h1l := h1 rfl
    refine ws_tabIn C (tgt := 32) 31 d_M_act_1 (by decide) (by decide) (by decide) (by decide) ?_
    refine ws_aload_n C d_M_act_32 rfl ?_
    refine ws_iload_n C d_M_act_33 rfl ?_
    refine ws_iload_n C d_M_act_34 rfl ?_
    refine ws_iload C d_M_act_35 rfl ?_
    refine ws_callVv C w_M_138 (As := [_, _, _]) (c_M_takeFrom hR hO hw hv (by omega) (by omega)) d_M_act_37 rfl rfl hR.1 (Nat.le_of_ble_eq_true rfl) (by decide) (by decide) (by decide) (fun S hR => ?_)
    refine ws_goto C d_M_act_40 ?_
    exact ws_vret C R d_M_act_141 rfl (by decide) (by decide) ⟨rfl, hR⟩
  · refine ws_iload_n C d_M_act_0 rfl ?_
    refine ws_tabIn C (tgt := 43) 42 d_M_act_1 (by decide) (by decide) (by decide) (by decide) ?_
    refine ws_iload C d_M_act_43 rfl ?_
    refine ws_aload_n C d_M_act_45 rfl ?_
    refine wm_arr C hR 5 d_M_act_46 f_M_23 rfl rfl rfl ?_
    refine ws_iload_n C d_M_act_49 rfl ?_
    refine wm_aldN C hR 5 d_M_act_50 rfl rfl (by decide) (show _ < 6 by first | omega | exact okl hO _ _) ?_
    refine ws_icmp_leN C d_M_act_51 (by first | omega | exact okl hO _ _) (by first | omega | exact okl hO _ _) (fun h51 => ?_) (fun h51 => ?_)
    · exact ws_vret C R d_M_act_141 rfl (by decide) (by decide) ⟨rfl, by rw [act, if_neg (by decide), if_pos rfl, if_neg (by omega)]; exact hR⟩
    · refine ws_aload_n C d_M_act_54 rfl ?_
      refine wm_arr C hR 5 d_M_act_55 f_M_23 rfl rfl rfl ?_
      refine ws_iload_n C d_M_act_58 rfl ?_
      refine ws_iload C d_M_act_59 rfl ?_
      refine wm_astN C hR 5 d_M_act_61 rfl rfl (by decide) (show _ < 6 by first | omega | exact okl hO _ _) (fun S hR => ?_)
      refine ws_aload_n C d_M_act_62 rfl ?_
      refine ws_iload_n C d_M_act_63 rfl ?_
      refine ws_aload_n C d_M_act_64 rfl ?_
      refine ws_iload_n C d_M_act_65 rfl ?_
      refine ws_callVi C w_M_111 (As := [_]) (prd_c (G := G) (G' := gN G 5 w a) (gN_ne _ (by decide)) (gN_ne _ (by decide)) w ▸ c_M_predecessor hR (ok_gN hO ha) (by omega)) d_M_act_66 rfl rfl hR.1 (Nat.le_of_ble_eq_true rfl) (by decide) (by decide) (by decide) (fun S hR => ?_)
      refine ws_iconst C (nI 2) d_M_act_69 (by decide) ?_
      refine ws_iload C d_M_act_70 rfl ?_
      refine ws_iconst C (nI 0) d_M_act_72 (by decide) ?_
      refine ws_callVv C w_M_114 (As := [_, _, _, _, _]) (c_M_send hR (ok_gN hO ha) (w := prd G w) hw (fun x hx => prd_le hw hx)) d_M_act_73 rfl rfl hR.1 (Nat.le_of_ble_eq_true rfl) (by decide) (by decide) (by decide) (fun S hR => ?_)
      refine ws_goto C d_M_act_76 ?_
      exact ws_vret C R d_M_act_141 rfl (by decide) (by decide) ⟨rfl, by rw [act, if_neg (by decide), if_pos rfl, if_pos (by omega)]; exact hR⟩
  · refine ws_iload_n C d_M_act_0 rfl ?_
    have h3a := h3 rfl
    refine ws_tabIn C (tgt := 79) 78 d_M_act_1 (by decide) (by decide) (by decide) (by decide) ?_
    refine ws_aload_n C d_M_act_79 rfl ?_
    refine ws_iload_n C d_M_act_80 rfl ?_
    refine ws_iload_n C d_M_act_81 rfl ?_
    refine ws_iconst C (nI 4) d_M_act_82 (by decide) ?_
    refine ws_aload_n C d_M_act_83 rfl ?_
    refine ws_iload_n C d_M_act_84 rfl ?_
    refine ws_iload C d_M_act_85 rfl ?_
    refine ws_callVi C w_M_128 (As := [_, _]) (c_M_cleanNumber hR hO hw h3a) d_M_act_87 rfl rfl hR.1 (Nat.le_of_ble_eq_true rfl) (by decide) (by decide) (by decide) (fun S hR => ?_)
    refine ws_iload C d_M_act_90 rfl ?_
    refine ws_callVv C w_M_114 (As := [_, _, _, _, _]) (c_M_send hR hO (w := some v) hw (fun x hx => by cases hx; exact hv)) d_M_act_92 rfl rfl hR.1 (Nat.le_of_ble_eq_true rfl) (by decide) (by decide) (by decide) (fun S hR => ?_)
    refine ws_goto C d_M_act_95 ?_
    exact ws_vret C R d_M_act_141 rfl (by decide) (by decide) ⟨rfl, hR⟩
  · refine ws_iload_n C d_M_act_0 rfl ?_
    have h4b := h4 rfl
    refine ws_tabIn C (tgt := 98) 97 d_M_act_1 (by decide) (by decide) (by decide) (by decide) ?_
    refine ws_aload_n C d_M_act_98 rfl ?_
    refine ws_iload_n C d_M_act_99 rfl ?_
    refine ws_iload C d_M_act_100 rfl ?_
    refine ws_iload C d_M_act_102 rfl ?_
    refine ws_callVv C w_M_141 (As := [_, _, _]) (c_M_answer hR hO hw ha h4b) d_M_act_104 rfl rfl hR.1 (Nat.le_of_ble_eq_true rfl) (by decide) (by decide) (by decide) (fun S hR => ?_)
    refine ws_goto C d_M_act_107 ?_
    exact ws_vret C R d_M_act_141 rfl (by decide) (by decide) ⟨rfl, hR⟩
  · have h5c := h5 rfl
    refine ws_iload_n C d_M_act_0 rfl ?_
    refine ws_tabOut C (tgt := 110) d_M_act_1 (by decide) (by decide) ?_
    refine ws_aload_n C d_M_act_110 rfl ?_
    refine wm_arr C hR 4 d_M_act_111 f_M_20 rfl rfl rfl ?_
    refine ws_iload_n C d_M_act_114 rfl ?_
    refine wm_aldN C hR 4 d_M_act_115 rfl rfl (by decide) (show _ < 6 by first | omega | exact okl hO _ _) ?_
    refine ws_iconst C (nI 1) d_M_act_116 (by decide) ?_
    refine ws_iaddN C d_M_act_117 ?_
    refine ws_istore C d_M_act_118 (by rw [hn]; decide) ?_
    suffices hL : ∀ n i (G1 : GS), n = a + 1 - i → G1.1 4 w + 1 = i → OK G1 → G1.1 20 0 + n ≤ 1399 → cpF w v n i G1 = act G w v 5 a b → ∀ S : Sto, MR o ad G1 S → WS F 120 [some (.ref o), some (.int (nI w)), some (.int (nI v)), some (.int (nI 5)), some (.int (nI a)), some (.int (nI b)), some (.int (nI i))] [] S 0 0 from hL (a - G.1 4 w) (G.1 4 w + 1) G (by omega) rfl hO (by omega) rfl S hR
    clear hR
    intro n
    induction n with
    | zero =>
      intro i G1 hi h4 hO1 hc hp S hR
      have hb : G1.1 4 w ≤ 100 := hO1 4 w
      refine ws_iload C d_M_act_120 rfl ?_
      refine ws_iload C d_M_act_122 rfl ?_
      refine ws_icmp_gtN C d_M_act_124 (by first | omega | exact okl hO _ _) (by first | omega | exact okl hO _ _) (fun h124 => ?_) (fun h124 => ?_)
      · exact ws_vret C R d_M_act_141 rfl (by decide) (by decide) ⟨rfl, by rw [← hp]; exact hR⟩
      · omega
    | succ n ih =>
      intro i G1 hi h4 hO1 hc hp S hR
      have h20 := takF_20 G1 w v i
      refine ws_iload C d_M_act_120 rfl ?_
      refine ws_iload C d_M_act_122 rfl ?_
      refine ws_icmp_gtN C d_M_act_124 (by first | omega | exact okl hO _ _) (by first | omega | exact okl hO _ _) (fun h124 => ?_) (fun h124 => ?_)
      · omega
      · refine ws_aload_n C d_M_act_127 rfl ?_
        refine ws_iload_n C d_M_act_128 rfl ?_
        refine ws_iload_n C d_M_act_129 rfl ?_
        refine ws_iload C d_M_act_130 rfl ?_
        refine ws_callVv C w_M_138 (As := [_, _, _]) (c_M_takeFrom hR hO1 hw hv (by omega) (by omega)) d_M_act_132 rfl rfl hR.1 (Nat.le_of_ble_eq_true rfl) (by decide) (by decide) (by decide) (fun S hR => ?_)
        refine ws_iinc C _ d_M_act_135 rfl (inc1 _) (by rw [hn]; decide) ?_
        refine ws_goto C d_M_act_138 ?_
        exact ih (i + 1) _ (by omega) (by rw [takF_4]; omega) (ok_takF hO1 hw (by omega) (by omega)) (by omega) hp S hR
set_option maxHeartbeats 4000000 in
set_option maxRecDepth 100000 in
theorem c_M_arrive {V : Ev} {o : Nat} {ad : Nat → Nat} {G : GS} {S : Sto} (hR : MR o ad G S) (hO : OK G) {w u a b : Nat} (hw : w ≤ 5) (hu : u ≤ 5) (ha : a ≤ 100) (hb : b ≤ 100) (hc : G.1 20 0 + 2 ≤ 1399) : CT V mi_M_arrive 0 0 [.ref o, .int (nI w), .int (nI u), .int (nI a), .int (nI b)] S (Pv (MR o ad (arv G w u a b))) := by
  refine CT.of (cc := prog_8_method_23_code) (own := "ChainVersionsModel") (nL := 6) (d := 2) (by decide) rfl rfl rfl rfl (by simp [Value.category]) (Nat.le_of_ble_eq_true rfl) rfl ?_
  intro F hV hn C R
  subst hV
  refine ws_iconst C (nI 1) d_M_arrive_0 (by decide) ?_
  refine ws_istore C d_M_arrive_1 (by rw [hn]; decide) ?_
  have h119 : ∀ (S : Sto) (y : Option Value), MR o ad (cpL w u a 1 G) S → WS F 119 [some (.ref o), some (.int (nI w)), some (.int (nI u)), some (.int (nI a)), some (.int (nI b)), y] [] S 0 0 := by
    intro S y hR
    have hO1 : OK (cpL w u a 1 G) := ok_cpL 1 G hO
    have h20 : (cpL w u a 1 G).1 20 0 = G.1 20 0 := by rw [cpL_ne _ _ _ (by decide) (by decide) (by decide)]
    refine ws_aload_n C d_M_arrive_119 rfl ?_
    refine wm_arr C hR 4 d_M_arrive_120 f_M_20 rfl rfl rfl ?_
    refine ws_iload_n C d_M_arrive_123 rfl ?_
    refine ws_iload_n C d_M_arrive_124 rfl ?_
    refine wm_astN C hR 4 d_M_arrive_125 rfl rfl (by decide) (show _ < 6 by first | omega | exact okl hO _ _) (fun S hR => ?_)
    refine ws_aload_n C d_M_arrive_126 rfl ?_
    refine wm_arr C hR 5 d_M_arrive_127 f_M_23 rfl rfl rfl ?_
    refine ws_iload_n C d_M_arrive_130 rfl ?_
    refine ws_iload C d_M_arrive_131 rfl ?_
    refine wm_astN C hR 5 d_M_arrive_133 rfl rfl (by decide) (show _ < 6 by first | omega | exact okl hO _ _) (fun S hR => ?_)
    refine ws_aload_n C d_M_arrive_134 rfl ?_
    refine wm_arr C hR 2 d_M_arrive_135 f_M_13 rfl rfl rfl ?_
    refine ws_iload_n C d_M_arrive_138 rfl ?_
    refine ws_iconst C (nI 1) d_M_arrive_139 (by decide) ?_
    refine wm_zst C hR 2 d_M_arrive_140 rfl rfl (by decide) (show _ < 6 by first | omega | exact okl hO _ _) (by decide) (fun S hR => ?_)
    suffices hL : ∀ (G1 : GS) (S : Sto), OK G1 → G1.1 20 0 + 2 ≤ 1399 → tel G1 w = arv G w u a b → MR o ad G1 S → WS F 141 [some (.ref o), some (.int (nI w)), some (.int (nI u)), some (.int (nI a)), some (.int (nI b)), y] [] S 0 0 from hL _ S (ok_gN (ok_gN (ok_gN hO1 ha) hb) (by decide)) (by rw [gN_ne _ (by decide), gN_ne _ (by decide), gN_ne _ (by decide)]; omega) rfl hR
    clear hR hO1 h20 hO hc
    intro G S hO hc hp hR
    have hb4 : G.1 4 w ≤ 100 := hO 4 w
    have hb5 : G.1 5 w ≤ 100 := hO 5 w
    refine ws_aload_n C d_M_arrive_141 rfl ?_
    refine ws_iload_n C d_M_arrive_142 rfl ?_
    refine ws_callVi C w_M_104 (As := [_]) (c_M_successor hR hO (by omega)) d_M_arrive_143 rfl rfl hR.1 (Nat.le_of_ble_eq_true rfl) (by decide) (by decide) (by decide) (fun S hR => ?_)
    refine ws_if_geO C d_M_arrive_146 (fun n hn => by have := suc_le hn; omega) (fun h146 => ?_) (fun h146 => ?_)
    · refine ws_aload_n C d_M_arrive_157 rfl ?_
      refine ws_iload_n C d_M_arrive_158 rfl ?_
      refine ws_aload_n C d_M_arrive_159 rfl ?_
      refine ws_iload_n C d_M_arrive_160 rfl ?_
      refine ws_callVi C w_M_104 (As := [_]) (c_M_successor hR hO (by omega)) d_M_arrive_161 rfl rfl hR.1 (Nat.le_of_ble_eq_true rfl) (by decide) (by decide) (by decide) (fun S hR => ?_)
      refine ws_iconst C (nI 5) d_M_arrive_164 (by decide) ?_
      refine ws_aload_n C d_M_arrive_165 rfl ?_
      refine wm_arr C hR 4 d_M_arrive_166 f_M_20 rfl rfl rfl ?_
      refine ws_iload_n C d_M_arrive_169 rfl ?_
      refine wm_aldN C hR 4 d_M_arrive_170 rfl rfl (by decide) (show _ < 6 by first | omega | exact okl hO _ _) ?_
      refine ws_aload_n C d_M_arrive_171 rfl ?_
      refine wm_arr C hR 5 d_M_arrive_172 f_M_23 rfl rfl rfl ?_
      refine ws_iload_n C d_M_arrive_175 rfl ?_
      refine wm_aldN C hR 5 d_M_arrive_176 rfl rfl (by decide) (show _ < 6 by first | omega | exact okl hO _ _) ?_
      refine ws_callVv C w_M_114 (As := [_, _, _, _, _]) (c_M_send hR hO (w := suc G w) (by omega) (fun x hx => suc_le hx)) d_M_arrive_177 rfl rfl hR.1 (Nat.le_of_ble_eq_true rfl) (by decide) (by decide) (by decide) (fun S hR => ?_)
      have hO2 : OK (snd G w (suc G w) 5 (G.1 4 w) (G.1 5 w)) := ok_snd hO hw (fun x hx => suc_le hx) (by decide) hb4 hb5 (by omega)
      refine ws_aload_n C d_M_arrive_180 rfl ?_
      refine ws_iload_n C d_M_arrive_181 rfl ?_
      refine ws_aload_n C d_M_arrive_182 rfl ?_
      refine ws_iload_n C d_M_arrive_183 rfl ?_
      refine ws_callVi C w_M_111 (As := [_]) (prd_c (G := G) (G' := snd G w (suc G w) 5 (G.1 4 w) (G.1 5 w)) (snd_ne _ _ _ _ _ _ (by decide)) (snd_ne _ _ _ _ _ _ (by decide)) w ▸ c_M_predecessor hR hO2 (by omega)) d_M_arrive_184 rfl rfl hR.1 (Nat.le_of_ble_eq_true rfl) (by decide) (by decide) (by decide) (fun S hR => ?_)
      refine ws_iconst C (nI 2) d_M_arrive_187 (by decide) ?_
      refine ws_aload_n C d_M_arrive_188 rfl ?_
      refine wm_arr C hR 5 d_M_arrive_189 f_M_23 rfl rfl rfl ?_
      refine ws_iload_n C d_M_arrive_192 rfl ?_
      refine wm_aldN C hR 5 d_M_arrive_193 rfl rfl (by decide) (show _ < 6 by first | omega | exact okl hO _ _) ?_
      refine ws_top (nI (G.1 5 w)) (by rw [snd_ne _ _ _ _ _ _ (by decide)]) ?_
      refine ws_iconst C (nI 0) d_M_arrive_194 (by decide) ?_
      refine ws_callVv C w_M_114 (As := [_, _, _, _, _]) (c_M_send hR hO2 (w := prd G w) (by omega) (fun x hx => prd_le hw hx)) d_M_arrive_195 rfl rfl hR.1 (Nat.le_of_ble_eq_true rfl) (by decide) (by decide) (by decide) (fun S hR => ?_)
      exact ws_vret C R d_M_arrive_198 rfl (by decide) (by decide) ⟨rfl, by rw [← hp, tel, if_neg h146]; exact hR⟩
    · refine ws_aload_n C d_M_arrive_149 rfl ?_
      refine ws_iload_n C d_M_arrive_150 rfl ?_
      refine ws_callVv C w_M_108 (As := [_]) (c_M_settleAll hR hO (by omega)) d_M_arrive_151 rfl rfl hR.1 (Nat.le_of_ble_eq_true rfl) (by decide) (by decide) (by decide) (fun S hR => ?_)
      refine ws_goto C d_M_arrive_154 ?_
      have hO2 : OK (stl G w) := ok_stl hO
      refine ws_aload_n C d_M_arrive_180 rfl ?_
      refine ws_iload_n C d_M_arrive_181 rfl ?_
      refine ws_aload_n C d_M_arrive_182 rfl ?_
      refine ws_iload_n C d_M_arrive_183 rfl ?_
      refine ws_callVi C w_M_111 (As := [_]) (prd_c (G := G) (G' := stl G w) (stl_ne G w (by decide) (by decide) (by decide)) (stl_ne G w (by decide) (by decide) (by decide)) w ▸ c_M_predecessor hR hO2 (by omega)) d_M_arrive_184 rfl rfl hR.1 (Nat.le_of_ble_eq_true rfl) (by decide) (by decide) (by decide) (fun S hR => ?_)
      refine ws_iconst C (nI 2) d_M_arrive_187 (by decide) ?_
      refine ws_aload_n C d_M_arrive_188 rfl ?_
      refine wm_arr C hR 5 d_M_arrive_189 f_M_23 rfl rfl rfl ?_
      refine ws_iload_n C d_M_arrive_192 rfl ?_
      refine wm_aldN C hR 5 d_M_arrive_193 rfl rfl (by decide) (show _ < 6 by first | omega | exact okl hO _ _) ?_
      refine ws_top (nI (G.1 4 w)) (by rw [stl_5]) ?_
      refine ws_iconst C (nI 0) d_M_arrive_194 (by decide) ?_
      refine ws_callVv C w_M_114 (As := [_, _, _, _, _]) (c_M_send hR hO2 (w := prd G w) (by omega) (fun x hx => prd_le hw hx)) d_M_arrive_195 rfl rfl hR.1 (Nat.le_of_ble_eq_true rfl) (by decide) (by decide) (by decide) (fun S hR => ?_)
      exact ws_vret C R d_M_arrive_198 rfl (by decide) (by decide) ⟨rfl, by rw [← hp, tel, if_pos h146]; exact hR⟩
  suffices hL : ∀ n i (G1 : GS), i + n = a + 1 → OK G1 → cpL w u n i G1 = cpL w u a 1 G → ∀ S : Sto, MR o ad G1 S → WS F 3 [some (.ref o), some (.int (nI w)), some (.int (nI u)), some (.int (nI a)), some (.int (nI b)), some (.int (nI i))] [] S 0 0 from hL a 1 G (by omega) hO rfl S hR
  clear hR
  intro n
  induction n with
  | zero =>
    intro i G1 hi hO1 hp S hR
    rw [cpL] at hp
    refine ws_iload C d_M_arrive_3 rfl ?_
    refine ws_iload_n C d_M_arrive_5 rfl ?_
    refine ws_icmp_gtN C d_M_arrive_6 (by first | omega | exact okl hO _ _) (by first | omega | exact okl hO _ _) (fun h6 => ?_) (fun h6 => ?_)
    · exact h119 S _ (hp ▸ hR)
    · omega
  | succ n ih =>
    intro i G1 hi hO1 hp S hR
    refine ws_iload C d_M_arrive_3 rfl ?_
    refine ws_iload_n C d_M_arrive_5 rfl ?_
    refine ws_icmp_gtN C d_M_arrive_6 (by first | omega | exact okl hO _ _) (by first | omega | exact okl hO _ _) (fun h6 => ?_) (fun h6 => ?_)
    · omega
    · refine ws_aload_n C d_M_arrive_9 rfl ?_
      refine wm_arr C hR 9 d_M_arrive_10 f_M_32 rfl rfl rfl ?_
      refine ws_sipush C (nI 128) d_M_arrive_13 (by decide) ?_
      refine ws_iload_n C d_M_arrive_16 rfl ?_
      refine ws_imulN C d_M_arrive_17 ?_
      refine ws_iload C d_M_arrive_18 rfl ?_
      refine ws_iaddN C d_M_arrive_20 ?_
      refine ws_aload_n C d_M_arrive_21 rfl ?_
      refine wm_arr C hR 9 d_M_arrive_22 f_M_32 rfl rfl rfl ?_
      refine ws_sipush C (nI 128) d_M_arrive_25 (by decide) ?_
      refine ws_iload_n C d_M_arrive_28 rfl ?_
      refine ws_imulN C d_M_arrive_29 ?_
      refine ws_iload C d_M_arrive_30 rfl ?_
      refine ws_iaddN C d_M_arrive_32 ?_
      refine wm_aldN C hR 9 d_M_arrive_33 rfl rfl (by decide) (show _ < 768 by first | omega | exact okl hO _ _) ?_
      refine wm_astN C hR 9 d_M_arrive_34 rfl rfl (by decide) (show _ < 768 by first | omega | exact okl hO _ _) (fun S hR => ?_)
      refine ws_aload_n C d_M_arrive_35 rfl ?_
      refine wm_arr C hR 10 d_M_arrive_36 f_M_35 rfl rfl rfl ?_
      refine ws_sipush C (nI 128) d_M_arrive_39 (by decide) ?_
      refine ws_iload_n C d_M_arrive_42 rfl ?_
      refine ws_imulN C d_M_arrive_43 ?_
      refine ws_iload C d_M_arrive_44 rfl ?_
      refine ws_iaddN C d_M_arrive_46 ?_
      refine ws_aload_n C d_M_arrive_47 rfl ?_
      refine wm_arr C hR 10 d_M_arrive_48 f_M_35 rfl rfl rfl ?_
      refine ws_sipush C (nI 128) d_M_arrive_51 (by decide) ?_
      refine ws_iload_n C d_M_arrive_54 rfl ?_
      refine ws_imulN C d_M_arrive_55 ?_
      refine ws_iload C d_M_arrive_56 rfl ?_
      refine ws_iaddN C d_M_arrive_58 ?_
      refine wm_aldV C hR 10 d_M_arrive_59 rfl rfl (by decide) (show _ < 768 by first | omega | exact okl hO _ _) ?_
      refine ws_top (G1.2 10 (128 * u + i)) (by rfl) ?_
      refine wm_astV C hR 10 d_M_arrive_60 rfl rfl (by decide) (show _ < 768 by first | omega | exact okl hO _ _) (fun S hR => ?_)
      refine ws_aload_n C d_M_arrive_61 rfl ?_
      refine wm_arr C hR 11 d_M_arrive_62 f_M_38 rfl rfl rfl ?_
      refine ws_sipush C (nI 128) d_M_arrive_65 (by decide) ?_
      refine ws_iload_n C d_M_arrive_68 rfl ?_
      refine ws_imulN C d_M_arrive_69 ?_
      refine ws_iload C d_M_arrive_70 rfl ?_
      refine ws_iaddN C d_M_arrive_72 ?_
      refine ws_aload_n C d_M_arrive_73 rfl ?_
      refine wm_arr C hR 11 d_M_arrive_74 f_M_38 rfl rfl rfl ?_
      refine ws_sipush C (nI 128) d_M_arrive_77 (by decide) ?_
      refine ws_iload_n C d_M_arrive_80 rfl ?_
      refine ws_imulN C d_M_arrive_81 ?_
      refine ws_iload C d_M_arrive_82 rfl ?_
      refine ws_iaddN C d_M_arrive_84 ?_
      refine wm_aldN C hR 11 d_M_arrive_85 rfl rfl (by decide) (show _ < 768 by first | omega | exact okl hO _ _) ?_
      refine ws_top (nI (G1.1 11 (128 * u + i))) (by simp [gN_1, gN_2, gV_1, gV_2]) ?_
      refine wm_astN C hR 11 d_M_arrive_86 rfl rfl (by decide) (show _ < 768 by first | omega | exact okl hO _ _) (fun S hR => ?_)
      refine ws_aload_n C d_M_arrive_87 rfl ?_
      refine wm_arr C hR 12 d_M_arrive_88 f_M_41 rfl rfl rfl ?_
      refine ws_sipush C (nI 128) d_M_arrive_91 (by decide) ?_
      refine ws_iload_n C d_M_arrive_94 rfl ?_
      refine ws_imulN C d_M_arrive_95 ?_
      refine ws_iload C d_M_arrive_96 rfl ?_
      refine ws_iaddN C d_M_arrive_98 ?_
      refine ws_aload_n C d_M_arrive_99 rfl ?_
      refine wm_arr C hR 12 d_M_arrive_100 f_M_41 rfl rfl rfl ?_
      refine ws_sipush C (nI 128) d_M_arrive_103 (by decide) ?_
      refine ws_iload_n C d_M_arrive_106 rfl ?_
      refine ws_imulN C d_M_arrive_107 ?_
      refine ws_iload C d_M_arrive_108 rfl ?_
      refine ws_iaddN C d_M_arrive_110 ?_
      refine wm_aldN C hR 12 d_M_arrive_111 rfl rfl (by decide) (show _ < 768 by first | omega | exact okl hO _ _) ?_
      refine ws_top (nI (G1.1 12 (128 * u + i))) (by simp [gN_1, gN_2, gV_1, gV_2]) ?_
      refine wm_astN C hR 12 d_M_arrive_112 rfl rfl (by decide) (show _ < 768 by first | omega | exact okl hO _ _) (fun S hR => ?_)
      refine ws_iinc C _ d_M_arrive_113 rfl (inc1 _) (by rw [hn]; decide) ?_
      refine ws_goto C d_M_arrive_116 ?_
      exact ih (i + 1) (cp1 G1 w u i) (by omega) (ok_cp1 hO1) hp S hR
