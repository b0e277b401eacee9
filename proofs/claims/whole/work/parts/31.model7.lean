/-! the reference: tick, adopt -/
theorem tcS_isIn (G : GS) (w e x : Nat) : isIn (tcS w G) e x = isIn G e x := isIn_c (tcS_ne G (by decide) w) e x
theorem ok_tcS {G : GS} (h : OK G) (h6 : ∀ w, G.1 6 w + 1 ≤ 600) : ∀ w, OK (tcS w G)
  | 0 => h
  | w + 1 => by
    rw [tcS]
    split
    · refine ok_gN (ok_tcS h h6 w) ?_
      rw [tcS_6 G w w (Nat.le_refl _)]
      exact h6 w
    · exact ok_tcS h h6 w
theorem tck_same {G : GS} {a b c x j : Nat} (hj : j < 27) : (gN (gN (gN G 27 0 x) 8 0 a) 7 b c).1 j = (gN (gN G 8 0 a) 7 b c).1 j := by
  have h : (gN G 27 0 x).1 j = G.1 j := gN_ne _ (by omega)
  funext i
  show (if j = 7 ∧ i = b then c else if j = 8 ∧ i = 0 then a else (gN G 27 0 x).1 j i) = _
  rw [h]
  rfl
set_option maxHeartbeats 4000000 in
set_option maxRecDepth 100000 in
theorem c_M_tick {V : Ev} {o : Nat} {ad : Nat → Nat} {G : GS} {S : Sto} (hR : MR o ad G S) (hO : OK G) (hs : ∀ w, G.1 6 w + 1 ≤ 600) : CT V mi_M_tick 0 0 [.ref o] S (Pi (tckF G).1 (MR o ad (tckF G).2)) := by
  refine CT.of (cc := prog_8_method_35_code) (own := "ChainVersionsModel") (nL := 3) (d := 1) (by decide) rfl rfl rfl rfl (by simp [Value.category]) (Nat.le_of_ble_eq_true rfl) rfl ?_
  intro F hV hn C R
  subst hV
  have hb8 : G.1 8 0 ≤ 12 := hO 8 0
  have hb7 : G.1 7 (G.1 8 0) ≤ 63 := hO 7 _
  refine ws_iconst C (nI 0) d_M_tick_0 (by decide) ?_
  refine ws_istore_n C d_M_tick_1 (by rw [hn]; decide) ?_
  refine ws_iconst C (nI 0) d_M_tick_2 (by decide) ?_
  refine ws_istore_n C d_M_tick_3 (by rw [hn]; decide) ?_
  suffices hL : ∀ n w, w + n = 6 → ∀ S : Sto, MR o ad (tcS w G) S → WS F 4 [some (.ref o), some (.int (nI (tcG G w))), some (.int (nI w))] [] S 0 0 from hL 6 0 rfl S hR
  clear hR
  intro n
  induction n with
  | zero =>
    intro w hw S hR
    have e : w = 6 := by omega
    subst e
    have hg := tcG_le G 6 (Nat.le_refl _)
    have hR0 : MR o ad (gN (tcS 6 G) 27 0 (G.1 27 0 + 1)) S := hR.same (fun j hj => gN_ne _ (by omega)) (fun j _ => rfl)
    have h8 : (tcS 6 G).1 8 0 = G.1 8 0 := by rw [tcS_ne G (by decide)]
    have hm7 : (tcS 6 G).1 7 = G.1 7 := tcS_ne G (by decide) 6
    refine ws_iload_n C d_M_tick_4 rfl ?_
    refine ws_bipush C (nI 6) d_M_tick_5 (by decide) ?_
    refine ws_icmp_geN C d_M_tick_7 (by first | omega | exact okl hO _ _) (by first | omega | exact okl hO _ _) (fun h7 => ?_) (fun h7 => ?_)
    · refine ws_iload_n C d_M_tick_67 rfl ?_
      refine ws_if_eqN C d_M_tick_68 (by first | omega | exact okl hO _ _) (fun h68 => ?_) (fun h68 => ?_)
      · refine ws_aload_n C d_M_tick_105 rfl ?_
        refine wm_8 C hR d_M_tick_106 f_M_87 ?_
        refine ws_top (nI (G.1 8 0)) (by rw [h8]) ?_
        exact ws_iret C R d_M_tick_109 rfl (by decide) (by decide) ⟨by rw [tckF]; rw [if_pos h68], by rw [tckF]; rw [if_pos h68]; exact hR0⟩
      · refine ws_aload_n C d_M_tick_71 rfl ?_
        refine ws_dup C d_M_tick_72 rfl ?_
        refine wm_8 C hR d_M_tick_73 f_M_87 ?_
        refine ws_top (nI (G.1 8 0)) (by rw [h8]) ?_
        refine ws_iconst C (nI 1) d_M_tick_76 (by decide) ?_
        refine ws_iaddN C d_M_tick_77 ?_
        refine wm_put C hR 8 (by decide) d_M_tick_78 f_M_87 (fun S hR => ?_)
        refine ws_aload_n C d_M_tick_81 rfl ?_
        refine wm_arr C hR 7 d_M_tick_82 f_M_29 rfl rfl rfl ?_
        refine ws_aload_n C d_M_tick_85 rfl ?_
        refine wm_8 C hR d_M_tick_86 f_M_87 ?_
        refine ws_top (nI (G.1 8 0 + 1)) (by rw [gN_eq]) ?_
        refine ws_aload_n C d_M_tick_89 rfl ?_
        refine wm_arr C hR 7 d_M_tick_90 f_M_29 rfl rfl rfl ?_
        refine ws_aload_n C d_M_tick_93 rfl ?_
        refine wm_8 C hR d_M_tick_94 f_M_87 ?_
        refine ws_top (nI (G.1 8 0 + 1)) (by rw [gN_eq]) ?_
        refine ws_iconst C (nI 1) d_M_tick_97 (by decide) ?_
        refine ws_isubN C d_M_tick_98 (by first | omega | exact okl hO _ _) ?_
        refine ws_top (nI (G.1 8 0)) (by rw [Nat.add_sub_cancel]) ?_
        refine wm_aldN C hR 7 d_M_tick_99 rfl rfl (by decide) (show _ < 14 by first | omega | exact okl hO _ _) ?_
        refine ws_top (nI (G.1 7 (G.1 8 0))) (by rw [gN_ne _ (by decide), hm7]) ?_
        refine ws_iload_n C d_M_tick_100 rfl ?_
        refine ws_iconst C (-1) d_M_tick_101 (by decide) ?_
        refine ws_ixor C d_M_tick_102 ?_
        refine ws_iand C d_M_tick_103 ?_
        refine ws_top (nI (G.1 7 (G.1 8 0) &&& (63 - tcG G 6))) (andn hb7 hg) ?_
        refine wm_astN C hR 7 d_M_tick_104 rfl rfl (by decide) (show _ < 14 by first | omega | exact okl hO _ _) (fun S hR => ?_)
        refine ws_aload_n C d_M_tick_105 rfl ?_
        refine wm_8 C hR d_M_tick_106 f_M_87 ?_
        refine ws_top (nI (G.1 8 0 + 1)) (by rw [gN_ne _ (by decide), gN_eq]) ?_
        exact ws_iret C R d_M_tick_109 rfl (by decide) (by decide) ⟨by rw [tckF]; rw [if_neg h68], by rw [tckF]; rw [if_neg h68]; exact hR.same (fun j hj => tck_same hj) (fun j _ => rfl)⟩
    · omega
  | succ n ih =>
    intro w hw S hR
    have h8 : (tcS w G).1 8 0 = G.1 8 0 := by rw [tcS_ne G (by decide)]
    have h1 : (tcS w G).1 1 w = G.1 1 w := by rw [tcS_ne G (by decide)]
    have h6 : (tcS w G).1 6 w = G.1 6 w := tcS_6 G w w (Nat.le_refl _)
    have hb6 : G.1 6 w ≤ 600 := hO 6 w
    have hb1 : G.1 1 w ≤ 1 := hO 1 w
    have hg := tcG_le G w (by omega)
    have hO2 : OK (tcS w G) := ok_tcS hO hs w
    refine ws_iload_n C d_M_tick_4 rfl ?_
    refine ws_bipush C (nI 6) d_M_tick_5 (by decide) ?_
    refine ws_icmp_geN C d_M_tick_7 (by first | omega | exact okl hO _ _) (by first | omega | exact okl hO _ _) (fun h7 => ?_) (fun h7 => ?_)
    · omega
    · refine ws_aload_n C d_M_tick_10 rfl ?_
      refine ws_aload_n C d_M_tick_11 rfl ?_
      refine wm_8 C hR d_M_tick_12 f_M_87 ?_
      refine ws_top (nI (G.1 8 0)) (by rw [h8]) ?_
      refine ws_iload_n C d_M_tick_15 rfl ?_
      refine ws_callVi C w_M_90 (As := [_, _]) (c_M_isIn hR hO2 (by omega) (by omega)) d_M_tick_16 rfl rfl hR.1 (Nat.le_of_ble_eq_true rfl) (by decide) (by decide) (by decide) (fun S hR => ?_)
      refine ws_top (bI (isIn G (G.1 8 0) w)) (by rw [tcS_isIn]) ?_
      refine ws_if_eqB C d_M_tick_19 (fun h19 => ?_) (fun h19 => ?_)
      · refine ws_iinc C _ d_M_tick_61 rfl (inc1 _) (by rw [hn]; decide) ?_
        refine ws_goto C d_M_tick_64 ?_
        have h9 := ih (w + 1) (by omega) S (by rw [tcS, if_neg (by rw [tcS_isIn, h8, h19]; simp)]; exact hR)
        rw [tcG, if_neg (by rw [h19]; simp)] at h9
        exact h9
      · refine ws_aload_n C d_M_tick_22 rfl ?_
        refine wm_arr C hR 1 d_M_tick_23 f_M_7 rfl rfl rfl ?_
        refine ws_iload_n C d_M_tick_26 rfl ?_
        refine wm_zldN C hR 1 d_M_tick_27 rfl rfl (by decide) (show _ < 6 by first | omega | exact okl hO _ _) ?_
        refine ws_top (nI (G.1 1 w)) (by rw [h1]) ?_
        refine ws_if_neN C d_M_tick_28 (by first | omega | exact okl hO _ _) (fun h28 => ?_) (fun h28 => ?_)
        · refine ws_iinc C _ d_M_tick_61 rfl (inc1 _) (by rw [hn]; decide) ?_
          refine ws_goto C d_M_tick_64 ?_
          have h9 := ih (w + 1) (by omega) S (by rw [tcS, if_neg (by rw [h1]; omega)]; exact hR)
          rw [tcG, if_neg (by omega)] at h9
          exact h9
        · refine ws_aload_n C d_M_tick_31 rfl ?_
          refine wm_arr C hR 6 d_M_tick_32 f_M_26 rfl rfl rfl ?_
          refine ws_iload_n C d_M_tick_35 rfl ?_
          refine ws_dup2 C d_M_tick_36 rfl rfl ?_
          refine wm_aldN C hR 6 d_M_tick_37 rfl rfl (by decide) (show _ < 6 by first | omega | exact okl hO _ _) ?_
          refine ws_top (nI (G.1 6 w)) (by rw [h6]) ?_
          refine ws_iconst C (nI 1) d_M_tick_38 (by decide) ?_
          refine ws_iaddN C d_M_tick_39 ?_
          refine wm_astN C hR 6 d_M_tick_40 rfl rfl (by decide) (show _ < 6 by first | omega | exact okl hO _ _) (fun S hR => ?_)
          refine ws_aload_n C d_M_tick_41 rfl ?_
          refine wm_arr C hR 6 d_M_tick_42 f_M_26 rfl rfl rfl ?_
          refine ws_iload_n C d_M_tick_45 rfl ?_
          refine wm_aldN C hR 6 d_M_tick_46 rfl rfl (by decide) (show _ < 6 by first | omega | exact okl hO _ _) ?_
          refine ws_top (nI (G.1 6 w + 1)) (by rw [gN_eq]) ?_
          refine ws_iconst C (nI 3) d_M_tick_47 (by decide) ?_
          refine ws_icmp_ltN C d_M_tick_48 (by first | omega | exact okl hO _ _) (by first | omega | exact okl hO _ _) (fun h48 => ?_) (fun h48 => ?_)
          · refine ws_iload_n C d_M_tick_59 rfl ?_
            refine ws_istore_n C d_M_tick_60 (by rw [hn]; decide) ?_
            refine ws_iinc C _ d_M_tick_61 rfl (inc1 _) (by rw [hn]; decide) ?_
            refine ws_goto C d_M_tick_64 ?_
            have h9 := ih (w + 1) (by omega) S (by rw [tcS, if_pos (by rw [tcS_isIn, h8, h1]; exact ⟨h19, h28⟩), h6]; exact hR)
            rw [tcG, if_neg (by omega)] at h9
            exact h9
          · refine ws_iload_n C d_M_tick_51 rfl ?_
            refine ws_iconst C (nI 1) d_M_tick_52 (by decide) ?_
            refine ws_iload_n C d_M_tick_53 rfl ?_
            refine ws_ishl C d_M_tick_54 ?_
            refine ws_ior C d_M_tick_55 ?_
            refine ws_top (nI (tcG G w ||| 1 <<< w)) (or1 hg (by omega)) ?_
            refine ws_goto C d_M_tick_56 ?_
            refine ws_istore_n C d_M_tick_60 (by rw [hn]; decide) ?_
            refine ws_iinc C _ d_M_tick_61 rfl (inc1 _) (by rw [hn]; decide) ?_
            refine ws_goto C d_M_tick_64 ?_
            have h9 := ih (w + 1) (by omega) S (by rw [tcS, if_pos (by rw [tcS_isIn, h8, h1]; exact ⟨h19, h28⟩), h6]; exact hR)
            rw [tcG, if_pos ⟨h19, h28, by omega⟩] at h9
            exact h9
set_option maxHeartbeats 4000000 in
set_option maxRecDepth 100000 in
theorem c_M_adopt {V : Ev} {o : Nat} {ad : Nat → Nat} {G : GS} {S : Sto} (hR : MR o ad G S) (hO : OK G) (hc : G.1 20 0 + 6 ≤ 1399) (v : Int32) : CT V mi_M_adopt 0 0 [.ref o, .int v] S (Pi (bI (adpF G v).1) (MR o ad (adpF G v).2)) := by
  refine CT.of (cc := prog_8_method_36_code) (own := "ChainVersionsModel") (nL := 4) (d := 3) (by decide) rfl rfl rfl rfl (by simp [Value.category]) (Nat.le_of_ble_eq_true rfl) rfl ?_
  intro F hV hn C R
  subst hV
  refine ws_iload_n C d_M_adopt_0 rfl ?_
  refine ws_iconst C (nI 5) d_M_adopt_1 (by decide) ?_
  refine ws_callSi C w_M_94 (As := [_, _]) (c_M_outside hR v 5) d_M_adopt_2 rfl rfl (Nat.le_of_ble_eq_true rfl) (by decide) (by decide) (by decide) (fun S hR => ?_)
  refine ws_if_neB C d_M_adopt_5 (fun h5 => ?_) (fun h5 => ?_)
  · have xv : inN v 5 = false := by simpa using h5
    refine ws_iconst C (nI 0) d_M_adopt_30 (by decide) ?_
    exact ws_zret C R d_M_adopt_31 rfl (by decide) (by decide) (by decide) ⟨by simp [adpF, bI, nI_0, xv], by simp [adpF, xv]; exact hR⟩
  · have xv : inN v 5 = true := by simpa using h5
    obtain ⟨v, bv, rfl⟩ := inN_of xv (by decide)
    have ev : ix (nI v) = v := ix_n (by omega)
    have hb1 : G.1 1 v ≤ 1 := hO 1 v
    have hb8 : G.1 8 0 ≤ 12 := hO 8 0
    have hb2 : G.1 2 v ≤ 1 := hO 2 v
    refine ws_aload_n C d_M_adopt_8 rfl ?_
    refine wm_arr C hR 1 d_M_adopt_9 f_M_7 rfl rfl rfl ?_
    refine ws_iload_n C d_M_adopt_12 rfl ?_
    refine wm_zldN C hR 1 d_M_adopt_13 rfl rfl (by decide) (show _ < 6 by first | omega | exact okl hO _ _) ?_
    refine ws_if_eqN C d_M_adopt_14 (by first | omega | exact okl hO _ _) (fun h14 => ?_) (fun h14 => ?_)
    · refine ws_iconst C (nI 0) d_M_adopt_30 (by decide) ?_
      exact ws_zret C R d_M_adopt_31 rfl (by decide) (by decide) (by decide) ⟨by simp [adpF, bI, nI_0, xv, ev, h14], by simp [adpF, xv, ev, h14]; exact hR⟩
    · refine ws_aload_n C d_M_adopt_17 rfl ?_
      refine wm_arr C hR 3 d_M_adopt_18 f_M_16 rfl rfl rfl ?_
      refine ws_iload_n C d_M_adopt_21 rfl ?_
      refine wm_aldN C hR 3 d_M_adopt_22 rfl rfl (by decide) (show _ < 6 by first | omega | exact okl hO _ _) ?_
      refine ws_aload_n C d_M_adopt_23 rfl ?_
      refine wm_8 C hR d_M_adopt_24 f_M_87 ?_
      refine ws_icmp_neN C d_M_adopt_27 (by first | omega | exact okl hO _ _) (by first | omega | exact okl hO _ _) (fun h27 => ?_) (fun h27 => ?_)
      · have h1 : G.1 1 v = 1 := by omega
        have eP : adpF G (nI v) = (true, if G.1 2 v = 1 then svR v 3 0 (tel (los (gN G 3 v (G.1 8 0)) v (G.1 8 0)) v) else los (gN G 3 v (G.1 8 0)) v (G.1 8 0)) := by simp [adpF, xv, ev, h1, h27]
        rw [eP] at R
        have hO1 : OK (gN G 3 v (G.1 8 0)) := ok_gN hO hb8
        refine ws_aload_n C d_M_adopt_32 rfl ?_
        refine wm_arr C hR 3 d_M_adopt_33 f_M_16 rfl rfl rfl ?_
        refine ws_iload_n C d_M_adopt_36 rfl ?_
        refine ws_aload_n C d_M_adopt_37 rfl ?_
        refine wm_8 C hR d_M_adopt_38 f_M_87 ?_
        refine wm_astN C hR 3 d_M_adopt_41 rfl rfl (by decide) (show _ < 6 by first | omega | exact okl hO _ _) (fun S hR => ?_)
        refine ws_aload_n C d_M_adopt_42 rfl ?_
        refine ws_iload_n C d_M_adopt_43 rfl ?_
        refine ws_aload_n C d_M_adopt_44 rfl ?_
        refine wm_8 C hR d_M_adopt_45 f_M_87 ?_
        refine ws_top (nI (G.1 8 0)) (by simp [gN_1, gN_2, gV_1, gV_2]) ?_
        refine ws_callVv C w_M_167 (As := [_, _]) (c_M_lose hR hO1 (by omega) (by omega)) d_M_adopt_48 rfl rfl hR.1 (Nat.le_of_ble_eq_true rfl) (by decide) (by decide) (by decide) (fun S hR => ?_)
        refine ws_aload_n C d_M_adopt_51 rfl ?_
        refine wm_arr C hR 2 d_M_adopt_52 f_M_13 rfl rfl rfl ?_
        refine ws_iload_n C d_M_adopt_55 rfl ?_
        refine wm_zldN C hR 2 d_M_adopt_56 rfl rfl (by decide) (show _ < 6 by first | omega | exact okl hO _ _) ?_
        refine ws_top (nI (G.1 2 v)) (by rw [los_ne _ _ _ (by decide), gN_ne _ (by decide)]) ?_
        refine ws_if_neN C d_M_adopt_57 (by omega) (fun h57 => ?_) (fun h57 => ?_)
        · rw [if_pos (by omega)] at R
          have hc1 : (los (gN G 3 v (G.1 8 0)) v (G.1 8 0)).1 20 0 + 6 ≤ 1399 := by
            have := los_20 (gN G 3 v (G.1 8 0)) v (G.1 8 0)
            rw [gN_ne _ (by decide)] at this
            omega
          suffices hL : ∀ (G1 : GS) (S : Sto), OK G1 → G1.1 20 0 + 6 ≤ 1399 → svR v 3 0 (tel G1 v) = svR v 3 0 (tel (los (gN G 3 v (G.1 8 0)) v (G.1 8 0)) v) → MR o ad G1 S → WS F 62 [some (.ref o), some (.int (nI v)), none, none] [] S 0 0 from hL _ S (ok_los hO1) hc1 rfl hR
          clear hR hO1 hc1 hO hb1 hb8 hb2 hc
          intro G2 S hO hc hp hR
          rw [← hp] at R
          clear hp
          have hb4 : G2.1 4 v ≤ 100 := hO 4 v
          have hb5 : G2.1 5 v ≤ 100 := hO 5 v
          have h119 : ∀ S : Sto, MR o ad (tel G2 v) S → WS F 119 [some (.ref o), some (.int (nI v)), none, none] [] S 0 0 := by
            intro S hR
            have hO3 : OK (tel G2 v) := ok_tel hO bv (by omega)
            have hc3 := (tel_20 G2 v).2
            refine ws_iconst C (nI 0) d_M_adopt_119 (by decide) ?_
            refine ws_istore_n C d_M_adopt_120 (by rw [hn]; decide) ?_
            suffices hL : ∀ n c (G3 : GS), c + n = 3 → OK G3 → G3.1 20 0 + n ≤ 1399 → svR v n c G3 = svR v 3 0 (tel G2 v) → ∀ (S : Sto) (y : Option Value), MR o ad G3 S → WS F 121 [some (.ref o), some (.int (nI v)), some (.int (nI c)), y] [] S 0 0 from hL 3 0 _ rfl hO3 (by omega) rfl S _ hR
            clear hR hO3 hc3
            intro n
            induction n with
            | zero =>
              intro c G3 hc3 hO3 h20 hp S y hR
              refine ws_iload_n C d_M_adopt_121 rfl ?_
              refine ws_iconst C (nI 3) d_M_adopt_122 (by decide) ?_
              refine ws_icmp_geN C d_M_adopt_123 (by first | omega | exact okl hO _ _) (by first | omega | exact okl hO _ _) (fun h123 => ?_) (fun h123 => ?_)
              · refine ws_iconst C (nI 1) d_M_adopt_159 (by decide) ?_
                exact ws_zret C R d_M_adopt_160 rfl (by decide) (by decide) (by decide) ⟨rfl, by rw [← hp]; exact hR⟩
              · omega
            | succ n ih =>
              intro c G3 hc3 hO3 h20 hp S y hR
              have hb13 : G3.1 13 c ≤ 4 := hO3 13 c
              have hb17 : G3.1 17 c ≤ 5 := hO3 17 c
              rw [svR] at hp
              have hs20 := (srv_20 G3 c v).2
              refine ws_iload_n C d_M_adopt_121 rfl ?_
              refine ws_iconst C (nI 3) d_M_adopt_122 (by decide) ?_
              refine ws_icmp_geN C d_M_adopt_123 (by first | omega | exact okl hO _ _) (by first | omega | exact okl hO _ _) (fun h123 => ?_) (fun h123 => ?_)
              · omega
              · refine ws_aload_n C d_M_adopt_126 rfl ?_
                refine wm_arr C hR 13 d_M_adopt_127 f_M_44 rfl rfl rfl ?_
                refine ws_iload_n C d_M_adopt_130 rfl ?_
                refine wm_aldN C hR 13 d_M_adopt_131 rfl rfl (by decide) (show _ < 3 by first | omega | exact okl hO _ _) ?_
                refine ws_iconst C (nI 3) d_M_adopt_132 (by decide) ?_
                refine ws_icmp_neN C d_M_adopt_133 (by first | omega | exact okl hO _ _) (by first | omega | exact okl hO _ _) (fun h133 => ?_) (fun h133 => ?_)
                · refine ws_iinc C _ d_M_adopt_153 rfl (inc1 _) (by rw [hn]; decide) ?_
                  refine ws_goto C d_M_adopt_156 ?_
                  exact ih (c + 1) G3 (by omega) hO3 (by omega) (by rw [← hp, if_neg (by omega)]) S _ hR
                · refine ws_aload_n C d_M_adopt_136 rfl ?_
                  refine wm_arr C hR 17 d_M_adopt_137 f_M_56 rfl rfl rfl ?_
                  refine ws_iload_n C d_M_adopt_140 rfl ?_
                  refine wm_aldN C hR 17 d_M_adopt_141 rfl rfl (by decide) (show _ < 3 by first | omega | exact okl hO _ _) ?_
                  refine ws_iload_n C d_M_adopt_142 rfl ?_
                  refine ws_icmp_neN C d_M_adopt_143 (by first | omega | exact okl hO _ _) (by first | omega | exact okl hO _ _) (fun h143 => ?_) (fun h143 => ?_)
                  · refine ws_iinc C _ d_M_adopt_153 rfl (inc1 _) (by rw [hn]; decide) ?_
                    refine ws_goto C d_M_adopt_156 ?_
                    exact ih (c + 1) G3 (by omega) hO3 (by omega) (by rw [← hp, if_neg (by omega)]) S _ hR
                  · refine ws_aload_n C d_M_adopt_146 rfl ?_
                    refine ws_iload_n C d_M_adopt_147 rfl ?_
                    refine ws_iload_n C d_M_adopt_148 rfl ?_
                    refine ws_callVi C w_M_151 (As := [_, _]) (c_M_serve hR hO3 (by omega) (by omega)) d_M_adopt_149 rfl rfl hR.1 (Nat.le_of_ble_eq_true rfl) (by decide) (by decide) (by decide) (fun S hR => ?_)
                    refine ws_istore_n C d_M_adopt_152 (by rw [hn]; decide) ?_
                    refine ws_iinc C _ d_M_adopt_153 rfl (inc1 _) (by rw [hn]; decide) ?_
                    refine ws_goto C d_M_adopt_156 ?_
                    exact ih (c + 1) _ (by omega) (ok_srv hO3 (by omega) (by omega) (by omega)) (by omega) (by rw [← hp, if_pos (by omega)]) S _ hR
          refine ws_aload_n C d_M_adopt_62 rfl ?_
          refine ws_iload_n C d_M_adopt_63 rfl ?_
          refine ws_callVi C w_M_104 (As := [_]) (c_M_successor hR hO (by omega)) d_M_adopt_64 rfl rfl hR.1 (Nat.le_of_ble_eq_true rfl) (by decide) (by decide) (by decide) (fun S hR => ?_)
          refine ws_if_geO C d_M_adopt_67 (fun n hn => by have := suc_le hn; omega) (fun h67 => ?_) (fun h67 => ?_)
          · refine ws_aload_n C d_M_adopt_78 rfl ?_
            refine ws_iload_n C d_M_adopt_79 rfl ?_
            refine ws_aload_n C d_M_adopt_80 rfl ?_
            refine ws_iload_n C d_M_adopt_81 rfl ?_
            refine ws_callVi C w_M_104 (As := [_]) (c_M_successor hR hO (by omega)) d_M_adopt_82 rfl rfl hR.1 (Nat.le_of_ble_eq_true rfl) (by decide) (by decide) (by decide) (fun S hR => ?_)
            refine ws_iconst C (nI 5) d_M_adopt_85 (by decide) ?_
            refine ws_aload_n C d_M_adopt_86 rfl ?_
            refine wm_arr C hR 4 d_M_adopt_87 f_M_20 rfl rfl rfl ?_
            refine ws_iload_n C d_M_adopt_90 rfl ?_
            refine wm_aldN C hR 4 d_M_adopt_91 rfl rfl (by decide) (show _ < 6 by first | omega | exact okl hO _ _) ?_
            refine ws_aload_n C d_M_adopt_92 rfl ?_
            refine wm_arr C hR 5 d_M_adopt_93 f_M_23 rfl rfl rfl ?_
            refine ws_iload_n C d_M_adopt_96 rfl ?_
            refine wm_aldN C hR 5 d_M_adopt_97 rfl rfl (by decide) (show _ < 6 by first | omega | exact okl hO _ _) ?_
            refine ws_callVv C w_M_114 (As := [_, _, _, _, _]) (c_M_send hR hO (w := suc G2 v) (by omega) (fun x hx => suc_le hx)) d_M_adopt_98 rfl rfl hR.1 (Nat.le_of_ble_eq_true rfl) (by decide) (by decide) (by decide) (fun S hR => ?_)
            have hO2 : OK (snd G2 v (suc G2 v) 5 (G2.1 4 v) (G2.1 5 v)) := ok_snd hO bv (fun x hx => suc_le hx) (by decide) hb4 hb5 (by omega)
            refine ws_aload_n C d_M_adopt_101 rfl ?_
            refine ws_iload_n C d_M_adopt_102 rfl ?_
            refine ws_aload_n C d_M_adopt_103 rfl ?_
            refine ws_iload_n C d_M_adopt_104 rfl ?_
            refine ws_callVi C w_M_111 (As := [_]) (prd_c (G := G2) (G' := snd G2 v (suc G2 v) 5 (G2.1 4 v) (G2.1 5 v)) (snd_ne _ _ _ _ _ _ (by decide)) (snd_ne _ _ _ _ _ _ (by decide)) v ▸ c_M_predecessor hR hO2 (by omega)) d_M_adopt_105 rfl rfl hR.1 (Nat.le_of_ble_eq_true rfl) (by decide) (by decide) (by decide) (fun S hR => ?_)
            refine ws_iconst C (nI 2) d_M_adopt_108 (by decide) ?_
            refine ws_aload_n C d_M_adopt_109 rfl ?_
            refine wm_arr C hR 5 d_M_adopt_110 f_M_23 rfl rfl rfl ?_
            refine ws_iload_n C d_M_adopt_113 rfl ?_
            refine wm_aldN C hR 5 d_M_adopt_114 rfl rfl (by decide) (show _ < 6 by first | omega | exact okl hO _ _) ?_
            refine ws_top (nI (G2.1 5 v)) (by rw [snd_ne _ _ _ _ _ _ (by decide)]) ?_
            refine ws_iconst C (nI 0) d_M_adopt_115 (by decide) ?_
            refine ws_callVv C w_M_114 (As := [_, _, _, _, _]) (c_M_send hR hO2 (w := prd G2 v) (by omega) (fun x hx => prd_le bv hx)) d_M_adopt_116 rfl rfl hR.1 (Nat.le_of_ble_eq_true rfl) (by decide) (by decide) (by decide) (fun S hR => ?_)
            exact h119 S (by rw [tel, if_neg h67]; exact hR)
          · refine ws_aload_n C d_M_adopt_70 rfl ?_
            refine ws_iload_n C d_M_adopt_71 rfl ?_
            refine ws_callVv C w_M_108 (As := [_]) (c_M_settleAll hR hO (by omega)) d_M_adopt_72 rfl rfl hR.1 (Nat.le_of_ble_eq_true rfl) (by decide) (by decide) (by decide) (fun S hR => ?_)
            refine ws_goto C d_M_adopt_75 ?_
            have hO2 : OK (stl G2 v) := ok_stl hO
            refine ws_aload_n C d_M_adopt_101 rfl ?_
            refine ws_iload_n C d_M_adopt_102 rfl ?_
            refine ws_aload_n C d_M_adopt_103 rfl ?_
            refine ws_iload_n C d_M_adopt_104 rfl ?_
            refine ws_callVi C w_M_111 (As := [_]) (prd_c (G := G2) (G' := stl G2 v) (stl_ne G2 v (by decide) (by decide) (by decide)) (stl_ne G2 v (by decide) (by decide) (by decide)) v ▸ c_M_predecessor hR hO2 (by omega)) d_M_adopt_105 rfl rfl hR.1 (Nat.le_of_ble_eq_true rfl) (by decide) (by decide) (by decide) (fun S hR => ?_)
            refine ws_iconst C (nI 2) d_M_adopt_108 (by decide) ?_
            refine ws_aload_n C d_M_adopt_109 rfl ?_
            refine wm_arr C hR 5 d_M_adopt_110 f_M_23 rfl rfl rfl ?_
            refine ws_iload_n C d_M_adopt_113 rfl ?_
            refine wm_aldN C hR 5 d_M_adopt_114 rfl rfl (by decide) (show _ < 6 by first | omega | exact okl hO _ _) ?_
            refine ws_top (nI (G2.1 4 v)) (by rw [stl_5]) ?_
            refine ws_iconst C (nI 0) d_M_adopt_115 (by decide) ?_
            refine ws_callVv C w_M_114 (As := [_, _, _, _, _]) (c_M_send hR hO2 (w := prd G2 v) (by omega) (fun x hx => prd_le bv hx)) d_M_adopt_116 rfl rfl hR.1 (Nat.le_of_ble_eq_true rfl) (by decide) (by decide) (by decide) (fun S hR => ?_)
            exact h119 S (by rw [tel, if_pos h67]; exact hR)
        · rw [if_neg (by omega)] at R
          refine ws_iconst C (nI 1) d_M_adopt_60 (by decide) ?_
          exact ws_zret C R d_M_adopt_61 rfl (by decide) (by decide) (by decide) ⟨rfl, hR⟩
      · refine ws_iconst C (nI 0) d_M_adopt_30 (by decide) ?_
        exact ws_zret C R d_M_adopt_31 rfl (by decide) (by decide) (by decide) ⟨by simp [adpF, bI, nI_0, xv, ev, h27], by simp [adpF, xv, ev, h27]; exact hR⟩
