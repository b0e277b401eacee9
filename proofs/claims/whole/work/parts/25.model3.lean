/-! the reference: strike, lose, settle, take, serve, write, act, arrive -/
set_option maxHeartbeats 4000000 in
set_option maxRecDepth 100000 in
theorem c_M_strike {V : Ev} {o : Nat} {ad : Nat → Nat} {G : GS} {S : Sto} (hR : MR o ad G S) (hO : OK G) {m : Nat} (hm : m < G.1 20 0) : CT V mi_M_strike 0 0 [.ref o, .int (nI m)] S (Pv (MR o ad (stk G m))) := by
  refine CT.of (cc := prog_8_method_13_code) (own := "ChainVersionsModel") (nL := 3) (d := 0) (by decide) rfl rfl rfl rfl (by simp [Value.category]) (Nat.le_of_ble_eq_true rfl) rfl ?_
  intro F hV hn C R
  subst hV
  have hb20 : G.1 20 0 ≤ 1399 := hO 20 0
  refine ws_aload_n C d_M_strike_0 rfl ?_
  refine ws_dup C d_M_strike_1 rfl ?_
  refine wm_20 C hR d_M_strike_2 f_M_97 ?_
  refine ws_iconst C (nI 1) d_M_strike_5 (by decide) ?_
  refine ws_isubN C d_M_strike_6 (by first | omega | exact okl hO _ _) ?_
  refine wm_put C hR 20 (by decide) d_M_strike_7 f_M_97 (fun S hR => ?_)
  refine ws_iload_n C d_M_strike_10 rfl ?_
  refine ws_istore_n C d_M_strike_11 (by rw [hn]; decide) ?_
  rw [stkT_0 G m] at hR
  suffices hL : ∀ n k, k + n = G.1 20 0 - 1 → m ≤ k → ∀ S : Sto, MR o ad (stkT G m k) S → WS F 12 [some (.ref o), some (.int (nI m)), some (.int (nI k))] [] S 0 0 from hL (G.1 20 0 - 1 - m) m (by omega) (Nat.le_refl _) S hR
  intro n
  induction n with
  | zero =>
    intro k hk hm S hR
    refine ws_iload_n C d_M_strike_12 rfl ?_
    refine ws_aload_n C d_M_strike_13 rfl ?_
    refine wm_20 C hR d_M_strike_14 f_M_97 ?_
    refine ws_top (nI (G.1 20 0 - 1)) (by rw [stkT_20]) ?_
    refine ws_icmp_geN C d_M_strike_17 (by first | omega | exact okl hO _ _) (by first | omega | exact okl hO _ _) (fun h17 => ?_) (fun h17 => ?_)
    · exact ws_vret C R d_M_strike_110 rfl (by decide) (by decide) ⟨rfl, by rw [stk, ← show k = G.1 20 0 - 1 by omega]; exact hR⟩
    · omega
  | succ n ih =>
    intro k hk hm S hR
    refine ws_iload_n C d_M_strike_12 rfl ?_
    refine ws_aload_n C d_M_strike_13 rfl ?_
    refine wm_20 C hR d_M_strike_14 f_M_97 ?_
    refine ws_top (nI (G.1 20 0 - 1)) (by rw [stkT_20]) ?_
    refine ws_icmp_geN C d_M_strike_17 (by first | omega | exact okl hO _ _) (by first | omega | exact okl hO _ _) (fun h17 => ?_) (fun h17 => ?_)
    · omega
    · refine ws_aload_n C d_M_strike_20 rfl ?_
      refine wm_arr C hR 21 d_M_strike_21 f_M_65 rfl rfl rfl ?_
      refine ws_iload_n C d_M_strike_24 rfl ?_
      refine ws_aload_n C d_M_strike_25 rfl ?_
      refine wm_arr C hR 21 d_M_strike_26 f_M_65 rfl rfl rfl ?_
      refine ws_iload_n C d_M_strike_29 rfl ?_
      refine ws_iconst C (nI 1) d_M_strike_30 (by decide) ?_
      refine ws_iaddN C d_M_strike_31 ?_
      refine wm_aldN C hR 21 d_M_strike_32 rfl rfl (by decide) (show _ < 1400 by first | omega | exact okl hO _ _) ?_
      refine ws_top (nI (G.1 21 (k + 1))) (by rw [stkT_at G (by decide) (by omega)]) ?_
      refine wm_astN C hR 21 d_M_strike_33 rfl rfl (by decide) (show _ < 1400 by first | omega | exact okl hO _ _) (fun S hR => ?_)
      refine ws_aload_n C d_M_strike_34 rfl ?_
      refine wm_arr C hR 22 d_M_strike_35 f_M_68 rfl rfl rfl ?_
      refine ws_iload_n C d_M_strike_38 rfl ?_
      refine ws_aload_n C d_M_strike_39 rfl ?_
      refine wm_arr C hR 22 d_M_strike_40 f_M_68 rfl rfl rfl ?_
      refine ws_iload_n C d_M_strike_43 rfl ?_
      refine ws_iconst C (nI 1) d_M_strike_44 (by decide) ?_
      refine ws_iaddN C d_M_strike_45 ?_
      refine wm_aldN C hR 22 d_M_strike_46 rfl rfl (by decide) (show _ < 1400 by first | omega | exact okl hO _ _) ?_
      refine ws_top (nI (G.1 22 (k + 1))) (by rw [gN_ne _ (by decide), stkT_at G (by decide) (by omega)]) ?_
      refine wm_astN C hR 22 d_M_strike_47 rfl rfl (by decide) (show _ < 1400 by first | omega | exact okl hO _ _) (fun S hR => ?_)
      refine ws_aload_n C d_M_strike_48 rfl ?_
      refine wm_arr C hR 23 d_M_strike_49 f_M_71 rfl rfl rfl ?_
      refine ws_iload_n C d_M_strike_52 rfl ?_
      refine ws_aload_n C d_M_strike_53 rfl ?_
      refine wm_arr C hR 23 d_M_strike_54 f_M_71 rfl rfl rfl ?_
      refine ws_iload_n C d_M_strike_57 rfl ?_
      refine ws_iconst C (nI 1) d_M_strike_58 (by decide) ?_
      refine ws_iaddN C d_M_strike_59 ?_
      refine wm_aldN C hR 23 d_M_strike_60 rfl rfl (by decide) (show _ < 1400 by first | omega | exact okl hO _ _) ?_
      refine ws_top (nI (G.1 23 (k + 1))) (by rw [gN_ne _ (by decide), gN_ne _ (by decide), stkT_at G (by decide) (by omega)]) ?_
      refine wm_astN C hR 23 d_M_strike_61 rfl rfl (by decide) (show _ < 1400 by first | omega | exact okl hO _ _) (fun S hR => ?_)
      refine ws_aload_n C d_M_strike_62 rfl ?_
      refine wm_arr C hR 24 d_M_strike_63 f_M_74 rfl rfl rfl ?_
      refine ws_iload_n C d_M_strike_66 rfl ?_
      refine ws_aload_n C d_M_strike_67 rfl ?_
      refine wm_arr C hR 24 d_M_strike_68 f_M_74 rfl rfl rfl ?_
      refine ws_iload_n C d_M_strike_71 rfl ?_
      refine ws_iconst C (nI 1) d_M_strike_72 (by decide) ?_
      refine ws_iaddN C d_M_strike_73 ?_
      refine wm_aldN C hR 24 d_M_strike_74 rfl rfl (by decide) (show _ < 1400 by first | omega | exact okl hO _ _) ?_
      refine ws_top (nI (G.1 24 (k + 1))) (by rw [gN_ne _ (by decide), gN_ne _ (by decide), gN_ne _ (by decide), stkT_at G (by decide) (by omega)]) ?_
      refine wm_astN C hR 24 d_M_strike_75 rfl rfl (by decide) (show _ < 1400 by first | omega | exact okl hO _ _) (fun S hR => ?_)
      refine ws_aload_n C d_M_strike_76 rfl ?_
      refine wm_arr C hR 25 d_M_strike_77 f_M_77 rfl rfl rfl ?_
      refine ws_iload_n C d_M_strike_80 rfl ?_
      refine ws_aload_n C d_M_strike_81 rfl ?_
      refine wm_arr C hR 25 d_M_strike_82 f_M_77 rfl rfl rfl ?_
      refine ws_iload_n C d_M_strike_85 rfl ?_
      refine ws_iconst C (nI 1) d_M_strike_86 (by decide) ?_
      refine ws_iaddN C d_M_strike_87 ?_
      refine wm_aldN C hR 25 d_M_strike_88 rfl rfl (by decide) (show _ < 1400 by first | omega | exact okl hO _ _) ?_
      refine ws_top (nI (G.1 25 (k + 1))) (by rw [gN_ne _ (by decide), gN_ne _ (by decide), gN_ne _ (by decide), gN_ne _ (by decide), stkT_at G (by decide) (by omega)]) ?_
      refine wm_astN C hR 25 d_M_strike_89 rfl rfl (by decide) (show _ < 1400 by first | omega | exact okl hO _ _) (fun S hR => ?_)
      refine ws_aload_n C d_M_strike_90 rfl ?_
      refine wm_arr C hR 26 d_M_strike_91 f_M_80 rfl rfl rfl ?_
      refine ws_iload_n C d_M_strike_94 rfl ?_
      refine ws_aload_n C d_M_strike_95 rfl ?_
      refine wm_arr C hR 26 d_M_strike_96 f_M_80 rfl rfl rfl ?_
      refine ws_iload_n C d_M_strike_99 rfl ?_
      refine ws_iconst C (nI 1) d_M_strike_100 (by decide) ?_
      refine ws_iaddN C d_M_strike_101 ?_
      refine wm_aldN C hR 26 d_M_strike_102 rfl rfl (by decide) (show _ < 1400 by first | omega | exact okl hO _ _) ?_
      refine ws_top (nI (G.1 26 (k + 1))) (by rw [gN_ne _ (by decide), gN_ne _ (by decide), gN_ne _ (by decide), gN_ne _ (by decide), gN_ne _ (by decide), stkT_at G (by decide) (by omega)]) ?_
      refine wm_astN C hR 26 d_M_strike_103 rfl rfl (by decide) (show _ < 1400 by first | omega | exact okl hO _ _) (fun S hR => ?_)
      refine ws_iinc C _ d_M_strike_104 rfl (inc1 _) (by rw [hn]; decide) ?_
      refine ws_goto C d_M_strike_107 ?_
      exact ih (k + 1) (by omega) (by omega) S (stkT_s (G := G) hm ▸ hR)
set_option maxHeartbeats 4000000 in
set_option maxRecDepth 100000 in
theorem c_M_lose {V : Ev} {o : Nat} {ad : Nat → Nat} {G : GS} {S : Sto} (hR : MR o ad G S) (hO : OK G) {w e : Nat} (hw : w ≤ 5) (he : e ≤ 20) : CT V mi_M_lose 0 0 [.ref o, .int (nI w), .int (nI e)] S (Pv (MR o ad (los G w e))) := by
  refine CT.of (cc := prog_8_method_14_code) (own := "ChainVersionsModel") (nL := 4) (d := 1) (by decide) rfl rfl rfl rfl (by simp [Value.category]) (Nat.le_of_ble_eq_true rfl) rfl ?_
  intro F hV hn C R
  subst hV
  have hb20 : G.1 20 0 ≤ 1399 := hO 20 0
  refine ws_aload_n C d_M_lose_0 rfl ?_
  refine wm_20 C hR d_M_lose_1 f_M_97 ?_
  refine ws_iconst C (nI 1) d_M_lose_4 (by decide) ?_
  refine ws_isub C d_M_lose_5 ?_
  refine ws_istore_n C d_M_lose_6 (by rw [hn]; decide) ?_
  suffices hL : ∀ n (G1 : GS), n ≤ G1.1 20 0 → OK G1 → losF w e n G1 = los G w e → ∀ S : Sto, MR o ad G1 S → ∀ x : Int32, x = nI n - nI 1 → WS F 7 [some (.ref o), some (.int (nI w)), some (.int (nI e)), some (.int x)] [] S 0 0 from hL _ G (Nat.le_refl _) hO rfl S hR _ rfl
  intro n
  induction n with
  | zero =>
    intro G1 hn1 hO1 hp S hR x hx
    subst hx
    refine ws_iload_n C d_M_lose_7 rfl ?_
    refine ws_if_lt C d_M_lose_8 (fun _ => ?_) (fun h => absurd (by decide) h)
    exact ws_vret C R d_M_lose_42 rfl (by decide) (by decide) ⟨rfl, by rw [← hp]; exact hR⟩
  | succ n ih =>
    intro G1 hn1 hO1 hp S hR x hx
    have hx1 : x = nI n := by rw [hx, nI_sub (by omega)]; rfl
    subst hx1
    have hb20 : G1.1 20 0 ≤ 1399 := hO1 20 0
    refine ws_iload_n C d_M_lose_7 rfl ?_
    refine ws_if_ltN C d_M_lose_8 (by omega) ?_
    refine ws_aload_n C d_M_lose_11 rfl ?_
    refine wm_arr C hR 22 d_M_lose_12 f_M_68 rfl rfl rfl ?_
    refine ws_iload_n C d_M_lose_15 rfl ?_
    refine wm_aldN C hR 22 d_M_lose_16 rfl rfl (by decide) (show _ < 1400 by first | omega | exact okl hO1 _ _) ?_
    refine ws_iload_n C d_M_lose_17 rfl ?_
    refine ws_icmp_neN C d_M_lose_18 (by first | omega | exact okl hO1 _ _) (by first | omega | exact okl hO1 _ _) (fun h18 => ?_) (fun h18 => ?_)
    · refine ws_iinc C (nI n - nI 1) d_M_lose_36 rfl (by rw [Int32.sub_eq_add_neg]; rfl) (by rw [hn]; decide) ?_
      refine ws_goto C d_M_lose_39 ?_
      exact ih G1 (by omega) hO1 (by rw [← hp, losF, if_neg (fun z => h18 z.1)]) S hR _ rfl
    · refine ws_aload_n C d_M_lose_21 rfl ?_
      refine wm_arr C hR 24 d_M_lose_22 f_M_74 rfl rfl rfl ?_
      refine ws_iload_n C d_M_lose_25 rfl ?_
      refine wm_aldN C hR 24 d_M_lose_26 rfl rfl (by decide) (show _ < 1400 by first | omega | exact okl hO1 _ _) ?_
      refine ws_iload_n C d_M_lose_27 rfl ?_
      refine ws_icmp_geN C d_M_lose_28 (by first | omega | exact okl hO1 _ _) (by first | omega | exact okl hO1 _ _) (fun h28 => ?_) (fun h28 => ?_)
      · refine ws_iinc C (nI n - nI 1) d_M_lose_36 rfl (by rw [Int32.sub_eq_add_neg]; rfl) (by rw [hn]; decide) ?_
        refine ws_goto C d_M_lose_39 ?_
        exact ih G1 (by omega) hO1 (by rw [← hp, losF, if_neg (by omega)]) S hR _ rfl
      · refine ws_aload_n C d_M_lose_31 rfl ?_
        refine ws_iload_n C d_M_lose_32 rfl ?_
        refine ws_callVv C w_M_100 (As := [_]) (c_M_strike hR hO1 (by omega)) d_M_lose_33 rfl rfl hR.1 (Nat.le_of_ble_eq_true rfl) (by decide) (by decide) (by decide) (fun S hR => ?_)
        refine ws_iinc C (nI n - nI 1) d_M_lose_36 rfl (by rw [Int32.sub_eq_add_neg]; rfl) (by rw [hn]; decide) ?_
        refine ws_goto C d_M_lose_39 ?_
        exact ih (stk G1 n) (by unfold stk; rw [stkT_20]; omega) (ok_stk hO1) (by rw [← hp, losF, if_pos (by omega)]) S hR _ rfl
set_option maxHeartbeats 4000000 in
set_option maxRecDepth 100000 in
theorem c_M_settleAll {V : Ev} {o : Nat} {ad : Nat → Nat} {G : GS} {S : Sto} (hR : MR o ad G S) (hO : OK G) {v : Nat} (hv : v ≤ 5) : CT V mi_M_settleAll 0 0 [.ref o, .int (nI v)] S (Pv (MR o ad (stl G v))) := by
  refine CT.of (cc := prog_8_method_15_code) (own := "ChainVersionsModel") (nL := 4) (d := 0) (by decide) rfl rfl rfl rfl (by simp [Value.category]) (Nat.le_of_ble_eq_true rfl) rfl ?_
  intro F hV hn C R
  subst hV
  have hb4 : G.1 4 v ≤ 100 := hO 4 v
  have hb5 : G.1 5 v ≤ 100 := hO 5 v
  refine ws_aload_n C d_M_settleAll_0 rfl ?_
  refine wm_arr C hR 5 d_M_settleAll_1 f_M_23 rfl rfl rfl ?_
  refine ws_iload_n C d_M_settleAll_4 rfl ?_
  refine wm_aldN C hR 5 d_M_settleAll_5 rfl rfl (by decide) (show _ < 6 by first | omega | exact okl hO _ _) ?_
  refine ws_iconst C (nI 1) d_M_settleAll_6 (by decide) ?_
  refine ws_iaddN C d_M_settleAll_7 ?_
  refine ws_istore_n C d_M_settleAll_8 (by rw [hn]; decide) ?_
  suffices hL : ∀ n i (G1 : GS), n = G.1 4 v + 1 - i → 1 ≤ i → i ≤ 200 → OK G1 → G1.1 4 v = G.1 4 v → gN (stlF v n i G1) 5 v (G.1 4 v) = stl G v → ∀ (S : Sto) (y : Option Value), MR o ad G1 S → WS F 9 [some (.ref o), some (.int (nI v)), some (.int (nI i)), y] [] S 0 0 from hL _ (G.1 5 v + 1) G rfl (by omega) (by omega) hO rfl (by rw [stl, Nat.add_sub_add_right]) S _ hR
  intro n
  induction n with
  | zero =>
    intro i G1 hi h1 h2 hO1 e4 hp S y hR
    refine ws_iload_n C d_M_settleAll_9 rfl ?_
    refine ws_aload_n C d_M_settleAll_10 rfl ?_
    refine wm_arr C hR 4 d_M_settleAll_11 f_M_20 rfl rfl rfl ?_
    refine ws_iload_n C d_M_settleAll_14 rfl ?_
    refine wm_aldN C hR 4 d_M_settleAll_15 rfl rfl (by decide) (show _ < 6 by first | omega | exact okl hO1 _ _) ?_
    refine ws_top (nI (G.1 4 v)) (by rw [e4]) ?_
    refine ws_icmp_gtN C d_M_settleAll_16 (by first | omega | exact okl hO1 _ _) (by first | omega | exact okl hO1 _ _) (fun h16 => ?_) (fun h16 => ?_)
    · refine ws_aload_n C d_M_settleAll_101 rfl ?_
      refine wm_arr C hR 5 d_M_settleAll_102 f_M_23 rfl rfl rfl ?_
      refine ws_iload_n C d_M_settleAll_105 rfl ?_
      refine ws_aload_n C d_M_settleAll_106 rfl ?_
      refine wm_arr C hR 4 d_M_settleAll_107 f_M_20 rfl rfl rfl ?_
      refine ws_iload_n C d_M_settleAll_110 rfl ?_
      refine wm_aldN C hR 4 d_M_settleAll_111 rfl rfl (by decide) (show _ < 6 by first | omega | exact okl hO1 _ _) ?_
      refine ws_top (nI (G.1 4 v)) (by rw [e4]) ?_
      refine wm_astN C hR 5 d_M_settleAll_112 rfl rfl (by decide) (show _ < 6 by first | omega | exact okl hO1 _ _) (fun S hR => ?_)
      exact ws_vret C R d_M_settleAll_113 rfl (by decide) (by decide) ⟨rfl, by rw [← hp]; exact hR⟩
    · omega
  | succ n ih =>
    intro i G1 hi h1 h2 hO1 e4 hp S y hR
    have hb11 : G1.1 11 (128 * v + i) ≤ 2 := hO1 11 _
    refine ws_iload_n C d_M_settleAll_9 rfl ?_
    refine ws_aload_n C d_M_settleAll_10 rfl ?_
    refine wm_arr C hR 4 d_M_settleAll_11 f_M_20 rfl rfl rfl ?_
    refine ws_iload_n C d_M_settleAll_14 rfl ?_
    refine wm_aldN C hR 4 d_M_settleAll_15 rfl rfl (by decide) (show _ < 6 by first | omega | exact okl hO1 _ _) ?_
    refine ws_top (nI (G.1 4 v)) (by rw [e4]) ?_
    refine ws_icmp_gtN C d_M_settleAll_16 (by first | omega | exact okl hO1 _ _) (by first | omega | exact okl hO1 _ _) (fun h16 => ?_) (fun h16 => ?_)
    · omega
    · refine ws_aload_n C d_M_settleAll_19 rfl ?_
      refine wm_arr C hR 11 d_M_settleAll_20 f_M_38 rfl rfl rfl ?_
      refine ws_sipush C (nI 128) d_M_settleAll_23 (by decide) ?_
      refine ws_iload_n C d_M_settleAll_26 rfl ?_
      refine ws_imulN C d_M_settleAll_27 ?_
      refine ws_iload_n C d_M_settleAll_28 rfl ?_
      refine ws_iaddN C d_M_settleAll_29 ?_
      refine wm_aldN C hR 11 d_M_settleAll_30 rfl rfl (by decide) (show _ < 768 by first | omega | exact okl hO1 _ _) ?_
      refine ws_istore_n C d_M_settleAll_31 (by rw [hn]; decide) ?_
      refine ws_aload_n C d_M_settleAll_32 rfl ?_
      refine wm_arr C hR 13 d_M_settleAll_33 f_M_44 rfl rfl rfl ?_
      refine ws_iload_n C d_M_settleAll_36 rfl ?_
      refine wm_aldN C hR 13 d_M_settleAll_37 rfl rfl (by decide) (show _ < 3 by first | omega | exact okl hO1 _ _) ?_
      refine ws_iconst C (nI 1) d_M_settleAll_38 (by decide) ?_
      refine ws_icmp_neN C d_M_settleAll_39 (by first | omega | exact okl hO1 _ _) (by first | omega | exact okl hO1 _ _) (fun h39 => ?_) (fun h39 => ?_)
      · refine ws_iinc C _ d_M_settleAll_95 rfl (inc1 _) (by rw [hn]; decide) ?_
        refine ws_goto C d_M_settleAll_98 ?_
        have hR : MR o ad (fin1 G1 v i) S := by unfold fin1; rw [if_neg (fun z => h39 z.1)]; exact hR
        exact ih (i + 1) _ (by omega) (by omega) (by omega) (ok_fin1 hO1 (by omega)) (by rw [fin1_ne _ _ _ (by decide) (by decide)]; exact e4) hp S _ hR
      · refine ws_aload_n C d_M_settleAll_42 rfl ?_
        refine wm_arr C hR 12 d_M_settleAll_43 f_M_41 rfl rfl rfl ?_
        refine ws_sipush C (nI 128) d_M_settleAll_46 (by decide) ?_
        refine ws_iload_n C d_M_settleAll_49 rfl ?_
        refine ws_imulN C d_M_settleAll_50 ?_
        refine ws_iload_n C d_M_settleAll_51 rfl ?_
        refine ws_iaddN C d_M_settleAll_52 ?_
        refine wm_aldN C hR 12 d_M_settleAll_53 rfl rfl (by decide) (show _ < 768 by first | omega | exact okl hO1 _ _) ?_
        refine ws_aload_n C d_M_settleAll_54 rfl ?_
        refine wm_arr C hR 14 d_M_settleAll_55 f_M_47 rfl rfl rfl ?_
        refine ws_iload_n C d_M_settleAll_58 rfl ?_
        refine wm_aldN C hR 14 d_M_settleAll_59 rfl rfl (by decide) (show _ < 3 by first | omega | exact okl hO1 _ _) ?_
        refine ws_icmp_neN C d_M_settleAll_60 (by first | omega | exact okl hO1 _ _) (by first | omega | exact okl hO1 _ _) (fun h60 => ?_) (fun h60 => ?_)
        · refine ws_iinc C _ d_M_settleAll_95 rfl (inc1 _) (by rw [hn]; decide) ?_
          refine ws_goto C d_M_settleAll_98 ?_
          have hR : MR o ad (fin1 G1 v i) S := by unfold fin1; rw [if_neg (fun z => h60 z.2)]; exact hR
          exact ih (i + 1) _ (by omega) (by omega) (by omega) (ok_fin1 hO1 (by omega)) (by rw [fin1_ne _ _ _ (by decide) (by decide)]; exact e4) hp S _ hR
        · refine ws_aload_n C d_M_settleAll_63 rfl ?_
          refine wm_arr C hR 13 d_M_settleAll_64 f_M_44 rfl rfl rfl ?_
          refine ws_iload_n C d_M_settleAll_67 rfl ?_
          refine ws_iconst C (nI 2) d_M_settleAll_68 (by decide) ?_
          refine wm_astN C hR 13 d_M_settleAll_69 rfl rfl (by decide) (show _ < 3 by first | omega | exact okl hO1 _ _) (fun S hR => ?_)
          refine ws_aload_n C d_M_settleAll_70 rfl ?_
          refine wm_arr C hR 18 d_M_settleAll_71 f_M_59 rfl rfl rfl ?_
          refine ws_iload_n C d_M_settleAll_74 rfl ?_
          refine ws_iload_n C d_M_settleAll_75 rfl ?_
          refine wm_astN C hR 18 d_M_settleAll_76 rfl rfl (by decide) (show _ < 3 by first | omega | exact okl hO1 _ _) (fun S hR => ?_)
          refine ws_aload_n C d_M_settleAll_77 rfl ?_
          refine wm_arr C hR 19 d_M_settleAll_78 f_M_62 rfl rfl rfl ?_
          refine ws_iload_n C d_M_settleAll_81 rfl ?_
          refine ws_aload_n C d_M_settleAll_82 rfl ?_
          refine wm_arr C hR 10 d_M_settleAll_83 f_M_35 rfl rfl rfl ?_
          refine ws_sipush C (nI 128) d_M_settleAll_86 (by decide) ?_
          refine ws_iload_n C d_M_settleAll_89 rfl ?_
          refine ws_imulN C d_M_settleAll_90 ?_
          refine ws_iload_n C d_M_settleAll_91 rfl ?_
          refine ws_iaddN C d_M_settleAll_92 ?_
          refine wm_aldV C hR 10 d_M_settleAll_93 rfl rfl (by decide) (show _ < 768 by first | omega | exact okl hO1 _ _) ?_
          refine wm_astV C hR 19 d_M_settleAll_94 rfl rfl (by decide) (show _ < 3 by first | omega | exact okl hO1 _ _) (fun S hR => ?_)
          refine ws_iinc C _ d_M_settleAll_95 rfl (inc1 _) (by rw [hn]; decide) ?_
          refine ws_goto C d_M_settleAll_98 ?_
          have hR : MR o ad (fin1 G1 v i) S := by unfold fin1; rw [if_pos ⟨h39, h60⟩]; exact hR
          exact ih (i + 1) _ (by omega) (by omega) (by omega) (ok_fin1 hO1 (by omega)) (by rw [fin1_ne _ _ _ (by decide) (by decide)]; exact e4) hp S _ hR
set_option maxHeartbeats 4000000 in
set_option maxRecDepth 100000 in
theorem c_M_take {V : Ev} {o : Nat} {ad : Nat → Nat} {G : GS} {S : Sto} (hR : MR o ad G S) (hO : OK G) {v k c r : Nat} {x : Int32} (hv : v ≤ 5) (hl : G.1 4 v + 1 ≤ 100) (hk : k ≤ 3) (hc : c ≤ 2) (hr : r ≤ 600) : CT V mi_M_take 0 0 [.ref o, .int (nI v), .int (nI k), .int x, .int (nI c), .int (nI r)] S (Pv (MR o ad (tak G v k x c r))) := by
  refine CT.of (cc := prog_8_method_16_code) (own := "ChainVersionsModel") (nL := 7) (d := 2) (by decide) rfl rfl rfl rfl (by simp [Value.category]) (Nat.le_of_ble_eq_true rfl) rfl ?_
  intro F hV hn C R
  subst hV
  have hb4 : G.1 4 v ≤ 100 := hO 4 v
  have hb20 : G.1 20 0 ≤ 1399 := hO 20 0
  refine ws_aload_n C d_M_take_0 rfl ?_
  refine wm_arr C hR 4 d_M_take_1 f_M_20 rfl rfl rfl ?_
  refine ws_iload_n C d_M_take_4 rfl ?_
  refine ws_dup2 C d_M_take_5 rfl rfl ?_
  refine wm_aldN C hR 4 d_M_take_6 rfl rfl (by decide) (show _ < 6 by first | omega | exact okl hO _ _) ?_
  refine ws_iconst C (nI 1) d_M_take_7 (by decide) ?_
  refine ws_iaddN C d_M_take_8 ?_
  refine wm_astN C hR 4 d_M_take_9 rfl rfl (by decide) (show _ < 6 by first | omega | exact okl hO _ _) (fun S hR => ?_)
  refine ws_sipush C (nI 128) d_M_take_10 (by decide) ?_
  refine ws_iload_n C d_M_take_13 rfl ?_
  refine ws_imulN C d_M_take_14 ?_
  refine ws_aload_n C d_M_take_15 rfl ?_
  refine wm_arr C hR 4 d_M_take_16 f_M_20 rfl rfl rfl ?_
  refine ws_iload_n C d_M_take_19 rfl ?_
  refine wm_aldN C hR 4 d_M_take_20 rfl rfl (by decide) (show _ < 6 by first | omega | exact okl hO _ _) ?_
  refine ws_top (nI (G.1 4 v + 1)) (by simp [gN_1, gN_2, gV_1, gV_2]) ?_
  refine ws_iaddN C d_M_take_21 ?_
  refine ws_istore C d_M_take_22 (by rw [hn]; decide) ?_
  refine ws_aload_n C d_M_take_24 rfl ?_
  refine wm_arr C hR 9 d_M_take_25 f_M_32 rfl rfl rfl ?_
  refine ws_iload C d_M_take_28 rfl ?_
  refine ws_iload_n C d_M_take_30 rfl ?_
  refine wm_astN C hR 9 d_M_take_31 rfl rfl (by decide) (show _ < 768 by first | omega | exact okl hO _ _) (fun S hR => ?_)
  refine ws_aload_n C d_M_take_32 rfl ?_
  refine wm_arr C hR 10 d_M_take_33 f_M_35 rfl rfl rfl ?_
  refine ws_iload C d_M_take_36 rfl ?_
  refine ws_iload_n C d_M_take_38 rfl ?_
  refine wm_astV C hR 10 d_M_take_39 rfl rfl (by decide) (show _ < 768 by first | omega | exact okl hO _ _) (fun S hR => ?_)
  refine ws_aload_n C d_M_take_40 rfl ?_
  refine wm_arr C hR 11 d_M_take_41 f_M_38 rfl rfl rfl ?_
  refine ws_iload C d_M_take_44 rfl ?_
  refine ws_iload C d_M_take_46 rfl ?_
  refine wm_astN C hR 11 d_M_take_48 rfl rfl (by decide) (show _ < 768 by first | omega | exact okl hO _ _) (fun S hR => ?_)
  refine ws_aload_n C d_M_take_49 rfl ?_
  refine wm_arr C hR 12 d_M_take_50 f_M_41 rfl rfl rfl ?_
  refine ws_iload C d_M_take_53 rfl ?_
  refine ws_iload C d_M_take_55 rfl ?_
  refine wm_astN C hR 12 d_M_take_57 rfl rfl (by decide) (show _ < 768 by first | omega | exact okl hO _ _) (fun S hR => ?_)
  suffices hL : ∀ (G1 : GS) (S : Sto) (z : Int32), OK G1 → tol G1 v = tak G v k x c r → MR o ad G1 S → WS F 58 [some (.ref o), some (.int (nI v)), some (.int (nI k)), some (.int x), some (.int (nI c)), some (.int (nI r)), some (.int z)] [] S 0 0 from hL _ S _ (ok_hol hO (by omega) hk hc hr) rfl hR
  clear hR hb4 hl hb20 hO
  intro G S z hO hp hR
  have hb4 : G.1 4 v ≤ 100 := hO 4 v
  have hb20 : G.1 20 0 ≤ 1399 := hO 20 0
  refine ws_aload_n C d_M_take_58 rfl ?_
  refine ws_iload_n C d_M_take_59 rfl ?_
  refine ws_callVi C w_M_104 (As := [_]) (c_M_successor hR hO (by omega)) d_M_take_60 rfl rfl hR.1 (Nat.le_of_ble_eq_true rfl) (by decide) (by decide) (by decide) (fun S hR => ?_)
  refine ws_if_geO C d_M_take_63 (fun n hn => by have := suc_le hn; omega) (fun h63 => ?_) (fun h63 => ?_)
  · refine ws_aload_n C d_M_take_92 rfl ?_
    refine ws_iload_n C d_M_take_93 rfl ?_
    refine ws_aload_n C d_M_take_94 rfl ?_
    refine ws_iload_n C d_M_take_95 rfl ?_
    refine ws_callVi C w_M_104 (As := [_]) (c_M_successor hR hO (by omega)) d_M_take_96 rfl rfl hR.1 (Nat.le_of_ble_eq_true rfl) (by decide) (by decide) (by decide) (fun S hR => ?_)
    refine ws_iconst C (nI 1) d_M_take_99 (by decide) ?_
    refine ws_aload_n C d_M_take_100 rfl ?_
    refine wm_arr C hR 4 d_M_take_101 f_M_20 rfl rfl rfl ?_
    refine ws_iload_n C d_M_take_104 rfl ?_
    refine wm_aldN C hR 4 d_M_take_105 rfl rfl (by decide) (show _ < 6 by first | omega | exact okl hO _ _) ?_
    refine ws_iconst C (nI 0) d_M_take_106 (by decide) ?_
    refine ws_callVv C w_M_114 (As := [_, _, _, _, _]) (c_M_send hR hO (w := suc G v) (by omega) (fun x hx => suc_le hx)) d_M_take_107 rfl rfl hR.1 (Nat.le_of_ble_eq_true rfl) (by decide) (by decide) (by decide) (fun S hR => ?_)
    exact ws_vret C R d_M_take_110 rfl (by decide) (by decide) ⟨rfl, by rw [← hp, tol, if_neg h63]; exact hR⟩
  · refine ws_aload_n C d_M_take_66 rfl ?_
    refine ws_iload_n C d_M_take_67 rfl ?_
    refine ws_callVv C w_M_108 (As := [_]) (c_M_settleAll hR hO (by omega)) d_M_take_68 rfl rfl hR.1 (Nat.le_of_ble_eq_true rfl) (by decide) (by decide) (by decide) (fun S hR => ?_)
    refine ws_aload_n C d_M_take_71 rfl ?_
    refine ws_iload_n C d_M_take_72 rfl ?_
    refine ws_aload_n C d_M_take_73 rfl ?_
    refine ws_iload_n C d_M_take_74 rfl ?_
    refine ws_callVi C w_M_111 (As := [_]) ((prd_c (stl_ne G v (by decide) (by decide) (by decide)) (stl_ne G v (by decide) (by decide) (by decide)) v) ▸ c_M_predecessor hR (ok_stl hO) (by omega)) d_M_take_75 rfl rfl hR.1 (Nat.le_of_ble_eq_true rfl) (by decide) (by decide) (by decide) (fun S hR => ?_)
    refine ws_iconst C (nI 2) d_M_take_78 (by decide) ?_
    refine ws_aload_n C d_M_take_79 rfl ?_
    refine wm_arr C hR 5 d_M_take_80 f_M_23 rfl rfl rfl ?_
    refine ws_iload_n C d_M_take_83 rfl ?_
    refine wm_aldN C hR 5 d_M_take_84 rfl rfl (by decide) (show _ < 6 by first | omega | exact okl hO _ _) ?_
    refine ws_top (nI (G.1 4 v)) (by rw [stl_5]) ?_
    refine ws_iconst C (nI 0) d_M_take_85 (by decide) ?_
    refine ws_callVv C w_M_114 (As := [_, _, _, _, _]) (c_M_send (G := stl G v) hR (ok_stl hO) (w := prd G v) (by omega) (fun x hx => prd_le hv hx)) d_M_take_86 rfl rfl hR.1 (Nat.le_of_ble_eq_true rfl) (by decide) (by decide) (by decide) (fun S hR => ?_)
    refine ws_goto C d_M_take_89 ?_
    exact ws_vret C R d_M_take_110 rfl (by decide) (by decide) ⟨rfl, by rw [← hp, tol, if_pos h63]; exact hR⟩
set_option maxHeartbeats 4000000 in
set_option maxRecDepth 100000 in
theorem c_M_takeFrom {V : Ev} {o : Nat} {ad : Nat → Nat} {G : GS} {S : Sto} (hR : MR o ad G S) (hO : OK G) {v u i : Nat} (hv : v ≤ 5) (hu : u ≤ 5) (hi : i ≤ 127) (hl : G.1 4 v + 1 ≤ 100) : CT V mi_M_takeFrom 0 0 [.ref o, .int (nI v), .int (nI u), .int (nI i)] S (Pv (MR o ad (takF G v u i))) := by
  refine CT.of (cc := prog_8_method_17_code) (own := "ChainVersionsModel") (nL := 5) (d := 3) (by decide) rfl rfl rfl rfl (by simp [Value.category]) (Nat.le_of_ble_eq_true rfl) rfl ?_
  intro F hV hn C R
  subst hV
  refine ws_sipush C (nI 128) d_M_takeFrom_0 (by decide) ?_
  refine ws_iload_n C d_M_takeFrom_3 rfl ?_
  refine ws_imulN C d_M_takeFrom_4 ?_
  refine ws_iload_n C d_M_takeFrom_5 rfl ?_
  refine ws_iaddN C d_M_takeFrom_6 ?_
  refine ws_istore C d_M_takeFrom_7 (by rw [hn]; decide) ?_
  refine ws_aload_n C d_M_takeFrom_9 rfl ?_
  refine ws_iload_n C d_M_takeFrom_10 rfl ?_
  refine ws_aload_n C d_M_takeFrom_11 rfl ?_
  refine wm_arr C hR 9 d_M_takeFrom_12 f_M_32 rfl rfl rfl ?_
  refine ws_iload C d_M_takeFrom_15 rfl ?_
  refine wm_aldN C hR 9 d_M_takeFrom_17 rfl rfl (by decide) (show _ < 768 by first | omega | exact okl hO _ _) ?_
  refine ws_aload_n C d_M_takeFrom_18 rfl ?_
  refine wm_arr C hR 10 d_M_takeFrom_19 f_M_35 rfl rfl rfl ?_
  refine ws_iload C d_M_takeFrom_22 rfl ?_
  refine wm_aldV C hR 10 d_M_takeFrom_24 rfl rfl (by decide) (show _ < 768 by first | omega | exact okl hO _ _) ?_
  refine ws_aload_n C d_M_takeFrom_25 rfl ?_
  refine wm_arr C hR 11 d_M_takeFrom_26 f_M_38 rfl rfl rfl ?_
  refine ws_iload C d_M_takeFrom_29 rfl ?_
  refine wm_aldN C hR 11 d_M_takeFrom_31 rfl rfl (by decide) (show _ < 768 by first | omega | exact okl hO _ _) ?_
  refine ws_aload_n C d_M_takeFrom_32 rfl ?_
  refine wm_arr C hR 12 d_M_takeFrom_33 f_M_41 rfl rfl rfl ?_
  refine ws_iload C d_M_takeFrom_36 rfl ?_
  refine wm_aldN C hR 12 d_M_takeFrom_38 rfl rfl (by decide) (show _ < 768 by first | omega | exact okl hO _ _) ?_
  refine ws_callVv C w_M_118 (As := [_, _, _, _, _]) (c_M_take hR hO hv hl (hO 9 _) (hO 11 _) (hO 12 _)) d_M_takeFrom_39 rfl rfl hR.1 (Nat.le_of_ble_eq_true rfl) (by decide) (by decide) (by decide) (fun S hR => ?_)
  exact ws_vret C R d_M_takeFrom_42 rfl (by decide) (by decide) ⟨rfl, hR⟩
set_option maxHeartbeats 4000000 in
set_option maxRecDepth 100000 in
theorem c_M_done {V : Ev} {o : Nat} {ad : Nat → Nat} {G : GS} {S : Sto} (hR : MR o ad G S) (hO : OK G) {c v i : Nat} (hc : c ≤ 2) (hv : v ≤ 5) (hi : i ≤ 100) : CT V mi_M_done 0 0 [.ref o, .int (nI c), .int (nI v), .int (nI i)] S (Pv (MR o ad (don G c v i))) := by
  refine CT.of (cc := prog_8_method_18_code) (own := "ChainVersionsModel") (nL := 4) (d := 1) (by decide) rfl rfl rfl rfl (by simp [Value.category]) (Nat.le_of_ble_eq_true rfl) rfl ?_
  intro F hV hn C R
  subst hV
  refine ws_aload_n C d_M_done_0 rfl ?_
  refine wm_arr C hR 13 d_M_done_1 f_M_44 rfl rfl rfl ?_
  refine ws_iload_n C d_M_done_4 rfl ?_
  refine ws_iconst C (nI 4) d_M_done_5 (by decide) ?_
  refine wm_astN C hR 13 d_M_done_6 rfl rfl (by decide) (show _ < 3 by first | omega | exact okl hO _ _) (fun S hR => ?_)
  refine ws_aload_n C d_M_done_7 rfl ?_
  refine wm_arr C hR 18 d_M_done_8 f_M_59 rfl rfl rfl ?_
  refine ws_iload_n C d_M_done_11 rfl ?_
  refine ws_iload_n C d_M_done_12 rfl ?_
  refine wm_astN C hR 18 d_M_done_13 rfl rfl (by decide) (show _ < 3 by first | omega | exact okl hO _ _) (fun S hR => ?_)
  refine ws_aload_n C d_M_done_14 rfl ?_
  refine wm_arr C hR 19 d_M_done_15 f_M_62 rfl rfl rfl ?_
  refine ws_iload_n C d_M_done_18 rfl ?_
  refine ws_aload_n C d_M_done_19 rfl ?_
  refine ws_iload_n C d_M_done_20 rfl ?_
  refine ws_iload_n C d_M_done_21 rfl ?_
  refine ws_callVi C w_M_121 (As := [_, _]) (c_M_valueAt (v := v) (i := i) hR (ok_gN (ok_gN hO (by decide)) hi) hv hi) d_M_done_22 rfl rfl hR.1 (Nat.le_of_ble_eq_true rfl) (by decide) (by decide) (by decide) (fun S hR => ?_)
  refine ws_top (valAt G v i) (by rfl) ?_
  refine wm_astV C hR 19 d_M_done_25 rfl rfl (by decide) (show _ < 3 by first | omega | exact okl hO _ _) (fun S hR => ?_)
  exact ws_vret C R d_M_done_26 rfl (by decide) (by decide) ⟨rfl, hR⟩
