/-! the class: writes, links -/
theorem nI_m1 {i : Nat} (h : i < 2 ^ 31) : ¬ nI i = -1 := fun z => by
  have e := congrArg Int32.toInt z
  rw [nI_t h, show (-1 : Int32).toInt = -1 from by decide] at e
  omega
set_option maxHeartbeats 4000000 in
set_option maxRecDepth 100000 in
theorem c_X_sendWrite {V : Ev} {h : Nat → Nat → Nat} {t : Nat → Nat} {G : GS} {S : Sto} (hR : XE (vZ V) h t G S) (hO : OK G) (hW : WF G) {c : Nat} (hc : c < 3) (hH : isIn G (G.1 8 0) (hdo G) = true) : CT V mi_X_sendWrite 3 2213 [.ref (h 6 0), .int (nI c), .ref (h 2 c)] S (Pi (nI (swr G c).1) (XE (vZ V) h t (swr G c).2)) := by
  refine CT.of (cc := prog_1_method_29_code) (own := "ChainVersions") (nL := 5) (d := 10) (by decide) rfl rfl rfl rfl (by simp [Value.category]) (Nat.le_of_ble_eq_true rfl) rfl ?_
  intro F hV hn C R
  subst hV
  have hd0 := hW.2.2.2.2.1 _ _ (Nat.le_refl _) hH
  have hd5 : hdo G ≤ 5 := by have := hW.m6 hd0; omega
  refine ws_aload_n C d_X_sendWrite_0 rfl ?_
  refine ws_aload_n C d_X_sendWrite_1 rfl ?_
  refine wx_getP C hR 195 0 (h 3 (G.1 8 0)) d_X_sendWrite_2 f_X_42 rfl rfl (dpX (by decide)) rfl ?_
  refine ws_callVi C w_X_203 (As := []) (c_Cf_head hR hO hW.nw (P := fun S' => S = S') rfl) d_X_sendWrite_5 rfl rfl (XE.k hR (dkF hW.nw)) (Nat.le_of_ble_eq_true rfl) (by decide) (by decide) (by decide) (fun S' hS' => ?_)
  subst hS'
  rw [hd_suc hO hH]
  refine ws_callVr C w_X_95 (As := [_]) (c_X_livingNode hR hO hW (nI (hdo G)) (P := fun S' => S = S') rfl) d_X_sendWrite_8 rfl rfl (XE.k hR (dk6)) (Nat.le_of_ble_eq_true rfl) (by decide) (by decide) (by decide) (fun S' hS' => ?_)
  subst hS'
  rcases lvA_cs (h := h) hW (nI (hdo G)) with ⟨he, hx⟩ | ⟨v2, hov, hv5, hv2, h1, he⟩
  · rw [he]
    have hz : G.1 1 (hdo G) = 0 := by
      rw [inN_n hd5, ix_n (by omega)] at hx
      have := hO 1 (hdo G)
      simp at hx
      have hb : G.1 1 (hdo G) ≤ 1 := hO 1 (hdo G)
      omega
    have hs : swr G c = (0, G) := by rw [swr, if_pos (Or.inl hz)]
    refine ws_astore_nN C d_X_sendWrite_11 (by rw [hn]; decide) ?_
    refine ws_aload_nN C d_X_sendWrite_12 rfl ?_
    refine ws_ifnullN C d_X_sendWrite_13 ?_
    refine ws_iconst C (nI 0) d_X_sendWrite_23 (by decide) ?_
    exact ws_iret C R d_X_sendWrite_24 rfl (by decide) (by decide) ⟨by rw [hs], by rw [hs]; exact hR⟩
  · rw [he]
    have hve : v2 = hdo G := ((nI_eq (by omega) (by omega)).mp hov).symm
    subst hve
    have hb4 : G.1 4 (hdo G) ≤ 100 := hO 4 _
    have hb5 : G.1 5 (hdo G) ≤ 100 := hO 5 _
    obtain ⟨r, hX⟩ := id hR
    refine ws_astore_n C d_X_sendWrite_11 (by rw [hn]; decide) ?_
    refine ws_aload_n C d_X_sendWrite_12 rfl ?_
    refine ws_ifnull C d_X_sendWrite_13 ?_
    refine ws_aload_n C d_X_sendWrite_16 rfl ?_
    refine ws_callVi C w_X_206 (As := []) (c_Nd_isHead hR hO hW hv2 (P := fun S' => S = S') rfl) d_X_sendWrite_17 rfl rfl (XE.k hR (dkN hv2)) (Nat.le_of_ble_eq_true rfl) (by decide) (by decide) (by decide) (fun S' hS' => ?_)
    subst hS'
    refine ws_if_neB C d_X_sendWrite_20 (fun h20 => ?_) (fun h20 => ?_)
    · have hA : ¬ (G.1 1 (hdo G) = 0 ∨ prd G (hdo G) ≠ none) := by
        have := of_decide_eq_true h20
        simp [h1, this]
      refine ws_aload_n C d_X_sendWrite_25 rfl ?_
      refine ws_iload_n C d_X_sendWrite_26 rfl ?_
      refine ws_aload_n C d_X_sendWrite_27 rfl ?_
      refine wx_getI C hR 65 c (nI (G.1 14 c)) d_X_sendWrite_28 f_X_209 rfl rfl (dmC (by decide) hc) rfl ?_
      refine ws_callVi C w_X_212 (As := [_, _]) (c_Nd_numberOf hX hO hv2 hc (P := fun S' => S = S') rfl) d_X_sendWrite_31 rfl rfl (XE.k hR (dkN hv2)) (Nat.le_of_ble_eq_true rfl) (by decide) (by decide) (by decide) (fun S' hS' => ?_)
      subst hS'
      cases hf : fwF G (hdo G) c (G.1 4 (hdo G)) 1 with
      | none =>
        refine ws_top (-1) rfl ?_
        refine ws_istore C d_X_sendWrite_34 (by rw [hn]; decide) ?_
        refine ws_iload C d_X_sendWrite_36 rfl ?_
        refine ws_iconst C (-1) d_X_sendWrite_38 (by decide) ?_
        refine ws_icmp_eq C d_X_sendWrite_39 (fun h39 => ?_) (fun h39 => ?_)
        · refine ws_aload_n C d_X_sendWrite_57 rfl ?_
          refine ws_callVi C w_X_215 (As := []) (c_Nd_isFull hR hO hW hv2 (P := fun S' => S = S') rfl) d_X_sendWrite_58 rfl rfl (XE.k hR (dkN hv2)) (Nat.le_of_ble_eq_true rfl) (by decide) (by decide) (by decide) (fun S' hS' => ?_)
          subst hS'
          refine ws_if_eqB C d_X_sendWrite_61 (fun h61 => ?_) (fun h61 => ?_)
          · have hF := of_decide_eq_false h61
            have hs : swr G c = (2, tak G (hdo G) (G.1 15 c) (G.2 16 c) c (G.1 14 c)) := by rw [swr, if_neg hA, hf]; exact if_neg hF
            refine ws_aload_n C d_X_sendWrite_66 rfl ?_
            refine ws_aload_n C d_X_sendWrite_67 rfl ?_
            refine ws_new (kd := 5) (n := 4) C d_X_sendWrite_68 (by decide) (by decide) rfl (tb_at 273 (by decide +kernel) (by decide +kernel)) (tb_at 274 (by decide +kernel) (by decide +kernel)) (tb_at 60 (by decide +kernel) (by decide +kernel)) (by decide) (by decide) (fun q hq => ?_)
            have hN : ∀ v i, v < G.1 0 0 → 1 ≤ i → i ≤ G.1 4 v → r.2.2 v i ≠ q := fun v i a1 a2 a3 z => by
              have := (hX.2.2.2.2.1 v i a1 a2 a3).2.1
              rw [z, hq] at this
              omega
            replace hX := hX.nwO (kd := 5) hq (by decide)
            have hK : sK (newO S q 5) q = 5 := by show va_up (sK S) q 5 q = 5; rw [va_up, if_pos rfl]
            generalize newO S q 5 = S at *
            have hR : XE (vZ F.1) h t G S := ⟨r, hX⟩
            refine ws_dup C d_X_sendWrite_71 rfl ?_
            refine ws_aload_n C d_X_sendWrite_72 rfl ?_
            refine wx_getI C hR 66 c (nI (G.1 15 c)) d_X_sendWrite_73 f_X_220 rfl rfl (dmC (by decide) hc) rfl ?_
            refine ws_aload_n C d_X_sendWrite_76 rfl ?_
            refine wx_getI C hR 67 c (G.2 16 c) d_X_sendWrite_77 f_X_223 rfl rfl (dmC (by decide) hc) rfl ?_
            refine ws_iload_n C d_X_sendWrite_80 rfl ?_
            refine ws_aload_n C d_X_sendWrite_81 rfl ?_
            refine wx_getI C hR 65 c (nI (G.1 14 c)) d_X_sendWrite_82 f_X_209 rfl rfl (dmC (by decide) hc) rfl ?_
            refine ws_callIv C w_X_226 (As := [_, _, _, _]) (c_Up_init hX hO hN hK) d_X_sendWrite_85 rfl rfl (Nat.le_of_ble_eq_true rfl) (by decide) (by decide) (by decide) (fun S hS => ?_)
            obtain ⟨hX, hU⟩ := hS
            have hR : XE (vZ F.1) h t G S := ⟨r, hX⟩
            refine ws_callVv C w_X_229 (As := [_, _]) (c_X_take hR hO hW hv2 hU (by omega) (hO 15 c) (by omega) (hO 14 c)) d_X_sendWrite_88 rfl rfl (XE.k hR (dk6)) (Nat.le_of_ble_eq_true rfl) (by decide) (by decide) (by decide) (fun S hR => ?_)
            refine ws_iconst C (nI 2) d_X_sendWrite_91 (by decide) ?_
            exact ws_iret C R d_X_sendWrite_92 rfl (by decide) (by decide) ⟨by rw [hs], by rw [hs]; exact hR⟩
          · have hs : swr G c = (1, G) := by rw [swr, if_neg hA, hf]; exact if_pos (of_decide_eq_true h61)
            refine ws_iconst C (nI 1) d_X_sendWrite_64 (by decide) ?_
            exact ws_iret C R d_X_sendWrite_65 rfl (by decide) (by decide) ⟨by rw [hs], by rw [hs]; exact hR⟩
        · exact absurd rfl h39
      | some i =>
        obtain ⟨i1, i2⟩ := fwF_le hf
        refine ws_top (nI i) rfl ?_
        have hs : swr G c = (if i ≤ G.1 5 (hdo G) then 4 else 3, G) := by rw [swr, if_neg hA, hf]
        refine ws_istore C d_X_sendWrite_34 (by rw [hn]; decide) ?_
        refine ws_iload C d_X_sendWrite_36 rfl ?_
        refine ws_iconst C (-1) d_X_sendWrite_38 (by decide) ?_
        refine ws_icmp_eq C d_X_sendWrite_39 (fun h39 => ?_) (fun h39 => ?_)
        · exact absurd h39 (nI_m1 (by omega))
        · refine ws_iload C d_X_sendWrite_42 rfl ?_
          refine ws_aload_n C d_X_sendWrite_44 rfl ?_
          refine wx_getI C hR 135 (hdo G) (nI (G.1 5 (hdo G))) d_X_sendWrite_45 f_X_191 rfl rfl (dmN (by decide) hv2) rfl ?_
          refine ws_icmp_gtN C d_X_sendWrite_48 (by first | omega | exact okl hO _ _) (by first | omega | exact okl hO _ _) (fun h48 => ?_) (fun h48 => ?_)
          · refine ws_iconst C (nI 3) d_X_sendWrite_55 (by decide) ?_
            exact ws_iret C R d_X_sendWrite_56 rfl (by decide) (by decide) ⟨by rw [hs, if_neg (by omega)], by rw [hs]; exact hR⟩
          · refine ws_iconst C (nI 4) d_X_sendWrite_51 (by decide) ?_
            refine ws_goto C d_X_sendWrite_52 ?_
            exact ws_iret C R d_X_sendWrite_56 rfl (by decide) (by decide) ⟨by rw [hs, if_pos (by omega)], by rw [hs]; exact hR⟩
    · have hs : swr G c = (0, G) := by rw [swr, if_pos (Or.inr (of_decide_eq_false h20))]
      refine ws_iconst C (nI 0) d_X_sendWrite_23 (by decide) ?_
      exact ws_iret C R d_X_sendWrite_24 rfl (by decide) (by decide) ⟨by rw [hs], by rw [hs]; exact hR⟩
set_option maxHeartbeats 4000000 in
set_option maxRecDepth 100000 in
theorem c_Mg_isOnLink {V : Ev} {S : Sto} {q k a b e x y v w : Nat} {u : Nat → Nat → Nat} (hM : MsgF S q u k a b e x y) (ha : a ≤ 5) (hb : b ≤ 5) (hv : v ≤ 5) (hw : w ≤ 5) {P : Sto → Prop} (hP : P S) : CT V mi_Mg_isOnLink 0 0 [.ref q, .int (nI v), .int (nI w)] S (Pi (bI (decide (a = v ∧ b = w))) P) := by
  refine CT.of (cc := prog_4_method_2_code) (own := "ChainVersions$Message") (nL := 3) (d := 0) (by decide) rfl rfl rfl rfl (by simp [Value.category]) (Nat.le_of_ble_eq_true rfl) rfl ?_
  intro F hV hn C R
  subst hV
  refine ws_aload_n C d_Mg_isOnLink_0 rfl ?_
  refine wx_msI C d_Mg_isOnLink_1 f_Mg_18 rfl rfl hM.1 hM.2.2.1 ?_
  refine ws_iload_n C d_Mg_isOnLink_4 rfl ?_
  refine ws_icmp_neN C d_Mg_isOnLink_5 (by omega) (by omega) (fun h5 => ?_) (fun h5 => ?_)
  · refine ws_iconst C (nI 0) d_Mg_isOnLink_20 (by decide) ?_
    exact ws_zret C R d_Mg_isOnLink_21 rfl (by decide) (by decide) (by decide) ⟨by rw [show decide (a = v ∧ b = w) = false from by simp; omega]; rfl, hP⟩
  · refine ws_aload_n C d_Mg_isOnLink_8 rfl ?_
    refine wx_msI C d_Mg_isOnLink_9 f_Mg_21 rfl rfl hM.1 hM.2.2.2.1 ?_
    refine ws_iload_n C d_Mg_isOnLink_12 rfl ?_
    refine ws_icmp_neN C d_Mg_isOnLink_13 (by omega) (by omega) (fun h13 => ?_) (fun h13 => ?_)
    · refine ws_iconst C (nI 0) d_Mg_isOnLink_20 (by decide) ?_
      exact ws_zret C R d_Mg_isOnLink_21 rfl (by decide) (by decide) (by decide) ⟨by rw [show decide (a = v ∧ b = w) = false from by simp; omega]; rfl, hP⟩
    · refine ws_iconst C (nI 1) d_Mg_isOnLink_16 (by decide) ?_
      refine ws_goto C d_Mg_isOnLink_17 ?_
      exact ws_zret C R d_Mg_isOnLink_21 rfl (by decide) (by decide) (by decide) ⟨by rw [show decide (a = v ∧ b = w) = true from by simp; omega]; rfl, hP⟩
set_option maxHeartbeats 4000000 in
set_option maxRecDepth 100000 in
theorem c_X_firstOnLink {V : Ev} {h : Nat → Nat → Nat} {t : Nat → Nat} {G : GS} {S : Sto} {r : Rg} (hR : XR (vZ V) h t r G S) (hO : OK G) {v w : Nat} (hv5 : v ≤ 5) (hw5 : w ≤ 5) {P : Sto → Prop} (hP : P S) : CT V mi_X_firstOnLink 0 0 [.ref (h 6 0), .int (nI v), .int (nI w)] S (Pi (oI (frs G v w)) P) := by
  refine CT.of (cc := prog_1_method_45_code) (own := "ChainVersions") (nL := 4) (d := 3) (by decide) rfl rfl rfl rfl (by simp [Value.category]) (Nat.le_of_ble_eq_true rfl) rfl ?_
  intro F hV hn C R
  subst hV
  have hb20 : G.1 20 0 ≤ 1399 := hO 20 0
  refine ws_iconst C (nI 0) d_X_firstOnLink_0 (by decide) ?_
  refine ws_istore_n C d_X_firstOnLink_1 (by rw [hn]; decide) ?_
  suffices hL : ∀ n i, i + n = G.1 20 0 → frF G v w n = frs G v w → WS F 2 [some (.ref (h 6 0)), some (.int (nI v)), some (.int (nI w)), some (.int (nI i))] [] S 0 0 from hL (G.1 20 0) 0 (by omega) rfl
  intro n
  induction n with
  | zero =>
    intro i hi hp
    refine ws_iload_n C d_X_firstOnLink_2 rfl ?_
    refine ws_aload_n C d_X_firstOnLink_3 rfl ?_
    refine wx_getP C ⟨r, hR⟩ 194 0 (h 1 0) d_X_firstOnLink_4 f_X_24 rfl rfl (dpX (by decide)) rfl ?_
    refine ws_callVi C w_X_137 (As := []) (c_AL_size ⟨r, hR⟩ hO (P := fun S' => S = S') rfl) d_X_firstOnLink_7 rfl rfl (XE.k ⟨r, hR⟩ (dk1)) (Nat.le_of_ble_eq_true rfl) (by decide) (by decide) (by decide) (fun S' hS' => ?_)
    subst hS'
    refine ws_icmp_geN C d_X_firstOnLink_10 (by first | omega | exact okl hO _ _) (by first | omega | exact okl hO _ _) (fun h10 => ?_) (fun h10 => ?_)
    · refine ws_iconst C (-1) d_X_firstOnLink_40 (by decide) ?_
      exact ws_iret C R d_X_firstOnLink_41 rfl (by decide) (by decide) ⟨by rw [← hp]; rfl, hP⟩
    · omega
  | succ n ih =>
    intro i hi hp
    have hil : i < G.1 20 0 := by omega
    have hMi := (hR.2.2.2.2.2.1.2.2 i hil).2
    have hb1 : G.1 21 i ≤ 5 := hO 21 i
    have hb2 : G.1 22 i ≤ 5 := hO 22 i
    rw [frF, show G.1 20 0 - (n + 1) = i from by omega] at hp
    refine ws_iload_n C d_X_firstOnLink_2 rfl ?_
    refine ws_aload_n C d_X_firstOnLink_3 rfl ?_
    refine wx_getP C ⟨r, hR⟩ 194 0 (h 1 0) d_X_firstOnLink_4 f_X_24 rfl rfl (dpX (by decide)) rfl ?_
    refine ws_callVi C w_X_137 (As := []) (c_AL_size ⟨r, hR⟩ hO (P := fun S' => S = S') rfl) d_X_firstOnLink_7 rfl rfl (XE.k ⟨r, hR⟩ (dk1)) (Nat.le_of_ble_eq_true rfl) (by decide) (by decide) (by decide) (fun S' hS' => ?_)
    subst hS'
    refine ws_icmp_geN C d_X_firstOnLink_10 (by first | omega | exact okl hO _ _) (by first | omega | exact okl hO _ _) (fun h10 => ?_) (fun h10 => ?_)
    · omega
    · refine ws_aload_n C d_X_firstOnLink_13 rfl ?_
      refine wx_getP C ⟨r, hR⟩ 194 0 (h 1 0) d_X_firstOnLink_14 f_X_24 rfl rfl (dpX (by decide)) rfl ?_
      refine ws_iload_n C d_X_firstOnLink_17 rfl ?_
      refine ws_callVr C w_X_110 (As := [_]) (c_AL_get hR hO hil (P := fun S' => S = S') rfl) d_X_firstOnLink_18 rfl rfl (XE.k ⟨r, hR⟩ (dk1)) (Nat.le_of_ble_eq_true rfl) (by decide) (by decide) (by decide) (fun S' hS' => ?_)
      subst hS'
      refine ws_castM C (tb_at 332 (by decide +kernel) (by decide +kernel)) d_X_firstOnLink_21 hMi.1 ?_
      refine ws_iload_n C d_X_firstOnLink_24 rfl ?_
      refine ws_iload_n C d_X_firstOnLink_25 rfl ?_
      refine ws_callVi C w_X_141 (As := [_, _]) (c_Mg_isOnLink hMi hb1 hb2 hv5 hw5 (P := fun S' => S = S') rfl) d_X_firstOnLink_26 rfl rfl hMi.1 (Nat.le_of_ble_eq_true rfl) (by decide) (by decide) (by decide) (fun S' hS' => ?_)
      subst hS'
      refine ws_if_eqB C d_X_firstOnLink_29 (fun h29 => ?_) (fun h29 => ?_)
      · rw [if_neg (of_decide_eq_false h29)] at hp
        refine ws_iinc C _ d_X_firstOnLink_34 rfl (inc1 _) (by rw [hn]; decide) ?_
        refine ws_goto C d_X_firstOnLink_37 ?_
        exact ih (i + 1) (by omega) hp
      · refine ws_iload_n C d_X_firstOnLink_32 rfl ?_
        exact ws_iret C R d_X_firstOnLink_33 rfl (by decide) (by decide) ⟨by rw [← hp, if_pos (of_decide_eq_true h29)]; rfl, hP⟩
set_option maxHeartbeats 4000000 in
set_option maxRecDepth 100000 in
theorem c_X_loseMessagesTo {V : Ev} {h : Nat → Nat → Nat} {t : Nat → Nat} {G : GS} {S : Sto} (hR : XE (vZ V) h t G S) (hO : OK G) {w e : Nat} (hw5 : w ≤ 5) (he : e < 2 ^ 31) : CT V mi_X_loseMessagesTo 0 0 [.ref (h 6 0), .int (nI w), .int (nI e)] S (Pv (XE (vZ V) h t (los G w e))) := by
  refine CT.of (cc := prog_1_method_46_code) (own := "ChainVersions") (nL := 5) (d := 3) (by decide) rfl rfl rfl rfl (by simp [Value.category]) (Nat.le_of_ble_eq_true rfl) rfl ?_
  intro F hV hn C R
  subst hV
  refine ws_aload_n C d_X_loseMessagesTo_0 rfl ?_
  refine wx_getP C hR 194 0 (h 1 0) d_X_loseMessagesTo_1 f_X_24 rfl rfl (dpX (by decide)) rfl ?_
  refine ws_callVi C w_X_137 (As := []) (c_AL_size hR hO (P := fun S' => S = S') rfl) d_X_loseMessagesTo_4 rfl rfl (XE.k hR (dk1)) (Nat.le_of_ble_eq_true rfl) (by decide) (by decide) (by decide) (fun S' hS' => ?_)
  subst hS'
  refine ws_iconst C (nI 1) d_X_loseMessagesTo_7 (by decide) ?_
  refine ws_isub C d_X_loseMessagesTo_8 ?_
  refine ws_istore_n C d_X_loseMessagesTo_9 (by rw [hn]; decide) ?_
  suffices hL : ∀ m (y : Option Value) (G1 : GS), OK G1 → m ≤ G1.1 20 0 → losF w e m G1 = los G w e → ∀ S : Sto, XE (vZ F.1) h t G1 S → WS F 10 [some (.ref (h 6 0)), some (.int (nI w)), some (.int (nI e)), some (.int (nI m - nI 1)), y] [] S 0 0 from hL (G.1 20 0) _ G hO (Nat.le_refl _) rfl S hR
  clear hR
  intro m
  induction m with
  | zero =>
    intro y G1 hO1 hm hp S hR
    rw [show nI 0 - nI 1 = -1 from by decide]
    refine ws_iload_n C d_X_loseMessagesTo_10 rfl ?_
    refine ws_if_ltM C d_X_loseMessagesTo_11 ?_
    exact ws_vret C R d_X_loseMessagesTo_60 rfl (by decide) (by decide) ⟨rfl, by rw [← hp]; exact hR⟩
  | succ m ih =>
    intro y G1 hO1 hm hp S hR
    obtain ⟨r, hX⟩ := id hR
    have hil : m < G1.1 20 0 := by omega
    have hMi := (hX.2.2.2.2.2.1.2.2 m hil).2
    have hb2 : G1.1 22 m ≤ 5 := hO1 22 m
    have hb4 : G1.1 24 m ≤ 12 := hO1 24 m
    have hb20 : G1.1 20 0 ≤ 1399 := hO1 20 0
    rw [nI_sub (show 1 ≤ m + 1 by omega), Nat.add_sub_cancel]
    rw [losF] at hp
    refine ws_iload_n C d_X_loseMessagesTo_10 rfl ?_
    refine ws_if_ltN C d_X_loseMessagesTo_11 (by omega) ?_
    refine ws_aload_n C d_X_loseMessagesTo_14 rfl ?_
    refine wx_getP C hR 194 0 (h 1 0) d_X_loseMessagesTo_15 f_X_24 rfl rfl (dpX (by decide)) rfl ?_
    refine ws_iload_n C d_X_loseMessagesTo_18 rfl ?_
    refine ws_callVr C w_X_110 (As := [_]) (c_AL_get hX hO1 hil (P := fun S' => S = S') rfl) d_X_loseMessagesTo_19 rfl rfl (hX.1.1 1 0 dk1) (Nat.le_of_ble_eq_true rfl) (by decide) (by decide) (by decide) (fun S' hS' => ?_)
    subst hS'
    refine ws_castM C (tb_at 332 (by decide +kernel) (by decide +kernel)) d_X_loseMessagesTo_22 hMi.1 ?_
    refine ws_astore C d_X_loseMessagesTo_25 (by rw [hn]; decide) ?_
    refine ws_aload C d_X_loseMessagesTo_27 rfl ?_
    refine wx_msI C d_X_loseMessagesTo_29 f_X_329 rfl rfl hMi.1 hMi.2.2.2.1 ?_
    refine ws_iload_n C d_X_loseMessagesTo_32 rfl ?_
    refine ws_icmp_neN C d_X_loseMessagesTo_33 (by omega) (by omega) (fun h33 => ?_) (fun h33 => ?_)
    · rw [if_neg (fun z => h33 z.1)] at hp
      refine ws_iinc C (nI m - nI 1) d_X_loseMessagesTo_54 rfl (by rw [Int32.sub_eq_add_neg]; rfl) (by rw [hn]; decide) ?_
      refine ws_goto C d_X_loseMessagesTo_57 ?_
      exact ih _ G1 hO1 (by omega) hp S hR
    · refine ws_aload C d_X_loseMessagesTo_36 rfl ?_
      refine wx_msI C d_X_loseMessagesTo_38 f_X_116 rfl rfl hMi.1 hMi.2.2.2.2.1 ?_
      refine ws_iload_n C d_X_loseMessagesTo_41 rfl ?_
      refine ws_icmp_geN C d_X_loseMessagesTo_42 (by omega) (by omega) (fun h42 => ?_) (fun h42 => ?_)
      · rw [if_neg (fun z => absurd z.2 (by omega))] at hp
        refine ws_iinc C (nI m - nI 1) d_X_loseMessagesTo_54 rfl (by rw [Int32.sub_eq_add_neg]; rfl) (by rw [hn]; decide) ?_
        refine ws_goto C d_X_loseMessagesTo_57 ?_
        exact ih _ G1 hO1 (by omega) hp S hR
      · refine ws_aload_n C d_X_loseMessagesTo_45 rfl ?_
        refine wx_getP C hR 194 0 (h 1 0) d_X_loseMessagesTo_46 f_X_24 rfl rfl (dpX (by decide)) rfl ?_
        refine ws_iload_n C d_X_loseMessagesTo_49 rfl ?_
        rw [if_pos ⟨h33, by omega⟩] at hp
        refine ws_callVr C w_X_130 (As := [_]) (c_AL_remove hX hO1 hil) d_X_loseMessagesTo_50 rfl rfl (hX.1.1 1 0 dk1) (Nat.le_of_ble_eq_true rfl) (by decide) (by decide) (by decide) (fun S hR => ?_)
        refine ws_pop C d_X_loseMessagesTo_53 rfl ?_
        refine ws_iinc C (nI m - nI 1) d_X_loseMessagesTo_54 rfl (by rw [Int32.sub_eq_add_neg]; rfl) (by rw [hn]; decide) ?_
        refine ws_goto C d_X_loseMessagesTo_57 ?_
        exact ih _ (stk G1 m) (ok_stk hO1) (by rw [stk_20]; omega) hp S hR
set_option maxHeartbeats 4000000 in
set_option maxRecDepth 100000 in
theorem c_X_isLongSilent {V : Ev} {h : Nat → Nat → Nat} {t : Nat → Nat} {G : GS} {S : Sto} (hR : XE (vZ V) h t G S) (hO : OK G) (hW : WF G) {m : Nat} (hm : m < G.1 0 0) (h28 : G.1 1 m = 0 → G.1 28 m ≤ G.1 27 0) {P : Sto → Prop} (hP : P S) : CT V mi_X_isLongSilent 0 0 [.ref (h 6 0), .int (nI m)] S (Pi (bI (decide (G.1 1 m = 0 ∧ 3 ≤ G.1 27 0 - G.1 28 m))) P) := by
  refine CT.of (cc := prog_1_method_27_code) (own := "ChainVersions") (nL := 3) (d := 2) (by decide) rfl rfl rfl rfl (by simp [Value.category]) (Nat.le_of_ble_eq_true rfl) rfl ?_
  intro F hV hn C R
  subst hV
  have hm5 : m ≤ 5 := by have := hW.m6 hm; omega
  have hb27 : G.1 27 0 ≤ 600 := hO 27 0
  have hb28 : G.1 28 m ≤ 600 := hO 28 m
  have hb1 : G.1 1 m ≤ 1 := hO 1 m
  refine ws_aload_n C d_X_isLongSilent_0 rfl ?_
  refine ws_iload_n C d_X_isLongSilent_1 rfl ?_
  refine ws_callVr C w_X_200 (As := [_]) (c_X_madeNode hR hO (nI m) (P := fun S' => S = S') rfl) d_X_isLongSilent_2 rfl rfl (XE.k hR (dk6)) (Nat.le_of_ble_eq_true rfl) (by decide) (by decide) (by decide) (fun S' hS' => ?_)
  subst hS'
  rw [show mdA h G (nI m) = some (h 4 m) from by simp [mdA, inN_n hm5, ix_n (show m < 2 ^ 31 by omega), hm]]
  refine ws_astore_n C d_X_isLongSilent_5 (by rw [hn]; decide) ?_
  refine ws_aload_n C d_X_isLongSilent_6 rfl ?_
  refine ws_ifnull C d_X_isLongSilent_7 ?_
  refine ws_aload_n C d_X_isLongSilent_10 rfl ?_
  refine wx_getI C hR 131 m (nI (G.1 1 m)) d_X_isLongSilent_11 f_X_148 rfl rfl (dmN (by decide) hm) rfl ?_
  refine ws_if_neN C d_X_isLongSilent_14 (by omega) (fun h14 => ?_) (fun h14 => ?_)
  · refine ws_iconst C (nI 0) d_X_isLongSilent_34 (by decide) ?_
    exact ws_zret C R d_X_isLongSilent_35 rfl (by decide) (by decide) (by decide) ⟨by rw [show decide (G.1 1 m = 0 ∧ 3 ≤ G.1 27 0 - G.1 28 m) = false from by simp; omega]; rfl, hP⟩
  · refine ws_aload_n C d_X_isLongSilent_17 rfl ?_
    refine wx_getI C hR 197 0 (nI (G.1 27 0)) d_X_isLongSilent_18 f_X_151 rfl rfl (dmX (by decide)) rfl ?_
    refine ws_aload_n C d_X_isLongSilent_21 rfl ?_
    refine wx_getI C hR 133 m (nI (G.1 28 m)) d_X_isLongSilent_22 f_X_154 rfl rfl (dmN (by decide) hm) rfl ?_
    refine ws_isubN C d_X_isLongSilent_25 (by omega) ?_
    refine ws_iconst C (nI 3) d_X_isLongSilent_26 (by decide) ?_
    refine ws_icmp_ltN C d_X_isLongSilent_27 (by omega) (by omega) (fun h27 => ?_) (fun h27 => ?_)
    · refine ws_iconst C (nI 0) d_X_isLongSilent_34 (by decide) ?_
      exact ws_zret C R d_X_isLongSilent_35 rfl (by decide) (by decide) (by decide) ⟨by rw [show decide (G.1 1 m = 0 ∧ 3 ≤ G.1 27 0 - G.1 28 m) = false from by simp; omega]; rfl, hP⟩
    · refine ws_iconst C (nI 1) d_X_isLongSilent_30 (by decide) ?_
      refine ws_goto C d_X_isLongSilent_31 ?_
      exact ws_zret C R d_X_isLongSilent_35 rfl (by decide) (by decide) (by decide) ⟨by rw [show decide (G.1 1 m = 0 ∧ 3 ≤ G.1 27 0 - G.1 28 m) = true from by simp; omega]; rfl, hP⟩
