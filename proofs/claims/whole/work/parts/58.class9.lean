/-! the class: copies, messages received, writes, links -/
set_option maxHeartbeats 4000000 in
set_option maxRecDepth 100000 in
theorem c_X_receiveCopy_r {V : Ev} {h : Nat → Nat → Nat} {t : Nat → Nat} {G : GS} {S : Sto} (hR : XE (vZ V) h t G S) (hO : OK G) (hW : WF G) {v : Nat} (hv : v < G.1 0 0) (ht : t 0 = 5) (h1 : t 1 < G.1 0 0) (h4 : t 4 ≤ G.1 4 (t 1)) (hrd : G.1 2 v = 1) (hc : G.1 20 0 + (t 4 - G.1 4 v) ≤ 1399) : CT V mi_X_receiveCopy (2 * (t 4 - G.1 4 v)) (2209 * (t 4 - G.1 4 v)) [.ref (h 6 0), .ref (h 4 v), .ref (h 15 0)] S (Pv (XE (vZ V) h t (cpF v (t 1) (t 4 - G.1 4 v) (G.1 4 v + 1) G))) := by
  refine CT.of (cc := prog_1_method_40_code) (own := "ChainVersions") (nL := 5) (d := 10) (by decide) rfl rfl rfl rfl (by simp [Value.category]) (Nat.le_of_ble_eq_true rfl) rfl ?_
  intro F hV hn C R
  subst hV
  have ht0 : t 0 ≠ 0 := by omega
  have hb4 : G.1 4 (t 1) ≤ 100 := hO 4 _
  have hb4v : G.1 4 v ≤ 100 := hO 4 v
  have hu : t 1 < G.1 0 0 := h1
  have hu5 : t 1 ≤ 5 := by have := hW.m6 hu; omega
  refine ws_aload_n C d_X_receiveCopy_0 rfl ?_
  refine ws_aload_n C d_X_receiveCopy_1 rfl ?_
  have hH := XE.hnd hR ht0
  obtain ⟨uH, hH⟩ := hH
  refine wx_msI C d_X_receiveCopy_2 f_X_316 rfl rfl hH.1 hH.2.2.1 ?_
  clear hH
  refine ws_callVr C w_X_200 (As := [_]) (c_X_madeNode hR hO (nI (t 1)) (P := fun S' => S = S') rfl) d_X_receiveCopy_5 rfl rfl (XE.k hR (dk6)) (Nat.le_of_ble_eq_true rfl) (by decide) (by omega) (by omega) (fun S' hS' => ?_)
  subst hS'
  rw [show mdA h G (nI (t 1)) = some (h 4 (t 1)) from by simp [mdA, inN_n hu5, ix_n (show t 1 < 2 ^ 31 by omega), hu]]
  refine ws_astore_n C d_X_receiveCopy_8 (by rw [hn]; decide) ?_
  refine ws_aload_n C d_X_receiveCopy_9 rfl ?_
  refine ws_ifnonnull C d_X_receiveCopy_10 ?_
  refine ws_aload_n C d_X_receiveCopy_14 rfl ?_
  refine wx_getI C hR 132 v (nI (G.1 2 v)) d_X_receiveCopy_15 f_X_123 rfl rfl (dmN (by decide) hv) rfl ?_
  refine ws_if_eqN C d_X_receiveCopy_18 (by omega) (fun z => absurd z (by omega)) (fun _ => ?_)
  refine ws_aload_n C d_X_receiveCopy_21 rfl ?_
  refine wx_getI C hR 134 v (nI (G.1 4 v)) d_X_receiveCopy_22 f_X_188 rfl rfl (dmN (by decide) hv) rfl ?_
  refine ws_iconst C (nI 1) d_X_receiveCopy_25 (by decide) ?_
  refine ws_iaddN C d_X_receiveCopy_26 ?_
  refine ws_istore C d_X_receiveCopy_27 (by rw [hn]; decide) ?_
  suffices hL : ∀ m n (G1 : GS), m = t 4 + 1 - n → m ≤ t 4 - G.1 4 v → G1.1 4 v + 1 = n → OK G1 → WF G1 → G1.1 0 = G.1 0 → t 4 ≤ G1.1 4 (t 1) → G1.1 20 0 + m ≤ 1399 → cpF v (t 1) m n G1 = cpF v (t 1) (t 4 - G.1 4 v) (G.1 4 v + 1) G → ∀ S : Sto, XE (vZ F.1) h t G1 S → WS F 29 [some (.ref (h 6 0)), some (.ref (h 4 v)), some (.ref (h 15 0)), some (.ref (h 4 (t 1))), some (.int (nI n))] [] S (2 * (t 4 - G.1 4 v - m)) (2209 * (t 4 - G.1 4 v - m)) from by
    have h0 : t 4 - G.1 4 v - (t 4 - G.1 4 v) = 0 := by omega
    have := hL (t 4 - G.1 4 v) (G.1 4 v + 1) G (by omega) (Nat.le_refl _) rfl hO hW rfl h4 hc rfl S hR
    rw [h0] at this
    exact this
  clear hR
  intro m
  induction m with
  | zero =>
    intro n G1 hm hml hn4 hO1 hW1 g0 h41 h20 hp S hR
    have hb : G1.1 4 v ≤ 100 := hO1 4 v
    refine ws_iload C d_X_receiveCopy_29 rfl ?_
    refine ws_aload_n C d_X_receiveCopy_31 rfl ?_
    have hH := XE.hnd hR ht0
    obtain ⟨uH, hH⟩ := hH
    refine wx_msI C d_X_receiveCopy_32 f_X_271 rfl rfl hH.1 (hH.2.2.2.2.2.2.1 (by omega)) ?_
    clear hH
    refine ws_icmp_gtN C d_X_receiveCopy_35 (by first | omega | exact okl hO1 _ _) (by first | omega | exact okl hO1 _ _) (fun h35 => ?_) (fun h35 => ?_)
    · exact ws_vret C R d_X_receiveCopy_55 rfl (by omega) (by omega) ⟨rfl, by rw [← hp]; exact hR⟩
    · omega
  | succ m ih =>
    intro n G1 hm hml hn4 hO1 hW1 g0 h41 h20 hp S hR
    have hv1 : v < G1.1 0 0 := by rw [g0]; exact hv
    have hu1 : t 1 < G1.1 0 0 := by rw [g0]; exact hu
    have hb : G1.1 4 v ≤ 100 := hO1 4 v
    have h20t := takF_20 G1 v (t 1) n
    have hb4t : G1.1 4 (t 1) ≤ 100 := hO1 4 (t 1)
    refine ws_iload C d_X_receiveCopy_29 rfl ?_
    refine ws_aload_n C d_X_receiveCopy_31 rfl ?_
    have hH := XE.hnd hR ht0
    obtain ⟨uH, hH⟩ := hH
    refine wx_msI C d_X_receiveCopy_32 f_X_271 rfl rfl hH.1 (hH.2.2.2.2.2.2.1 (by omega)) ?_
    clear hH
    refine ws_icmp_gtN C d_X_receiveCopy_35 (by first | omega | exact okl hO1 _ _) (by first | omega | exact okl hO1 _ _) (fun h35 => ?_) (fun h35 => ?_)
    · omega
    · refine ws_aload_n C d_X_receiveCopy_38 rfl ?_
      refine ws_aload_n C d_X_receiveCopy_39 rfl ?_
      refine ws_aload_n C d_X_receiveCopy_40 rfl ?_
      refine ws_iload C d_X_receiveCopy_41 rfl ?_
      obtain ⟨r, hX⟩ := hR
      have hU := (hX.2.2.2.2.1 (t 1) n hu1 (by omega) (by omega)).2
      refine ws_callVr C w_X_301 (As := [_]) (c_Nd_updateAt hX hO1 hu1 (show n < 2 ^ 31 by omega) (P := fun S' => S = S') rfl) d_X_receiveCopy_43 rfl rfl (hX.1.1 4 (t 1) (dkN hu1)) (Nat.le_of_ble_eq_true rfl) (by decide) (by omega) (by omega) (fun S' hS' => ?_)
      subst hS'
      rw [upA_s ⟨by omega, (by omega)⟩]
      have hR : XE (vZ F.1) h t G1 S := ⟨r, hX⟩
      refine ws_callVv C w_X_229 (As := [_, _]) (c_X_take hR hO1 hW1 hv1 hU (by omega) (hO1 9 _) (hO1 11 _) (hO1 12 _)) d_X_receiveCopy_46 rfl rfl (XE.k hR (dk6)) (Nat.le_of_ble_eq_true rfl) (by decide) (by omega) (by omega) (fun S hR => ?_)
      refine ws_iinc C _ d_X_receiveCopy_49 rfl (inc1 _) (by rw [hn]; decide) ?_
      refine ws_goto C d_X_receiveCopy_52 ?_
      exact ws_widen (by omega) (by omega) (ih (n + 1) (takF G1 v (t 1) n) (by omega) (by omega) (by rw [takF_4]; omega) (ok_takF hO1 (by have := hW1.m6 hv1; omega) (by omega) (by omega)) (hW1.w_tak _ _ _ _ _) (by rw [takF, tak_ne _ _ _ _ _ _ (by decide) (by decide) (by decide) (by decide) (by decide) (by decide) (by decide) (by decide)]; exact g0) (Nat.le_trans h41 (tak_4a _ _ _ _ _ _ _)) (by omega) hp S hR)
set_option maxHeartbeats 4000000 in
set_option maxRecDepth 100000 in
theorem c_X_receiveCopy_n {V : Ev} {h : Nat → Nat → Nat} {t : Nat → Nat} {G : GS} {S : Sto} (hR : XE (vZ V) h t G S) (hO : OK G) (hW : WF G) {v : Nat} (hv : v < G.1 0 0) (ht : t 0 = 5) (h1 : t 1 < G.1 0 0) (h4 : t 4 ≤ G.1 4 (t 1)) (hrd : G.1 2 v = 0) (hl0 : G.1 4 v = 0) (h5 : t 5 ≤ t 4) (hc : G.1 20 0 + 1 ≤ 1399) : CT V mi_X_receiveCopy 4 4418 [.ref (h 6 0), .ref (h 4 v), .ref (h 15 0)] S (Pv (XE (vZ V) h t (arv G v (t 1) (t 4) (t 5)))) := by
  refine CT.of (cc := prog_1_method_40_code) (own := "ChainVersions") (nL := 5) (d := 10) (by decide) rfl rfl rfl rfl (by simp [Value.category]) (Nat.le_of_ble_eq_true rfl) rfl ?_
  intro F hV hn C R
  subst hV
  have ht0 : t 0 ≠ 0 := by omega
  have hb4 : G.1 4 (t 1) ≤ 100 := hO 4 _
  have hu : t 1 < G.1 0 0 := h1
  have hu5 : t 1 ≤ 5 := by have := hW.m6 hu; omega
  refine ws_aload_n C d_X_receiveCopy_0 rfl ?_
  refine ws_aload_n C d_X_receiveCopy_1 rfl ?_
  have hH := XE.hnd hR ht0
  obtain ⟨uH, hH⟩ := hH
  refine wx_msI C d_X_receiveCopy_2 f_X_316 rfl rfl hH.1 hH.2.2.1 ?_
  clear hH
  refine ws_callVr C w_X_200 (As := [_]) (c_X_madeNode hR hO (nI (t 1)) (P := fun S' => S = S') rfl) d_X_receiveCopy_5 rfl rfl (XE.k hR (dk6)) (Nat.le_of_ble_eq_true rfl) (by decide) (by omega) (by omega) (fun S' hS' => ?_)
  subst hS'
  rw [show mdA h G (nI (t 1)) = some (h 4 (t 1)) from by simp [mdA, inN_n hu5, ix_n (show t 1 < 2 ^ 31 by omega), hu]]
  refine ws_astore_n C d_X_receiveCopy_8 (by rw [hn]; decide) ?_
  refine ws_aload_n C d_X_receiveCopy_9 rfl ?_
  refine ws_ifnonnull C d_X_receiveCopy_10 ?_
  refine ws_aload_n C d_X_receiveCopy_14 rfl ?_
  refine wx_getI C hR 132 v (nI (G.1 2 v)) d_X_receiveCopy_15 f_X_123 rfl rfl (dmN (by decide) hv) rfl ?_
  refine ws_if_eqN C d_X_receiveCopy_18 (by omega) (fun _ => ?_) (fun z => absurd hrd z)
  refine ws_aload_n C d_X_receiveCopy_56 rfl ?_
  refine wx_getI C hR 134 v (nI (G.1 4 v)) d_X_receiveCopy_57 f_X_188 rfl rfl (dmN (by decide) hv) rfl ?_
  refine ws_iconst C (nI 1) d_X_receiveCopy_60 (by decide) ?_
  refine ws_iaddN C d_X_receiveCopy_61 ?_
  refine ws_istore C d_X_receiveCopy_62 (by rw [hn]; decide) ?_
  suffices hL : ∀ m n (G1 : GS), n + m = t 4 + 1 → G1.1 4 v + 1 = n → OK G1 → WF G1 → G1.1 0 = G.1 0 → G1.1 20 = G.1 20 → t 4 ≤ G1.1 4 (t 1) → hlF v (t 1) m n G1 = hlF v (t 1) (t 4) 1 G → ∀ S : Sto, XE (vZ F.1) h t G1 S → WS F 64 [some (.ref (h 6 0)), some (.ref (h 4 v)), some (.ref (h 15 0)), some (.ref (h 4 (t 1))), some (.int (nI n))] [] S 0 0 from by
    have h0 : G.1 4 v + 1 = 1 := by omega
    rw [h0]
    exact hL (t 4) 1 G (by omega) h0 hO hW rfl rfl h4 rfl S hR
  clear hR
  intro m
  induction m with
  | zero =>
    intro n G1 hm hn4 hO1 hW1 g0 g20 h41 hp S hR
    have hb : G1.1 4 v ≤ 100 := hO1 4 v
    have hv1 : v < G1.1 0 0 := by rw [g0]; exact hv
    have hlen : G1.1 4 v = t 4 := by omega
    refine ws_iload C d_X_receiveCopy_64 rfl ?_
    refine ws_aload_n C d_X_receiveCopy_66 rfl ?_
    have hH := XE.hnd hR ht0
    obtain ⟨uH, hH⟩ := hH
    refine wx_msI C d_X_receiveCopy_67 f_X_271 rfl rfl hH.1 (hH.2.2.2.2.2.2.1 (by omega)) ?_
    clear hH
    refine ws_icmp_gtN C d_X_receiveCopy_70 (by first | omega | exact okl hO1 _ _) (by first | omega | exact okl hO1 _ _) (fun h70 => ?_) (fun h70 => ?_)
    · rw [hlF] at hp
      have hfin : tel (gN (gN G1 5 v (t 5)) 2 v 1) v = arv G v (t 1) (t 4) (t 5) := by
        unfold arv; rw [hp, hlF_cpL v (t 1) (t 4) 1 G (by omega), Nat.add_sub_cancel_left]
      have hO2 : OK (gN (gN G1 5 v (t 5)) 2 v 1) := ok_gN (ok_gN hO1 (by show t 5 ≤ 100; omega)) (by decide)
      have hW2 : WF (gN (gN G1 5 v (t 5)) 2 v 1) := (hW1.w_5 (by omega)).w_N (by decide)
      have hv2 : v < (gN (gN G1 5 v (t 5)) 2 v 1).1 0 0 := by rw [gN_ne _ (by decide), gN_ne _ (by decide)]; exact hv1
      refine ws_aload_n C d_X_receiveCopy_90 rfl ?_
      refine ws_aload_n C d_X_receiveCopy_91 rfl ?_
      have hH := XE.hnd hR ht0
      obtain ⟨uH, hH⟩ := hH
      refine wx_msI C d_X_receiveCopy_92 f_X_322 rfl rfl hH.1 (hH.2.2.2.2.2.2.2.1 (by omega)) ?_
      clear hH
      refine wx_putN C hR 135 v 5 d_X_receiveCopy_95 f_X_191 rfl rfl rfl rfl rfl ⟨rfl, rfl⟩ (dmN (by decide) hv1) (fun S hR => ?_)
      have hv3 : v < (gN G1 5 v (t 5)).1 0 0 := by rw [gN_ne _ (by decide)]; exact hv1
      refine ws_aload_n C d_X_receiveCopy_98 rfl ?_
      refine ws_iconst C (nI 1) d_X_receiveCopy_99 (by decide) ?_
      refine wx_putN C hR 132 v 2 d_X_receiveCopy_100 f_X_123 rfl rfl rfl rfl rfl ⟨rfl, rfl⟩ (dmN (by decide) hv3) (fun S hR => ?_)
      refine ws_aload_n C d_X_receiveCopy_103 rfl ?_
      refine ws_aload_n C d_X_receiveCopy_104 rfl ?_
      refine ws_callVv C w_X_177 (As := [_]) (c_X_tellNeighbours hR hO2 hW2 hv2 (by rw [gN_ne _ (by decide), gN_ne _ (by decide), g20]; omega)) d_X_receiveCopy_105 rfl rfl (XE.k hR (dk6)) (Nat.le_of_ble_eq_true rfl) (by decide) (by decide) (by decide) (fun S hR => ?_)
      exact ws_vret C R d_X_receiveCopy_108 rfl (by decide) (by decide) ⟨rfl, by rw [← hfin]; exact hR⟩
    · omega
  | succ m ih =>
    intro n G1 hm hn4 hO1 hW1 g0 g20 h41 hp S hR
    have hv1 : v < G1.1 0 0 := by rw [g0]; exact hv
    have hu1 : t 1 < G1.1 0 0 := by rw [g0]; exact hu
    have hb : G1.1 4 v ≤ 100 := hO1 4 v
    have hb4t : G1.1 4 (t 1) ≤ 100 := hO1 4 (t 1)
    refine ws_iload C d_X_receiveCopy_64 rfl ?_
    refine ws_aload_n C d_X_receiveCopy_66 rfl ?_
    have hH := XE.hnd hR ht0
    obtain ⟨uH, hH⟩ := hH
    refine wx_msI C d_X_receiveCopy_67 f_X_271 rfl rfl hH.1 (hH.2.2.2.2.2.2.1 (by omega)) ?_
    clear hH
    refine ws_icmp_gtN C d_X_receiveCopy_70 (by first | omega | exact okl hO1 _ _) (by first | omega | exact okl hO1 _ _) (fun h70 => ?_) (fun h70 => ?_)
    · omega
    · refine ws_aload_n C d_X_receiveCopy_73 rfl ?_
      refine ws_aload_n C d_X_receiveCopy_74 rfl ?_
      refine ws_iload C d_X_receiveCopy_75 rfl ?_
      obtain ⟨r, hX⟩ := hR
      have hU := (hX.2.2.2.2.1 (t 1) n hu1 (by omega) (by omega)).2
      refine ws_callVr C w_X_301 (As := [_]) (c_Nd_updateAt hX hO1 hu1 (show n < 2 ^ 31 by omega) (P := fun S' => S = S') rfl) d_X_receiveCopy_77 rfl rfl (hX.1.1 4 (t 1) (dkN hu1)) (Nat.le_of_ble_eq_true rfl) (by decide) (by decide) (by decide) (fun S' hS' => ?_)
      subst hS'
      rw [upA_s ⟨by omega, (by omega)⟩]
      have hR : XE (vZ F.1) h t G1 S := ⟨r, hX⟩
      refine ws_callVi C w_X_285 (As := [_]) (c_Nd_hold hX hO1 hv1 hU (by omega)) d_X_receiveCopy_80 rfl rfl (hX.1.1 4 v (dkN hv1)) (Nat.le_of_ble_eq_true rfl) (by decide) (by decide) (by decide) (fun S hS => ?_)
      obtain ⟨r2, hX2, -⟩ := hS
      have hR : XE (vZ F.1) h t _ S := ⟨r2, hX2⟩
      refine ws_pop C d_X_receiveCopy_83 rfl ?_
      refine ws_iinc C _ d_X_receiveCopy_84 rfl (inc1 _) (by rw [hn]; decide) ?_
      refine ws_goto C d_X_receiveCopy_87 ?_
      exact ih (n + 1) _ (by omega) (by rw [hol_4]; omega) (ok_hol hO1 (by omega) (hO1 9 _) (hO1 11 _) (hO1 12 _)) (hW1.w_hol _ _ _ _ _) (by rw [hol_ne _ _ _ _ _ _ (by decide) (by decide) (by decide) (by decide)]; exact g0) (by rw [hol_ne _ _ _ _ _ _ (by decide) (by decide) (by decide) (by decide)]; exact g20) (Nat.le_trans h41 (hol_4a _ _ _ _ _ _ _)) hp S hR
/-- the cost of a message received: how many updates it may bring -/
def nC (G : GS) (t : Nat → Nat) (v : Nat) : Nat := if t 0 = 5 then t 4 - G.1 4 v else 0
set_option maxHeartbeats 4000000 in
set_option maxRecDepth 100000 in
theorem c_X_receive_r {V : Ev} {h : Nat → Nat → Nat} {t : Nat → Nat} {G : GS} {S : Sto} (hR : XE (vZ V) h t G S) (hO : OK G) (hW : WF G) {v : Nat} (hv : v < G.1 0 0) (hk : 1 ≤ t 0 ∧ t 0 ≤ 5) (hrd : G.1 2 v = 1) (hp : (t 0 = 1 → t 1 < G.1 0 0 ∧ (1 ≤ t 4 ∧ t 4 ≤ G.1 4 (t 1)) ∧ G.1 4 v + 1 ≤ 100) ∧ (t 0 = 2 → t 4 ≤ G.1 4 v) ∧ (t 0 = 3 → t 1 ≤ 5 ∧ t 4 ≤ 3) ∧ (t 0 = 4 → t 5 < 3 ∧ t 4 ≤ 100 ∧ G.1 13 (t 5) = 3 ∧ G.2 29 (t 5) = nI v) ∧ (t 0 = 5 → t 1 < G.1 0 0 ∧ t 4 ≤ G.1 4 (t 1) ∧ G.1 20 0 + (t 4 - G.1 4 v) ≤ 1399)) : CT V mi_X_receive (4 + 2 * nC G t v) (4418 + 2209 * nC G t v) [.ref (h 6 0), .ref (h 4 v), .ref (h 15 0)] S (Pv (XE (vZ V) h t (act G v (t 1) (t 0) (t 4) (t 5)))) := by
  refine CT.of (cc := prog_1_method_33_code) (own := "ChainVersions") (nL := 3) (d := 11) (by decide) rfl rfl rfl rfl (by simp [Value.category]) (Nat.le_of_ble_eq_true rfl) rfl ?_
  intro F hV hn C R
  subst hV
  have ht0 : t 0 ≠ 0 := by omega
  have hk5 : t 0 = 1 ∨ t 0 = 2 ∨ t 0 = 3 ∨ t 0 = 4 ∨ t 0 = 5 := by omega
  rcases hk5 with ht | ht | ht | ht | ht
  · obtain ⟨p1, p2, p3, p4, p5⟩ := hp
    refine ws_aload_n C d_X_receive_0 rfl ?_
    have hH := XE.hnd hR ht0
    obtain ⟨uH, hH⟩ := hH
    refine wx_msI C d_X_receive_1 f_X_127 rfl rfl hH.1 hH.2.1 ?_
    clear hH
    rw [ht]
    refine ws_tabIn C (tgt := 36) 32 d_X_receive_4 (by decide) (by decide) (by decide) (by decide) ?_
    refine ws_aload_n C d_X_receive_36 rfl ?_
    refine ws_aload_n C d_X_receive_37 rfl ?_
    refine ws_aload_n C d_X_receive_38 rfl ?_
    obtain ⟨r, hX⟩ := hR
    have hH := hX.2.2.2.2.2.2.1 ht0
    obtain ⟨q1, q2, q3⟩ := p1 ht
    refine ws_getP C d_X_receive_39 f_X_267 rfl hH.1 (hH.2.2.2.2.2.1 ht) ?_
    have hU := (hX.2.2.2.2.1 (t 1) (t 4) q1 q2.1 q2.2).2
    have hR : XE (vZ F.1) h t G S := ⟨r, hX⟩
    refine ws_callVv C w_X_229 (As := [_, _]) (c_X_take hR hO hW hv hU q3 (hO 9 _) (hO 11 _) (hO 12 _)) d_X_receive_42 rfl rfl (XE.k hR (dk6)) (Nat.le_of_ble_eq_true rfl) (by decide) (by omega) (by omega) (fun S hR => ?_)
    refine ws_goto C d_X_receive_45 ?_
    exact ws_vret C R d_X_receive_84 rfl (by omega) (by omega) ⟨rfl, by rw [ht]; exact hR⟩
  · obtain ⟨p1, p2, p3, p4, p5⟩ := hp
    refine ws_aload_n C d_X_receive_0 rfl ?_
    have hH := XE.hnd hR ht0
    obtain ⟨uH, hH⟩ := hH
    refine wx_msI C d_X_receive_1 f_X_127 rfl rfl hH.1 hH.2.1 ?_
    clear hH
    rw [ht]
    refine ws_tabIn C (tgt := 48) 44 d_X_receive_4 (by decide) (by decide) (by decide) (by decide) ?_
    refine ws_aload_n C d_X_receive_48 rfl ?_
    refine ws_aload_n C d_X_receive_49 rfl ?_
    refine ws_aload_n C d_X_receive_50 rfl ?_
    have hH := XE.hnd hR ht0
    obtain ⟨uH, hH⟩ := hH
    refine wx_msI C d_X_receive_51 f_X_271 rfl rfl hH.1 (hH.2.2.2.2.2.2.1 (by omega)) ?_
    clear hH
    refine ws_callVv C w_X_272 (As := [_, _]) (c_X_settleUpTo hR hO hW hv (p2 ht)) d_X_receive_54 rfl rfl (XE.k hR (dk6)) (Nat.le_of_ble_eq_true rfl) (by decide) (by omega) (by omega) (fun S hR => ?_)
    refine ws_goto C d_X_receive_57 ?_
    exact ws_vret C R d_X_receive_84 rfl (by omega) (by omega) ⟨rfl, by rw [ht]; exact hR⟩
  · obtain ⟨p1, p2, p3, p4, p5⟩ := hp
    refine ws_aload_n C d_X_receive_0 rfl ?_
    have hH := XE.hnd hR ht0
    obtain ⟨uH, hH⟩ := hH
    refine wx_msI C d_X_receive_1 f_X_127 rfl rfl hH.1 hH.2.1 ?_
    clear hH
    rw [ht]
    refine ws_tabIn C (tgt := 60) 56 d_X_receive_4 (by decide) (by decide) (by decide) (by decide) ?_
    refine ws_aload_n C d_X_receive_60 rfl ?_
    refine ws_aload_n C d_X_receive_61 rfl ?_
    refine ws_aload_n C d_X_receive_62 rfl ?_
    refine ws_callVv C w_X_276 (As := [_, _]) (c_X_answer hR hO hW hv ht (p3 ht).1 (p3 ht).2) d_X_receive_63 rfl rfl (XE.k hR (dk6)) (Nat.le_of_ble_eq_true rfl) (by decide) (by omega) (by omega) (fun S hR => ?_)
    refine ws_goto C d_X_receive_66 ?_
    exact ws_vret C R d_X_receive_84 rfl (by omega) (by omega) ⟨rfl, by rw [ht]; exact hR⟩
  · obtain ⟨p1, p2, p3, p4, p5⟩ := hp
    refine ws_aload_n C d_X_receive_0 rfl ?_
    have hH := XE.hnd hR ht0
    obtain ⟨uH, hH⟩ := hH
    refine wx_msI C d_X_receive_1 f_X_127 rfl rfl hH.1 hH.2.1 ?_
    clear hH
    rw [ht]
    refine ws_tabIn C (tgt := 69) 65 d_X_receive_4 (by decide) (by decide) (by decide) (by decide) ?_
    refine ws_aload_n C d_X_receive_69 rfl ?_
    refine ws_aload_n C d_X_receive_70 rfl ?_
    refine ws_aload_n C d_X_receive_71 rfl ?_
    refine ws_callVv C w_X_279 (As := [_, _]) (c_X_useAnswer hR hO hW hv ht (p4 ht).1 (p4 ht).2.1 (p4 ht).2.2.1 (p4 ht).2.2.2) d_X_receive_72 rfl rfl (XE.k hR (dk6)) (Nat.le_of_ble_eq_true rfl) (by decide) (by omega) (by omega) (fun S hR => ?_)
    refine ws_goto C d_X_receive_75 ?_
    exact ws_vret C R d_X_receive_84 rfl (by omega) (by omega) ⟨rfl, by rw [ht]; exact hR⟩
  · obtain ⟨p1, p2, p3, p4, p5⟩ := hp
    refine ws_aload_n C d_X_receive_0 rfl ?_
    have hH := XE.hnd hR ht0
    obtain ⟨uH, hH⟩ := hH
    refine wx_msI C d_X_receive_1 f_X_127 rfl rfl hH.1 hH.2.1 ?_
    clear hH
    rw [ht]
    refine ws_tabOut C (tgt := 78) d_X_receive_4 (by decide) (by decide) ?_
    obtain ⟨q1, q2, q3⟩ := p5 ht
    have hn5 : nC G t v = t 4 - G.1 4 v := by unfold nC; rw [if_pos ht]
    refine ws_aload_n C d_X_receive_78 rfl ?_
    refine ws_aload_n C d_X_receive_79 rfl ?_
    refine ws_aload_n C d_X_receive_80 rfl ?_
    refine ws_callVv C w_X_282 (As := [_, _]) (c_X_receiveCopy_r hR hO hW hv ht q1 q2 hrd q3) d_X_receive_81 rfl rfl (XE.k hR (dk6)) (Nat.le_of_ble_eq_true rfl) (by decide) (by omega) (by omega) (fun S hR => ?_)
    exact ws_vret C R d_X_receive_84 rfl (by omega) (by omega) ⟨rfl, by rw [ht]; exact hR⟩
set_option maxHeartbeats 4000000 in
set_option maxRecDepth 100000 in
theorem c_X_receive_n {V : Ev} {h : Nat → Nat → Nat} {t : Nat → Nat} {G : GS} {S : Sto} (hR : XE (vZ V) h t G S) (hO : OK G) (hW : WF G) {v : Nat} (hv : v < G.1 0 0) (ht : t 0 = 5) (h1 : t 1 < G.1 0 0) (h4 : t 4 ≤ G.1 4 (t 1)) (hrd : G.1 2 v = 0) (hl0 : G.1 4 v = 0) (h5 : t 5 ≤ t 4) (hc : G.1 20 0 + 1 ≤ 1399) : CT V mi_X_receive (4 + 2 * nC G t v) (4418 + 2209 * nC G t v) [.ref (h 6 0), .ref (h 4 v), .ref (h 15 0)] S (Pv (XE (vZ V) h t (arv G v (t 1) (t 4) (t 5)))) := by
  refine CT.of (cc := prog_1_method_33_code) (own := "ChainVersions") (nL := 3) (d := 11) (by decide) rfl rfl rfl rfl (by simp [Value.category]) (Nat.le_of_ble_eq_true rfl) rfl ?_
  intro F hV hn C R
  subst hV
  have ht0 : t 0 ≠ 0 := by omega
  refine ws_aload_n C d_X_receive_0 rfl ?_
  have hH := XE.hnd hR ht0
  obtain ⟨uH, hH⟩ := hH
  refine wx_msI C d_X_receive_1 f_X_127 rfl rfl hH.1 hH.2.1 ?_
  clear hH
  rw [ht]
  refine ws_tabOut C (tgt := 78) d_X_receive_4 (by decide) (by decide) ?_
  refine ws_aload_n C d_X_receive_78 rfl ?_
  refine ws_aload_n C d_X_receive_79 rfl ?_
  refine ws_aload_n C d_X_receive_80 rfl ?_
  refine ws_callVv C w_X_282 (As := [_, _]) (c_X_receiveCopy_n hR hO hW hv ht h1 h4 hrd hl0 h5 hc) d_X_receive_81 rfl rfl (XE.k hR (dk6)) (Nat.le_of_ble_eq_true rfl) (by decide) (by omega) (by omega) (fun S hR => ?_)
  exact ws_vret C R d_X_receive_84 rfl (by omega) (by omega) ⟨rfl, hR⟩
