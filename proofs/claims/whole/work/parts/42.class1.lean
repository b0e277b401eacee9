/-! the class: clients, configurations, nodes: what only reads, and the clients' writes -/
theorem XE.k {z : Nat} {h : Nat → Nat → Nat} {t : Nat → Nat} {G : GS} {S : Sto} (hR : XE z h t G S) {kd k : Nat} (hd : dk G kd k) : sK S (h kd k) = kd := by obtain ⟨r, hR⟩ := hR; exact hR.1.1 kd k hd
set_option maxHeartbeats 4000000 in
set_option maxRecDepth 100000 in
theorem c_Cl_isUnderWay {V : Ev} {h : Nat → Nat → Nat} {t : Nat → Nat} {G : GS} {S : Sto} (hR : XE (vZ V) h t G S) (hO : OK G) {c : Nat} (hc : c < 3) {P : Sto → Prop} (hP : P S) : CT V mi_Cl_isUnderWay 0 0 [.ref (h 2 c)] S (Pi (bI (decide (G.1 13 c % 2 = 1))) P) := by
  refine CT.of (cc := prog_2_method_2_code) (own := "ChainVersions$Client") (nL := 1) (d := 0) (by decide) rfl rfl rfl rfl (by simp [Value.category]) (Nat.le_of_ble_eq_true rfl) rfl ?_
  intro F hV hn C R
  subst hV
  have hb : G.1 13 c ≤ 4 := hO 13 c
  refine ws_aload_n C d_Cl_isUnderWay_0 rfl ?_
  refine wx_getI C hR 64 c (nI (G.1 13 c)) d_Cl_isUnderWay_1 f_Cl_9 rfl rfl (dmC (by decide) hc) rfl ?_
  refine ws_iconst C (nI 1) d_Cl_isUnderWay_4 (by decide) ?_
  refine ws_icmp_eqN C d_Cl_isUnderWay_5 (by first | omega | exact okl hO _ _) (by first | omega | exact okl hO _ _) (fun h5 => ?_) (fun h5 => ?_)
  · refine ws_iconst C (nI 1) d_Cl_isUnderWay_16 (by decide) ?_
    refine ws_goto C d_Cl_isUnderWay_17 ?_
    exact ws_zret C R d_Cl_isUnderWay_21 rfl (by decide) (by decide) (by decide) ⟨by rw [show decide (G.1 13 c % 2 = 1) = true from decide_eq_true (by omega)]; rfl, hP⟩
  · refine ws_aload_n C d_Cl_isUnderWay_8 rfl ?_
    refine wx_getI C hR 64 c (nI (G.1 13 c)) d_Cl_isUnderWay_9 f_Cl_9 rfl rfl (dmC (by decide) hc) rfl ?_
    refine ws_iconst C (nI 3) d_Cl_isUnderWay_12 (by decide) ?_
    refine ws_icmp_neN C d_Cl_isUnderWay_13 (by first | omega | exact okl hO _ _) (by first | omega | exact okl hO _ _) (fun h13 => ?_) (fun h13 => ?_)
    · refine ws_iconst C (nI 0) d_Cl_isUnderWay_20 (by decide) ?_
      exact ws_zret C R d_Cl_isUnderWay_21 rfl (by decide) (by decide) (by decide) ⟨by rw [show decide (G.1 13 c % 2 = 1) = false from decide_eq_false (by omega)]; rfl, hP⟩
    · refine ws_iconst C (nI 1) d_Cl_isUnderWay_16 (by decide) ?_
      refine ws_goto C d_Cl_isUnderWay_17 ?_
      exact ws_zret C R d_Cl_isUnderWay_21 rfl (by decide) (by decide) (by decide) ⟨by rw [show decide (G.1 13 c % 2 = 1) = true from decide_eq_true (by omega)]; rfl, hP⟩
set_option maxHeartbeats 4000000 in
set_option maxRecDepth 100000 in
theorem c_Cl_isDone {V : Ev} {h : Nat → Nat → Nat} {t : Nat → Nat} {G : GS} {S : Sto} (hR : XE (vZ V) h t G S) (hO : OK G) {c : Nat} (hc : c < 3) {P : Sto → Prop} (hP : P S) : CT V mi_Cl_isDone 0 0 [.ref (h 2 c)] S (Pi (bI (G.1 13 c == 2 || G.1 13 c == 4)) P) := by
  refine CT.of (cc := prog_2_method_3_code) (own := "ChainVersions$Client") (nL := 1) (d := 0) (by decide) rfl rfl rfl rfl (by simp [Value.category]) (Nat.le_of_ble_eq_true rfl) rfl ?_
  intro F hV hn C R
  subst hV
  refine ws_aload_n C d_Cl_isDone_0 rfl ?_
  refine wx_getI C hR 64 c (nI (G.1 13 c)) d_Cl_isDone_1 f_Cl_9 rfl rfl (dmC (by decide) hc) rfl ?_
  refine ws_iconst C (nI 2) d_Cl_isDone_4 (by decide) ?_
  refine ws_icmp_eqN C d_Cl_isDone_5 (by first | omega | exact okl hO _ _) (by first | omega | exact okl hO _ _) (fun h5 => ?_) (fun h5 => ?_)
  · refine ws_iconst C (nI 1) d_Cl_isDone_16 (by decide) ?_
    refine ws_goto C d_Cl_isDone_17 ?_
    exact ws_zret C R d_Cl_isDone_21 rfl (by decide) (by decide) (by decide) ⟨by simp [bI, nI_0, nI_one, *], hP⟩
  · refine ws_aload_n C d_Cl_isDone_8 rfl ?_
    refine wx_getI C hR 64 c (nI (G.1 13 c)) d_Cl_isDone_9 f_Cl_9 rfl rfl (dmC (by decide) hc) rfl ?_
    refine ws_iconst C (nI 4) d_Cl_isDone_12 (by decide) ?_
    refine ws_icmp_neN C d_Cl_isDone_13 (by first | omega | exact okl hO _ _) (by first | omega | exact okl hO _ _) (fun h13 => ?_) (fun h13 => ?_)
    · refine ws_iconst C (nI 0) d_Cl_isDone_20 (by decide) ?_
      exact ws_zret C R d_Cl_isDone_21 rfl (by decide) (by decide) (by decide) ⟨by simp [bI, nI_0, nI_one, *], hP⟩
    · refine ws_iconst C (nI 1) d_Cl_isDone_16 (by decide) ?_
      refine ws_goto C d_Cl_isDone_17 ?_
      exact ws_zret C R d_Cl_isDone_21 rfl (by decide) (by decide) (by decide) ⟨by simp [bI, nI_0, nI_one, *], hP⟩
set_option maxHeartbeats 4000000 in
set_option maxRecDepth 100000 in
theorem c_Cl_isReadingAt {V : Ev} {h : Nat → Nat → Nat} {t : Nat → Nat} {G : GS} {S : Sto} (hR : XE (vZ V) h t G S) (hO : OK G) {c : Nat} (hc : c < 3) (x : Int32) {P : Sto → Prop} (hP : P S) : CT V mi_Cl_isReadingAt 0 0 [.ref (h 2 c), .int x] S (Pi (bI (decide (G.1 13 c = 3 ∧ G.2 29 c = x))) P) := by
  refine CT.of (cc := prog_2_method_4_code) (own := "ChainVersions$Client") (nL := 2) (d := 0) (by decide) rfl rfl rfl rfl (by simp [Value.category]) (Nat.le_of_ble_eq_true rfl) rfl ?_
  intro F hV hn C R
  subst hV
  refine ws_aload_n C d_Cl_isReadingAt_0 rfl ?_
  refine wx_getI C hR 64 c (nI (G.1 13 c)) d_Cl_isReadingAt_1 f_Cl_9 rfl rfl (dmC (by decide) hc) rfl ?_
  refine ws_iconst C (nI 3) d_Cl_isReadingAt_4 (by decide) ?_
  refine ws_icmp_neN C d_Cl_isReadingAt_5 (by first | omega | exact okl hO _ _) (by first | omega | exact okl hO _ _) (fun h5 => ?_) (fun h5 => ?_)
  · refine ws_iconst C (nI 0) d_Cl_isReadingAt_20 (by decide) ?_
    exact ws_zret C R d_Cl_isReadingAt_21 rfl (by decide) (by decide) (by decide) ⟨by simp [bI, nI_0, nI_one, *], hP⟩
  · refine ws_aload_n C d_Cl_isReadingAt_8 rfl ?_
    refine wx_getI C hR 68 c (G.2 29 c) d_Cl_isReadingAt_9 f_Cl_15 rfl rfl (dmC (by decide) hc) rfl ?_
    refine ws_iload_n C d_Cl_isReadingAt_12 rfl ?_
    refine ws_icmp_ne C d_Cl_isReadingAt_13 (fun h13 => ?_) (fun h13 => ?_)
    · refine ws_iconst C (nI 0) d_Cl_isReadingAt_20 (by decide) ?_
      exact ws_zret C R d_Cl_isReadingAt_21 rfl (by decide) (by decide) (by decide) ⟨by simp [bI, nI_0, nI_one, *], hP⟩
    · refine ws_iconst C (nI 1) d_Cl_isReadingAt_16 (by decide) ?_
      refine ws_goto C d_Cl_isReadingAt_17 ?_
      exact ws_zret C R d_Cl_isReadingAt_21 rfl (by decide) (by decide) (by decide) ⟨by simp [bI, nI_0, nI_one, *], hP⟩
set_option maxHeartbeats 4000000 in
set_option maxRecDepth 100000 in
theorem c_Cl_beginWrite {V : Ev} {h : Nat → Nat → Nat} {t : Nat → Nat} {G : GS} {S : Sto} (hR : XE (vZ V) h t G S) (hO : OK G) {c k : Nat} {x : Int32} (hc : c < 3) : CT V mi_Cl_beginWrite 0 0 [.ref (h 2 c), .int (nI k), .int x] S (Pv (XE (vZ V) h t (gV (gN (gN (gN G 13 c 1) 14 c (G.1 14 c + 1)) 15 c k) 16 c x))) := by
  refine CT.of (cc := prog_2_method_5_code) (own := "ChainVersions$Client") (nL := 3) (d := 0) (by decide) rfl rfl rfl rfl (by simp [Value.category]) (Nat.le_of_ble_eq_true rfl) rfl ?_
  intro F hV hn C R
  subst hV
  refine ws_aload_n C d_Cl_beginWrite_0 rfl ?_
  refine ws_iconst C (nI 1) d_Cl_beginWrite_1 (by decide) ?_
  refine wx_putN C hR 64 c 13 d_Cl_beginWrite_2 f_Cl_9 rfl rfl rfl rfl rfl ⟨rfl, rfl⟩ (dmC (by decide) hc) (fun S hR => ?_)
  refine ws_aload_n C d_Cl_beginWrite_5 rfl ?_
  refine ws_dup C d_Cl_beginWrite_6 rfl ?_
  refine wx_getI C hR 65 c (nI (G.1 14 c)) d_Cl_beginWrite_7 f_Cl_18 rfl rfl (dmC (by decide) hc) rfl ?_
  refine ws_top (nI (G.1 14 c)) (by simp [gN_1, gN_2, gV_1, gV_2]) ?_
  refine ws_iconst C (nI 1) d_Cl_beginWrite_10 (by decide) ?_
  refine ws_iaddN C d_Cl_beginWrite_11 ?_
  refine wx_putN C hR 65 c 14 d_Cl_beginWrite_12 f_Cl_18 rfl rfl rfl rfl rfl ⟨rfl, rfl⟩ (dmC (by decide) hc) (fun S hR => ?_)
  refine ws_aload_n C d_Cl_beginWrite_15 rfl ?_
  refine ws_iload_n C d_Cl_beginWrite_16 rfl ?_
  refine wx_putN C hR 66 c 15 d_Cl_beginWrite_17 f_Cl_21 rfl rfl rfl rfl rfl ⟨rfl, rfl⟩ (dmC (by decide) hc) (fun S hR => ?_)
  refine ws_aload_n C d_Cl_beginWrite_20 rfl ?_
  refine ws_iload_n C d_Cl_beginWrite_21 rfl ?_
  refine wx_putV C hR 67 c 16 d_Cl_beginWrite_22 f_Cl_24 rfl (by decide) hc (fun S hR => ?_)
  exact ws_vret C R d_Cl_beginWrite_25 rfl (by decide) (by decide) ⟨rfl, hR⟩
set_option maxHeartbeats 4000000 in
set_option maxRecDepth 100000 in
theorem c_Cl_beginRead {V : Ev} {h : Nat → Nat → Nat} {t : Nat → Nat} {G : GS} {S : Sto} (hR : XE (vZ V) h t G S) (hO : OK G) {c k : Nat} (hc : c < 3) : CT V mi_Cl_beginRead 0 0 [.ref (h 2 c), .int (nI k)] S (Pv (XE (vZ V) h t (gN (gV (gN G 13 c 3) 29 c (-1)) 15 c k))) := by
  refine CT.of (cc := prog_2_method_6_code) (own := "ChainVersions$Client") (nL := 2) (d := 0) (by decide) rfl rfl rfl rfl (by simp [Value.category]) (Nat.le_of_ble_eq_true rfl) rfl ?_
  intro F hV hn C R
  subst hV
  refine ws_aload_n C d_Cl_beginRead_0 rfl ?_
  refine ws_iconst C (nI 3) d_Cl_beginRead_1 (by decide) ?_
  refine wx_putN C hR 64 c 13 d_Cl_beginRead_2 f_Cl_9 rfl rfl rfl rfl rfl ⟨rfl, rfl⟩ (dmC (by decide) hc) (fun S hR => ?_)
  refine ws_aload_n C d_Cl_beginRead_5 rfl ?_
  refine ws_iconst C (-1) d_Cl_beginRead_6 (by decide) ?_
  refine wx_putV C hR 68 c 29 d_Cl_beginRead_7 f_Cl_15 rfl (by decide) hc (fun S hR => ?_)
  refine ws_aload_n C d_Cl_beginRead_10 rfl ?_
  refine ws_iload_n C d_Cl_beginRead_11 rfl ?_
  refine wx_putN C hR 66 c 15 d_Cl_beginRead_12 f_Cl_21 rfl rfl rfl rfl rfl ⟨rfl, rfl⟩ (dmC (by decide) hc) (fun S hR => ?_)
  exact ws_vret C R d_Cl_beginRead_15 rfl (by decide) (by decide) ⟨rfl, hR⟩
set_option maxHeartbeats 4000000 in
set_option maxRecDepth 100000 in
theorem c_Cl_finish {V : Ev} {h : Nat → Nat → Nat} {t : Nat → Nat} {G : GS} {S : Sto} (hR : XE (vZ V) h t G S) (hO : OK G) {c s n : Nat} {x : Int32} (hc : c < 3) : CT V mi_Cl_finish 0 0 [.ref (h 2 c), .int (nI s), .int (nI n), .int x] S (Pv (XE (vZ V) h t (gV (gN (gN G 13 c s) 18 c n) 19 c x))) := by
  refine CT.of (cc := prog_2_method_7_code) (own := "ChainVersions$Client") (nL := 4) (d := 0) (by decide) rfl rfl rfl rfl (by simp [Value.category]) (Nat.le_of_ble_eq_true rfl) rfl ?_
  intro F hV hn C R
  subst hV
  refine ws_aload_n C d_Cl_finish_0 rfl ?_
  refine ws_iload_n C d_Cl_finish_1 rfl ?_
  refine wx_putN C hR 64 c 13 d_Cl_finish_2 f_Cl_9 rfl rfl rfl rfl rfl ⟨rfl, rfl⟩ (dmC (by decide) hc) (fun S hR => ?_)
  refine ws_aload_n C d_Cl_finish_5 rfl ?_
  refine ws_iload_n C d_Cl_finish_6 rfl ?_
  refine wx_putN C hR 69 c 18 d_Cl_finish_7 f_Cl_27 rfl rfl rfl rfl rfl ⟨rfl, rfl⟩ (dmC (by decide) hc) (fun S hR => ?_)
  refine ws_aload_n C d_Cl_finish_10 rfl ?_
  refine ws_iload_n C d_Cl_finish_11 rfl ?_
  refine wx_putV C hR 70 c 19 d_Cl_finish_12 f_Cl_30 rfl (by decide) hc (fun S hR => ?_)
  exact ws_vret C R d_Cl_finish_15 rfl (by decide) (by decide) ⟨rfl, hR⟩
def mAt (G : GS) (e : Nat) (x : Int32) : Int32 := if x < 0 then -1 else match (mem (G.1 7 e))[ix x]? with
  | some m => nI m
  | none => -1
theorem mem_at {m i : Nat} (h : i < (mem m).length) : ∃ w, (mem m)[i]? = some w := ⟨_, List.getElem?_eq_getElem h⟩
set_option maxHeartbeats 4000000 in
set_option maxRecDepth 100000 in
theorem c_Cf_memberAt {V : Ev} {h : Nat → Nat → Nat} {t : Nat → Nat} {G : GS} {S : Sto} (hR : XE (vZ V) h t G S) (hO : OK G) {e : Nat} (he : 1 ≤ e ∧ e ≤ G.1 8 0) (x : Int32) {P : Sto → Prop} (hP : P S) : CT V mi_Cf_memberAt 0 0 [.ref (h 3 e), .int x] S (Pi (mAt G e x) P) := by
  refine CT.of (cc := prog_3_method_2_code) (own := "ChainVersions$Configuration") (nL := 2) (d := 0) (by decide) rfl rfl rfl rfl (by simp [Value.category]) (Nat.le_of_ble_eq_true rfl) rfl ?_
  intro F hV hn C R
  subst hV
  refine ws_iload_n C d_Cf_memberAt_0 rfl ?_
  refine ws_if_lt C d_Cf_memberAt_1 (fun h1 => ?_) (fun h1 => ?_)
  · refine ws_iconst C (-1) d_Cf_memberAt_22 (by decide) ?_
    exact ws_iret C R d_Cf_memberAt_23 rfl (by decide) (by decide) ⟨by rw [mAt, if_pos h1], hP⟩
  · obtain ⟨j, hj, rfl⟩ := nI_of h1
    have ej : ix (nI j) = j := ix_n hj
    have hl := mem_len (G.1 7 e)
    refine ws_iload_n C d_Cf_memberAt_4 rfl ?_
    refine ws_aload_n C d_Cf_memberAt_5 rfl ?_
    refine wx_getP C hR 97 e (h 9 e) d_Cf_memberAt_6 f_Cf_15 rfl rfl (dpF he) rfl ?_
    refine wx_mln C hR d_Cf_memberAt_9 he ?_
    refine ws_icmp_geN C d_Cf_memberAt_10 (by omega) (by omega) (fun h10 => ?_) (fun h10 => ?_)
    · refine ws_iconst C (-1) d_Cf_memberAt_22 (by decide) ?_
      exact ws_iret C R d_Cf_memberAt_23 rfl (by decide) (by decide) ⟨by rw [mAt, if_neg h1, ej, List.getElem?_eq_none h10], hP⟩
    · obtain ⟨w, hw⟩ := mem_at (show j < (mem (G.1 7 e)).length by omega)
      refine ws_aload_n C d_Cf_memberAt_13 rfl ?_
      refine wx_getP C hR 97 e (h 9 e) d_Cf_memberAt_14 f_Cf_15 rfl rfl (dpF he) rfl ?_
      refine ws_iload_n C d_Cf_memberAt_17 rfl ?_
      refine wx_mld C hR d_Cf_memberAt_18 he hw ?_
      refine ws_goto C d_Cf_memberAt_19 ?_
      exact ws_iret C R d_Cf_memberAt_23 rfl (by decide) (by decide) ⟨by rw [mAt, if_neg h1, ej, hw], hP⟩
set_option maxHeartbeats 4000000 in
set_option maxRecDepth 100000 in
theorem c_Cf_head {V : Ev} {h : Nat → Nat → Nat} {t : Nat → Nat} {G : GS} {S : Sto} (hR : XE (vZ V) h t G S) (hO : OK G) {e : Nat} (he : 1 ≤ e ∧ e ≤ G.1 8 0) {P : Sto → Prop} (hP : P S) : CT V mi_Cf_head 0 0 [.ref (h 3 e)] S (Pi (mAt G e (nI 0)) P) := by
  refine CT.of (cc := prog_3_method_3_code) (own := "ChainVersions$Configuration") (nL := 1) (d := 1) (by decide) rfl rfl rfl rfl (by simp [Value.category]) (Nat.le_of_ble_eq_true rfl) rfl ?_
  intro F hV hn C R
  subst hV
  refine ws_aload_n C d_Cf_head_0 rfl ?_
  refine ws_iconst C (nI 0) d_Cf_head_1 (by decide) ?_
  refine ws_callVi C w_Cf_19 (As := [_]) (c_Cf_memberAt hR hO he (nI 0) (P := fun S' => S = S') rfl) d_Cf_head_2 rfl rfl (XE.k hR (dkF he)) (Nat.le_of_ble_eq_true rfl) (by decide) (by decide) (by decide) (fun S' hS' => ?_)
  subst hS'
  exact ws_iret C R d_Cf_head_5 rfl (by decide) (by decide) ⟨rfl, hP⟩
set_option maxHeartbeats 4000000 in
set_option maxRecDepth 100000 in
theorem c_Cf_tail {V : Ev} {h : Nat → Nat → Nat} {t : Nat → Nat} {G : GS} {S : Sto} (hR : XE (vZ V) h t G S) (hO : OK G) {e : Nat} (he : 1 ≤ e ∧ e ≤ G.1 8 0) {P : Sto → Prop} (hP : P S) : CT V mi_Cf_tail 0 0 [.ref (h 3 e)] S (Pi (mAt G e (nI (mem (G.1 7 e)).length - nI 1)) P) := by
  refine CT.of (cc := prog_3_method_4_code) (own := "ChainVersions$Configuration") (nL := 1) (d := 1) (by decide) rfl rfl rfl rfl (by simp [Value.category]) (Nat.le_of_ble_eq_true rfl) rfl ?_
  intro F hV hn C R
  subst hV
  refine ws_aload_n C d_Cf_tail_0 rfl ?_
  refine ws_aload_n C d_Cf_tail_1 rfl ?_
  refine wx_getP C hR 97 e (h 9 e) d_Cf_tail_2 f_Cf_15 rfl rfl (dpF he) rfl ?_
  refine wx_mln C hR d_Cf_tail_5 he ?_
  refine ws_iconst C (nI 1) d_Cf_tail_6 (by decide) ?_
  refine ws_isub C d_Cf_tail_7 ?_
  refine ws_callVi C w_Cf_19 (As := [_]) (c_Cf_memberAt hR hO he (nI (mem (G.1 7 e)).length - nI 1) (P := fun S' => S = S') rfl) d_Cf_tail_8 rfl rfl (XE.k hR (dkF he)) (Nat.le_of_ble_eq_true rfl) (by decide) (by decide) (by decide) (fun S' hS' => ?_)
  subst hS'
  exact ws_iret C R d_Cf_tail_11 rfl (by decide) (by decide) ⟨rfl, hP⟩
