/-! the class: neighbours; nodes: what only reads -/
theorem mem_lt {m i w : Nat} (h : (mem m)[i]? = some w) : w < 2 ^ 31 := by
  have h1 := List.mem_of_getElem? h
  have h2 := List.mem_range.mp (List.mem_filter.mp h1).1
  omega
set_option maxHeartbeats 4000000 in
set_option maxRecDepth 100000 in
theorem c_Cf_neighbour_p {V : Ev} {h : Nat → Nat → Nat} {t : Nat → Nat} {G : GS} {S : Sto} (hR : XE (vZ V) h t G S) (hO : OK G) {e : Nat} (he : 1 ≤ e ∧ e ≤ G.1 8 0) {v : Nat} (hv : v < 6) (hi : isIn G e v = true) {P : Sto → Prop} (hP : P S) : CT V mi_Cf_neighbour 0 0 [.ref (h 3 e), .int (nI v), .int (-1)] S (Pi (oI (prdF G e v)) P) := by
  refine CT.of (cc := prog_3_method_5_code) (own := "ChainVersions$Configuration") (nL := 5) (d := 0) (by decide) rfl rfl rfl rfl (by simp [Value.category]) (Nat.le_of_ble_eq_true rfl) rfl ?_
  intro F hV hn C R
  subst hV
  refine ws_iconst C (nI 0) d_Cf_neighbour_0 (by decide) ?_
  refine ws_istore_n C d_Cf_neighbour_1 (by rw [hn]; decide) ?_
  have h7 : G.1 7 e ≤ 63 := hO 7 e
  have hl := mem_len (G.1 7 e)
  obtain ⟨p1, p2, p3, p4, p5⟩ := mk_2 _ (show G.1 7 e < 64 by omega) v hv hi
  have p6 := mk_3 _ (show G.1 7 e < 64 by omega) v hv
  have hpl := (List.getElem?_eq_some_iff.mp p1).1
  generalize ixo (G.1 7 e) v = p at *
  suffices hL : ∀ n i, i + n = p → WS F 2 [some (.ref (h 3 e)), some (.int (nI v)), some (.int (-1)), some (.int (nI i)), none] [] S 0 0 from hL p 0 (by omega)
  intro n
  induction n with
  | zero =>
    intro i hip
    have e1 : i = p := by omega
    subst e1
    refine ws_iload_n C d_Cf_neighbour_2 rfl ?_
    refine ws_aload_n C d_Cf_neighbour_3 rfl ?_
    refine wx_getP C hR 97 e (h 9 e) d_Cf_neighbour_4 f_Cf_15 rfl rfl (dpF he) rfl ?_
    refine wx_mln C hR d_Cf_neighbour_7 he ?_
    refine ws_icmp_geN C d_Cf_neighbour_8 (by omega) (by omega) (fun h8 => ?_) (fun h8 => ?_)
    · omega
    · refine ws_aload_n C d_Cf_neighbour_11 rfl ?_
      refine wx_getP C hR 97 e (h 9 e) d_Cf_neighbour_12 f_Cf_15 rfl rfl (dpF he) rfl ?_
      refine ws_iload_n C d_Cf_neighbour_15 rfl ?_
      refine wx_mld C hR d_Cf_neighbour_16 he p1 ?_
      refine ws_iload_n C d_Cf_neighbour_17 rfl ?_
      refine ws_icmp_neN C d_Cf_neighbour_18 (by omega) (by omega) (fun z => absurd rfl z) (fun _ => ?_)
      refine ws_iload_n C d_Cf_neighbour_21 rfl ?_
      refine ws_iload_n C d_Cf_neighbour_22 rfl ?_
      refine ws_iadd C d_Cf_neighbour_23 ?_
      refine ws_istore C d_Cf_neighbour_24 (by rw [hn]; decide) ?_
      by_cases i0 : i = 0
      · have e2 : nI i + (-1) = -1 := by rw [i0]; decide
        rw [e2]
        refine ws_iload C d_Cf_neighbour_26 rfl ?_
        refine ws_if_ltM C d_Cf_neighbour_28 ?_
        refine ws_iconst C (-1) d_Cf_neighbour_51 (by decide) ?_
        exact ws_iret C R d_Cf_neighbour_52 rfl (by decide) (by decide) ⟨by rw [prdF_M, p4 i0]; rfl, hP⟩
      · have e2 : nI i + (-1) = nI (i - 1) := dec1 (by omega)
        rw [e2]
        have p7 := p5 i0
        obtain ⟨w, hw⟩ := mem_at (show i - 1 < (mem (G.1 7 e)).length by omega)
        refine ws_iload C d_Cf_neighbour_26 rfl ?_
        refine ws_if_ltN C d_Cf_neighbour_28 (by omega) ?_
        refine ws_iload C d_Cf_neighbour_31 rfl ?_
        refine ws_aload_n C d_Cf_neighbour_33 rfl ?_
        refine wx_getP C hR 97 e (h 9 e) d_Cf_neighbour_34 f_Cf_15 rfl rfl (dpF he) rfl ?_
        refine wx_mln C hR d_Cf_neighbour_37 he ?_
        refine ws_icmp_geN C d_Cf_neighbour_38 (by omega) (by omega) (fun h38 => ?_) (fun h38 => ?_)
        · omega
        · refine ws_aload_n C d_Cf_neighbour_41 rfl ?_
          refine wx_getP C hR 97 e (h 9 e) d_Cf_neighbour_42 f_Cf_15 rfl rfl (dpF he) rfl ?_
          refine ws_iload C d_Cf_neighbour_45 rfl ?_
          refine wx_mld C hR d_Cf_neighbour_47 he hw ?_
          refine ws_goto C d_Cf_neighbour_48 ?_
          exact ws_iret C R d_Cf_neighbour_52 rfl (by decide) (by decide) ⟨by rw [prdF_M, ← p7, hw]; rfl, hP⟩
  | succ n ih =>
    intro i hip
    obtain ⟨w, hw⟩ := mem_at (show i < (mem (G.1 7 e)).length by omega)
    have hne := p6 i (by omega) (by omega)
    have hw5 : w < 2 ^ 31 := mem_lt hw
    rw [hw] at hne
    refine ws_iload_n C d_Cf_neighbour_2 rfl ?_
    refine ws_aload_n C d_Cf_neighbour_3 rfl ?_
    refine wx_getP C hR 97 e (h 9 e) d_Cf_neighbour_4 f_Cf_15 rfl rfl (dpF he) rfl ?_
    refine wx_mln C hR d_Cf_neighbour_7 he ?_
    refine ws_icmp_geN C d_Cf_neighbour_8 (by omega) (by omega) (fun h8 => ?_) (fun h8 => ?_)
    · omega
    · refine ws_aload_n C d_Cf_neighbour_11 rfl ?_
      refine wx_getP C hR 97 e (h 9 e) d_Cf_neighbour_12 f_Cf_15 rfl rfl (dpF he) rfl ?_
      refine ws_iload_n C d_Cf_neighbour_15 rfl ?_
      refine wx_mld C hR d_Cf_neighbour_16 he hw ?_
      refine ws_iload_n C d_Cf_neighbour_17 rfl ?_
      refine ws_icmp_neN C d_Cf_neighbour_18 (by omega) (by omega) (fun _ => ?_) (fun z => absurd (congrArg some z) hne)
      refine ws_iinc C _ d_Cf_neighbour_53 rfl (inc1 _) (by rw [hn]; decide) ?_
      refine ws_goto C d_Cf_neighbour_56 ?_
      exact ih (i + 1) (by omega)
set_option maxHeartbeats 4000000 in
set_option maxRecDepth 100000 in
theorem c_Cf_neighbour_s {V : Ev} {h : Nat → Nat → Nat} {t : Nat → Nat} {G : GS} {S : Sto} (hR : XE (vZ V) h t G S) (hO : OK G) {e : Nat} (he : 1 ≤ e ∧ e ≤ G.1 8 0) {v : Nat} (hv : v < 6) (hi : isIn G e v = true) {P : Sto → Prop} (hP : P S) : CT V mi_Cf_neighbour 0 0 [.ref (h 3 e), .int (nI v), .int (nI 1)] S (Pi (oI (sucF G e (5 - v))) P) := by
  refine CT.of (cc := prog_3_method_5_code) (own := "ChainVersions$Configuration") (nL := 5) (d := 0) (by decide) rfl rfl rfl rfl (by simp [Value.category]) (Nat.le_of_ble_eq_true rfl) rfl ?_
  intro F hV hn C R
  subst hV
  refine ws_iconst C (nI 0) d_Cf_neighbour_0 (by decide) ?_
  refine ws_istore_n C d_Cf_neighbour_1 (by rw [hn]; decide) ?_
  have h7 : G.1 7 e ≤ 63 := hO 7 e
  have hl := mem_len (G.1 7 e)
  obtain ⟨p1, p2, p3, p4, p5⟩ := mk_2 _ (show G.1 7 e < 64 by omega) v hv hi
  have p6 := mk_3 _ (show G.1 7 e < 64 by omega) v hv
  have hpl := (List.getElem?_eq_some_iff.mp p1).1
  generalize ixo (G.1 7 e) v = p at *
  suffices hL : ∀ n i, i + n = p → WS F 2 [some (.ref (h 3 e)), some (.int (nI v)), some (.int (nI 1)), some (.int (nI i)), none] [] S 0 0 from hL p 0 (by omega)
  intro n
  induction n with
  | zero =>
    intro i hip
    have e1 : i = p := by omega
    subst e1
    refine ws_iload_n C d_Cf_neighbour_2 rfl ?_
    refine ws_aload_n C d_Cf_neighbour_3 rfl ?_
    refine wx_getP C hR 97 e (h 9 e) d_Cf_neighbour_4 f_Cf_15 rfl rfl (dpF he) rfl ?_
    refine wx_mln C hR d_Cf_neighbour_7 he ?_
    refine ws_icmp_geN C d_Cf_neighbour_8 (by omega) (by omega) (fun h8 => ?_) (fun h8 => ?_)
    · omega
    · refine ws_aload_n C d_Cf_neighbour_11 rfl ?_
      refine wx_getP C hR 97 e (h 9 e) d_Cf_neighbour_12 f_Cf_15 rfl rfl (dpF he) rfl ?_
      refine ws_iload_n C d_Cf_neighbour_15 rfl ?_
      refine wx_mld C hR d_Cf_neighbour_16 he p1 ?_
      refine ws_iload_n C d_Cf_neighbour_17 rfl ?_
      refine ws_icmp_neN C d_Cf_neighbour_18 (by omega) (by omega) (fun z => absurd rfl z) (fun _ => ?_)
      refine ws_iload_n C d_Cf_neighbour_21 rfl ?_
      refine ws_iload_n C d_Cf_neighbour_22 rfl ?_
      refine ws_iaddN C d_Cf_neighbour_23 ?_
      refine ws_istore C d_Cf_neighbour_24 (by rw [hn]; decide) ?_
      cases hq : (mem (G.1 7 e))[i + 1]? with
      | none =>
        have hq1 := List.getElem?_eq_none_iff.mp hq
        refine ws_iload C d_Cf_neighbour_26 rfl ?_
        refine ws_if_ltN C d_Cf_neighbour_28 (by omega) ?_
        refine ws_iload C d_Cf_neighbour_31 rfl ?_
        refine ws_aload_n C d_Cf_neighbour_33 rfl ?_
        refine wx_getP C hR 97 e (h 9 e) d_Cf_neighbour_34 f_Cf_15 rfl rfl (dpF he) rfl ?_
        refine wx_mln C hR d_Cf_neighbour_37 he ?_
        refine ws_icmp_geN C d_Cf_neighbour_38 (by omega) (by omega) (fun h38 => ?_) (fun h38 => ?_)
        · refine ws_iconst C (-1) d_Cf_neighbour_51 (by decide) ?_
          exact ws_iret C R d_Cf_neighbour_52 rfl (by decide) (by decide) ⟨by rw [sucF_M, ← p3, hq]; rfl, hP⟩
        · omega
      | some w =>
        have hq1 := (List.getElem?_eq_some_iff.mp hq).1
        refine ws_iload C d_Cf_neighbour_26 rfl ?_
        refine ws_if_ltN C d_Cf_neighbour_28 (by omega) ?_
        refine ws_iload C d_Cf_neighbour_31 rfl ?_
        refine ws_aload_n C d_Cf_neighbour_33 rfl ?_
        refine wx_getP C hR 97 e (h 9 e) d_Cf_neighbour_34 f_Cf_15 rfl rfl (dpF he) rfl ?_
        refine wx_mln C hR d_Cf_neighbour_37 he ?_
        refine ws_icmp_geN C d_Cf_neighbour_38 (by omega) (by omega) (fun h38 => ?_) (fun h38 => ?_)
        · omega
        · refine ws_aload_n C d_Cf_neighbour_41 rfl ?_
          refine wx_getP C hR 97 e (h 9 e) d_Cf_neighbour_42 f_Cf_15 rfl rfl (dpF he) rfl ?_
          refine ws_iload C d_Cf_neighbour_45 rfl ?_
          refine wx_mld C hR d_Cf_neighbour_47 he hq ?_
          refine ws_goto C d_Cf_neighbour_48 ?_
          exact ws_iret C R d_Cf_neighbour_52 rfl (by decide) (by decide) ⟨by rw [sucF_M, ← p3, hq]; rfl, hP⟩
  | succ n ih =>
    intro i hip
    obtain ⟨w, hw⟩ := mem_at (show i < (mem (G.1 7 e)).length by omega)
    have hne := p6 i (by omega) (by omega)
    have hw5 : w < 2 ^ 31 := mem_lt hw
    rw [hw] at hne
    refine ws_iload_n C d_Cf_neighbour_2 rfl ?_
    refine ws_aload_n C d_Cf_neighbour_3 rfl ?_
    refine wx_getP C hR 97 e (h 9 e) d_Cf_neighbour_4 f_Cf_15 rfl rfl (dpF he) rfl ?_
    refine wx_mln C hR d_Cf_neighbour_7 he ?_
    refine ws_icmp_geN C d_Cf_neighbour_8 (by omega) (by omega) (fun h8 => ?_) (fun h8 => ?_)
    · omega
    · refine ws_aload_n C d_Cf_neighbour_11 rfl ?_
      refine wx_getP C hR 97 e (h 9 e) d_Cf_neighbour_12 f_Cf_15 rfl rfl (dpF he) rfl ?_
      refine ws_iload_n C d_Cf_neighbour_15 rfl ?_
      refine wx_mld C hR d_Cf_neighbour_16 he hw ?_
      refine ws_iload_n C d_Cf_neighbour_17 rfl ?_
      refine ws_icmp_neN C d_Cf_neighbour_18 (by omega) (by omega) (fun _ => ?_) (fun z => absurd (congrArg some z) hne)
      refine ws_iinc C _ d_Cf_neighbour_53 rfl (inc1 _) (by rw [hn]; decide) ?_
      refine ws_goto C d_Cf_neighbour_56 ?_
      exact ih (i + 1) (by omega)
set_option maxHeartbeats 4000000 in
set_option maxRecDepth 100000 in
theorem c_Nd_isHead {V : Ev} {h : Nat → Nat → Nat} {t : Nat → Nat} {G : GS} {S : Sto} (hR : XE (vZ V) h t G S) (hO : OK G) (hW : WF G) {v : Nat} (hv : v < G.1 0 0) {P : Sto → Prop} (hP : P S) : CT V mi_Nd_isHead 0 0 [.ref (h 4 v)] S (Pi (bI (decide (prd G v = none))) P) := by
  refine CT.of (cc := prog_5_method_2_code) (own := "ChainVersions$Node") (nL := 1) (d := 2) (by decide) rfl rfl rfl rfl (by simp [Value.category]) (Nat.le_of_ble_eq_true rfl) rfl ?_
  intro F hV hn C R
  subst hV
  have hv6 := hW.m6 hv
  have hvi := (hW.2.2.1 v hv).2.2
  refine ws_aload_n C d_Nd_isHead_0 rfl ?_
  refine wx_getP C hR 130 v (h 3 (G.1 3 v)) d_Nd_isHead_1 f_Nd_25 rfl rfl (dpN (by decide) hv) rfl ?_
  refine ws_callVi C w_Nd_32 (As := []) (c_Cf_head hR hO (hW.vw hv) (P := fun S' => S = S') rfl) d_Nd_isHead_4 rfl rfl (XE.k hR (dkF (hW.vw hv))) (Nat.le_of_ble_eq_true rfl) (by decide) (by decide) (by decide) (fun S' hS' => ?_)
  subst hS'
  refine ws_aload_n C d_Nd_isHead_7 rfl ?_
  refine wx_getI C hR 128 v (nI v) d_Nd_isHead_8 f_Nd_21 rfl rfl (dmN (by decide) hv) rfl ?_
  refine ws_icmp_ne C d_Nd_isHead_11 (fun h11 => ?_) (fun h11 => ?_)
  · refine ws_iconst C (nI 0) d_Nd_isHead_18 (by decide) ?_
    exact ws_zret C R d_Nd_isHead_19 rfl (by decide) (by decide) (by decide) ⟨by rw [show decide (prd G v = none) = false from decide_eq_false (fun z => h11 ((hd_iff hO hv6 hvi).mpr z))]; rfl, hP⟩
  · refine ws_iconst C (nI 1) d_Nd_isHead_14 (by decide) ?_
    refine ws_goto C d_Nd_isHead_15 ?_
    exact ws_zret C R d_Nd_isHead_19 rfl (by decide) (by decide) (by decide) ⟨by rw [show decide (prd G v = none) = true from decide_eq_true ((hd_iff hO hv6 hvi).mp h11)]; rfl, hP⟩
set_option maxHeartbeats 4000000 in
set_option maxRecDepth 100000 in
theorem c_Nd_isTail {V : Ev} {h : Nat → Nat → Nat} {t : Nat → Nat} {G : GS} {S : Sto} (hR : XE (vZ V) h t G S) (hO : OK G) (hW : WF G) {v : Nat} (hv : v < G.1 0 0) {P : Sto → Prop} (hP : P S) : CT V mi_Nd_isTail 0 0 [.ref (h 4 v)] S (Pi (bI (decide (suc G v = none))) P) := by
  refine CT.of (cc := prog_5_method_3_code) (own := "ChainVersions$Node") (nL := 1) (d := 2) (by decide) rfl rfl rfl rfl (by simp [Value.category]) (Nat.le_of_ble_eq_true rfl) rfl ?_
  intro F hV hn C R
  subst hV
  have hv6 := hW.m6 hv
  have hvi := (hW.2.2.1 v hv).2.2
  refine ws_aload_n C d_Nd_isTail_0 rfl ?_
  refine wx_getP C hR 130 v (h 3 (G.1 3 v)) d_Nd_isTail_1 f_Nd_25 rfl rfl (dpN (by decide) hv) rfl ?_
  refine ws_callVi C w_Nd_38 (As := []) (c_Cf_tail hR hO (hW.vw hv) (P := fun S' => S = S') rfl) d_Nd_isTail_4 rfl rfl (XE.k hR (dkF (hW.vw hv))) (Nat.le_of_ble_eq_true rfl) (by decide) (by decide) (by decide) (fun S' hS' => ?_)
  subst hS'
  refine ws_aload_n C d_Nd_isTail_7 rfl ?_
  refine wx_getI C hR 128 v (nI v) d_Nd_isTail_8 f_Nd_21 rfl rfl (dmN (by decide) hv) rfl ?_
  refine ws_icmp_ne C d_Nd_isTail_11 (fun h11 => ?_) (fun h11 => ?_)
  · refine ws_iconst C (nI 0) d_Nd_isTail_18 (by decide) ?_
    exact ws_zret C R d_Nd_isTail_19 rfl (by decide) (by decide) (by decide) ⟨by rw [show decide (suc G v = none) = false from decide_eq_false (fun z => h11 ((tl_iff hO hv6 hvi).mpr z))]; rfl, hP⟩
  · refine ws_iconst C (nI 1) d_Nd_isTail_14 (by decide) ?_
    refine ws_goto C d_Nd_isTail_15 ?_
    exact ws_zret C R d_Nd_isTail_19 rfl (by decide) (by decide) (by decide) ⟨by rw [show decide (suc G v = none) = true from decide_eq_true ((tl_iff hO hv6 hvi).mp h11)]; rfl, hP⟩
set_option maxHeartbeats 4000000 in
set_option maxRecDepth 100000 in
theorem c_Nd_predecessor {V : Ev} {h : Nat → Nat → Nat} {t : Nat → Nat} {G : GS} {S : Sto} (hR : XE (vZ V) h t G S) (hO : OK G) (hW : WF G) {v : Nat} (hv : v < G.1 0 0) {P : Sto → Prop} (hP : P S) : CT V mi_Nd_predecessor 0 0 [.ref (h 4 v)] S (Pi (oI (prd G v)) P) := by
  refine CT.of (cc := prog_5_method_4_code) (own := "ChainVersions$Node") (nL := 1) (d := 1) (by decide) rfl rfl rfl rfl (by simp [Value.category]) (Nat.le_of_ble_eq_true rfl) rfl ?_
  intro F hV hn C R
  subst hV
  have hv6 := hW.m6 hv
  have hvi := (hW.2.2.1 v hv).2.2
  refine ws_aload_n C d_Nd_predecessor_0 rfl ?_
  refine wx_getP C hR 130 v (h 3 (G.1 3 v)) d_Nd_predecessor_1 f_Nd_25 rfl rfl (dpN (by decide) hv) rfl ?_
  refine ws_aload_n C d_Nd_predecessor_4 rfl ?_
  refine wx_getI C hR 128 v (nI v) d_Nd_predecessor_5 f_Nd_21 rfl rfl (dmN (by decide) hv) rfl ?_
  refine ws_iconst C (-1) d_Nd_predecessor_8 (by decide) ?_
  refine ws_callVi C w_Nd_41 (As := [_, _]) (c_Cf_neighbour_p hR hO (hW.vw hv) hv6 hvi (P := fun S' => S = S') rfl) d_Nd_predecessor_9 rfl rfl (XE.k hR (dkF (hW.vw hv))) (Nat.le_of_ble_eq_true rfl) (by decide) (by decide) (by decide) (fun S' hS' => ?_)
  subst hS'
  exact ws_iret C R d_Nd_predecessor_12 rfl (by decide) (by decide) ⟨rfl, hP⟩
set_option maxHeartbeats 4000000 in
set_option maxRecDepth 100000 in
theorem c_Nd_successor {V : Ev} {h : Nat → Nat → Nat} {t : Nat → Nat} {G : GS} {S : Sto} (hR : XE (vZ V) h t G S) (hO : OK G) (hW : WF G) {v : Nat} (hv : v < G.1 0 0) {P : Sto → Prop} (hP : P S) : CT V mi_Nd_successor 0 0 [.ref (h 4 v)] S (Pi (oI (suc G v)) P) := by
  refine CT.of (cc := prog_5_method_5_code) (own := "ChainVersions$Node") (nL := 1) (d := 1) (by decide) rfl rfl rfl rfl (by simp [Value.category]) (Nat.le_of_ble_eq_true rfl) rfl ?_
  intro F hV hn C R
  subst hV
  have hv6 := hW.m6 hv
  have hvi := (hW.2.2.1 v hv).2.2
  refine ws_aload_n C d_Nd_successor_0 rfl ?_
  refine wx_getP C hR 130 v (h 3 (G.1 3 v)) d_Nd_successor_1 f_Nd_25 rfl rfl (dpN (by decide) hv) rfl ?_
  refine ws_aload_n C d_Nd_successor_4 rfl ?_
  refine wx_getI C hR 128 v (nI v) d_Nd_successor_5 f_Nd_21 rfl rfl (dmN (by decide) hv) rfl ?_
  refine ws_iconst C (nI 1) d_Nd_successor_8 (by decide) ?_
  refine ws_callVi C w_Nd_41 (As := [_, _]) (c_Cf_neighbour_s hR hO (hW.vw hv) hv6 hvi (P := fun S' => S = S') rfl) d_Nd_successor_9 rfl rfl (XE.k hR (dkF (hW.vw hv))) (Nat.le_of_ble_eq_true rfl) (by decide) (by decide) (by decide) (fun S' hS' => ?_)
  subst hS'
  exact ws_iret C R d_Nd_successor_12 rfl (by decide) (by decide) ⟨rfl, hP⟩
set_option maxHeartbeats 4000000 in
set_option maxRecDepth 100000 in
theorem c_Nd_isFull {V : Ev} {h : Nat → Nat → Nat} {t : Nat → Nat} {G : GS} {S : Sto} (hR : XE (vZ V) h t G S) (hO : OK G) (hW : WF G) {v : Nat} (hv : v < G.1 0 0) {P : Sto → Prop} (hP : P S) : CT V mi_Nd_isFull 0 0 [.ref (h 4 v)] S (Pi (bI (decide (8 ≤ G.1 4 v - G.1 5 v ∨ 100 ≤ G.1 4 v))) P) := by
  refine CT.of (cc := prog_5_method_6_code) (own := "ChainVersions$Node") (nL := 1) (d := 0) (by decide) rfl rfl rfl rfl (by simp [Value.category]) (Nat.le_of_ble_eq_true rfl) rfl ?_
  intro F hV hn C R
  subst hV
  have h45 := hW.2.2.2.2.2 v
  have hb4 : G.1 4 v ≤ 100 := hO 4 v
  refine ws_aload_n C d_Nd_isFull_0 rfl ?_
  refine wx_getI C hR 134 v (nI (G.1 4 v)) d_Nd_isFull_1 f_Nd_45 rfl rfl (dmN (by decide) hv) rfl ?_
  refine ws_aload_n C d_Nd_isFull_4 rfl ?_
  refine wx_getI C hR 135 v (nI (G.1 5 v)) d_Nd_isFull_5 f_Nd_48 rfl rfl (dmN (by decide) hv) rfl ?_
  refine ws_isubN C d_Nd_isFull_8 (by first | omega | exact okl hO _ _) ?_
  refine ws_bipush C (nI 8) d_Nd_isFull_9 (by decide) ?_
  refine ws_icmp_geN C d_Nd_isFull_11 (by first | omega | exact okl hO _ _) (by first | omega | exact okl hO _ _) (fun h11 => ?_) (fun h11 => ?_)
  · refine ws_iconst C (nI 1) d_Nd_isFull_23 (by decide) ?_
    refine ws_goto C d_Nd_isFull_24 ?_
    exact ws_zret C R d_Nd_isFull_28 rfl (by decide) (by decide) (by decide) ⟨by rw [show decide (8 ≤ G.1 4 v - G.1 5 v ∨ 100 ≤ G.1 4 v) = true from decide_eq_true (by omega)]; rfl, hP⟩
  · refine ws_aload_n C d_Nd_isFull_14 rfl ?_
    refine wx_getI C hR 134 v (nI (G.1 4 v)) d_Nd_isFull_15 f_Nd_45 rfl rfl (dmN (by decide) hv) rfl ?_
    refine ws_bipush C (nI 100) d_Nd_isFull_18 (by decide) ?_
    refine ws_icmp_ltN C d_Nd_isFull_20 (by first | omega | exact okl hO _ _) (by first | omega | exact okl hO _ _) (fun h20 => ?_) (fun h20 => ?_)
    · refine ws_iconst C (nI 0) d_Nd_isFull_27 (by decide) ?_
      exact ws_zret C R d_Nd_isFull_28 rfl (by decide) (by decide) (by decide) ⟨by rw [show decide (8 ≤ G.1 4 v - G.1 5 v ∨ 100 ≤ G.1 4 v) = false from decide_eq_false (by omega)]; rfl, hP⟩
    · refine ws_iconst C (nI 1) d_Nd_isFull_23 (by decide) ?_
      refine ws_goto C d_Nd_isFull_24 ?_
      exact ws_zret C R d_Nd_isFull_28 rfl (by decide) (by decide) (by decide) ⟨by rw [show decide (8 ≤ G.1 4 v - G.1 5 v ∨ 100 ≤ G.1 4 v) = true from decide_eq_true (by omega)]; rfl, hP⟩
def upA (r : Rg) (G : GS) (v n : Nat) : Option Nat := if 1 ≤ n ∧ n ≤ G.1 4 v then some (r.2.2 v n) else none
theorem upA_s {r : Rg} {G : GS} {v n : Nat} (h : 1 ≤ n ∧ n ≤ G.1 4 v) : upA r G v n = some (r.2.2 v n) := if_pos h
theorem upA_n {r : Rg} {G : GS} {v n : Nat} (h : ¬ (1 ≤ n ∧ n ≤ G.1 4 v)) : upA r G v n = none := if_neg h
set_option maxHeartbeats 4000000 in
set_option maxRecDepth 100000 in
theorem c_Nd_updateAt {V : Ev} {h : Nat → Nat → Nat} {t : Nat → Nat} {G : GS} {S : Sto} {r : Rg} (hR : XR (vZ V) h t r G S) (hO : OK G) {v : Nat} (hv : v < G.1 0 0) {n : Nat} (hn2 : n < 2 ^ 31) {P : Sto → Prop} (hP : P S) : CT V mi_Nd_updateAt 0 0 [.ref (h 4 v), .int (nI n)] S (Pr (upA r G v n) P) := by
  refine CT.of (cc := prog_5_method_8_code) (own := "ChainVersions$Node") (nL := 2) (d := 0) (by decide) rfl rfl rfl rfl (by simp [Value.category]) (Nat.le_of_ble_eq_true rfl) rfl ?_
  intro F hV hn C R
  subst hV
  have hb4 : G.1 4 v ≤ 100 := hO 4 v
  refine ws_iload_n C d_Nd_updateAt_0 rfl ?_
  refine ws_iconst C (nI 1) d_Nd_updateAt_1 (by decide) ?_
  refine ws_icmp_ltN C d_Nd_updateAt_2 (by first | omega | exact okl hO _ _) (by first | omega | exact okl hO _ _) (fun h2 => ?_) (fun h2 => ?_)
  · refine ws_null C d_Nd_updateAt_24 ?_
    exact ws_aret C R d_Nd_updateAt_25 rfl (Or.inl ⟨_, rfl⟩) (Or.inl rfl) (by decide) (by decide) ⟨by rw [upA_n (by omega), va_rf], hP⟩
  · refine ws_iload_n C d_Nd_updateAt_5 rfl ?_
    refine ws_aload_n C d_Nd_updateAt_6 rfl ?_
    refine wx_getI C ⟨r, hR⟩ 134 v (nI (G.1 4 v)) d_Nd_updateAt_7 f_Nd_45 rfl rfl (dmN (by decide) hv) rfl ?_
    refine ws_icmp_gtN C d_Nd_updateAt_10 (by first | omega | exact okl hO _ _) (by first | omega | exact okl hO _ _) (fun h10 => ?_) (fun h10 => ?_)
    · refine ws_null C d_Nd_updateAt_24 ?_
      exact ws_aret C R d_Nd_updateAt_25 rfl (Or.inl ⟨_, rfl⟩) (Or.inl rfl) (by decide) (by decide) ⟨by rw [upA_n (by omega), va_rf], hP⟩
    · refine ws_aload_n C d_Nd_updateAt_13 rfl ?_
      refine wx_getP C ⟨r, hR⟩ 129 v (h 13 v) d_Nd_updateAt_14 f_Nd_11 rfl rfl (dpN (by decide) hv) rfl ?_
      refine ws_iload_n C d_Nd_updateAt_17 rfl ?_
      refine ws_iconst C (nI 1) d_Nd_updateAt_18 (by decide) ?_
      refine ws_isubN C d_Nd_updateAt_19 (by first | omega | exact okl hO _ _) ?_
      obtain ⟨q1, q2⟩ := hR.2.2.2.2.1 v n hv (by omega) (by omega)
      refine ws_aald C (kd := 13) (by decide) (by decide) d_Nd_updateAt_20 (hR.1.1 13 v (dkG hv)) (by rw [hR.2.2.2.1.1.2.2 v hv]; omega) (by rw [hR.2.2.2.1.1.2.2 v hv]; decide) ?_
      rw [q1]
      refine ws_goto C d_Nd_updateAt_21 ?_
      exact ws_aret C R d_Nd_updateAt_25 rfl (Or.inl ⟨_, rfl⟩) (Or.inr ⟨_, rfl⟩) (by decide) (by decide) ⟨by rw [upA_s (by omega)], hP⟩
set_option maxHeartbeats 4000000 in
set_option maxRecDepth 100000 in
theorem c_Nd_valueOf {V : Ev} {h : Nat → Nat → Nat} {t : Nat → Nat} {G : GS} {S : Sto} {r : Rg} (hR : XR (vZ V) h t r G S) (hO : OK G) {v : Nat} (hv : v < G.1 0 0) {n : Nat} (hn2 : n < 2 ^ 31) {P : Sto → Prop} (hP : P S) : CT V mi_Nd_valueOf 0 0 [.ref (h 4 v), .int (nI n)] S (Pi (if 1 ≤ n ∧ n ≤ G.1 4 v then G.2 10 (128 * v + n) else 0) P) := by
  refine CT.of (cc := prog_5_method_9_code) (own := "ChainVersions$Node") (nL := 3) (d := 1) (by decide) rfl rfl rfl rfl (by simp [Value.category]) (Nat.le_of_ble_eq_true rfl) rfl ?_
  intro F hV hn C R
  subst hV
  refine ws_aload_n C d_Nd_valueOf_0 rfl ?_
  refine ws_iload_n C d_Nd_valueOf_1 rfl ?_
  refine ws_callVr C w_Nd_51 (As := [_]) (c_Nd_updateAt hR hO hv hn2 (P := fun S' => S = S') rfl) d_Nd_valueOf_2 rfl rfl (XE.k ⟨r, hR⟩ (dkN hv)) (Nat.le_of_ble_eq_true rfl) (by decide) (by decide) (by decide) (fun S' hS' => ?_)
  subst hS'
  by_cases hu : 1 ≤ n ∧ n ≤ G.1 4 v
  · rw [upA_s hu]
    have hU := (hR.2.2.2.2.1 v n hv hu.1 hu.2).2
    refine ws_astore_n C d_Nd_valueOf_5 (by rw [hn]; decide) ?_
    refine ws_aload_n C d_Nd_valueOf_6 rfl ?_
    refine ws_ifnonnull C d_Nd_valueOf_7 ?_
    refine ws_aload_n C d_Nd_valueOf_14 rfl ?_
    refine wx_up1 C hU d_Nd_valueOf_15 f_Nd_55 ?_
    exact ws_iret C R d_Nd_valueOf_18 rfl (by decide) (by decide) ⟨by rw [if_pos hu], hP⟩
  · rw [upA_n hu]
    refine ws_astore_nN C d_Nd_valueOf_5 (by rw [hn]; decide) ?_
    refine ws_aload_nN C d_Nd_valueOf_6 rfl ?_
    refine ws_ifnonnullN C d_Nd_valueOf_7 ?_
    refine ws_iconst C (nI 0) d_Nd_valueOf_10 (by decide) ?_
    refine ws_goto C d_Nd_valueOf_11 ?_
    exact ws_iret C R d_Nd_valueOf_18 rfl (by decide) (by decide) ⟨by rw [if_neg hu]; rfl, hP⟩
set_option maxHeartbeats 4000000 in
set_option maxRecDepth 100000 in
theorem c_Nd_isOfKey {V : Ev} {h : Nat → Nat → Nat} {t : Nat → Nat} {G : GS} {S : Sto} {r : Rg} (hR : XR (vZ V) h t r G S) (hO : OK G) {v : Nat} (hv : v < G.1 0 0) {n k : Nat} (hn2 : n < 2 ^ 31) (hk : k ≤ 3) {P : Sto → Prop} (hP : P S) : CT V mi_Nd_isOfKey 0 0 [.ref (h 4 v), .int (nI n), .int (nI k)] S (Pi (bI (decide (1 ≤ n ∧ n ≤ G.1 4 v ∧ G.1 9 (128 * v + n) = k))) P) := by
  refine CT.of (cc := prog_5_method_10_code) (own := "ChainVersions$Node") (nL := 4) (d := 1) (by decide) rfl rfl rfl rfl (by simp [Value.category]) (Nat.le_of_ble_eq_true rfl) rfl ?_
  intro F hV hn C R
  subst hV
  refine ws_aload_n C d_Nd_isOfKey_0 rfl ?_
  refine ws_iload_n C d_Nd_isOfKey_1 rfl ?_
  refine ws_callVr C w_Nd_51 (As := [_]) (c_Nd_updateAt hR hO hv hn2 (P := fun S' => S = S') rfl) d_Nd_isOfKey_2 rfl rfl (XE.k ⟨r, hR⟩ (dkN hv)) (Nat.le_of_ble_eq_true rfl) (by decide) (by decide) (by decide) (fun S' hS' => ?_)
  subst hS'
  by_cases hu : 1 ≤ n ∧ n ≤ G.1 4 v
  · rw [upA_s hu]
    have hU := (hR.2.2.2.2.1 v n hv hu.1 hu.2).2
    refine ws_astore_n C d_Nd_isOfKey_5 (by rw [hn]; decide) ?_
    refine ws_aload_n C d_Nd_isOfKey_6 rfl ?_
    refine ws_ifnull C d_Nd_isOfKey_7 ?_
    refine ws_aload_n C d_Nd_isOfKey_10 rfl ?_
    refine wx_up0 C hU d_Nd_isOfKey_11 f_Nd_58 ?_
    refine ws_iload_n C d_Nd_isOfKey_14 rfl ?_
    refine ws_icmp_neN C d_Nd_isOfKey_15 (by first | omega | exact okl hO _ _) (by first | omega | exact okl hO _ _) (fun h15 => ?_) (fun h15 => ?_)
    · refine ws_iconst C (nI 0) d_Nd_isOfKey_22 (by decide) ?_
      exact ws_zret C R d_Nd_isOfKey_23 rfl (by decide) (by decide) (by decide) ⟨by rw [show decide (1 ≤ n ∧ n ≤ G.1 4 v ∧ G.1 9 (128 * v + n) = k) = false from decide_eq_false (fun z => h15 z.2.2)]; rfl, hP⟩
    · refine ws_iconst C (nI 1) d_Nd_isOfKey_18 (by decide) ?_
      refine ws_goto C d_Nd_isOfKey_19 ?_
      exact ws_zret C R d_Nd_isOfKey_23 rfl (by decide) (by decide) (by decide) ⟨by rw [show decide (1 ≤ n ∧ n ≤ G.1 4 v ∧ G.1 9 (128 * v + n) = k) = true from decide_eq_true ⟨hu.1, hu.2, h15⟩]; rfl, hP⟩
  · rw [upA_n hu]
    refine ws_astore_nN C d_Nd_isOfKey_5 (by rw [hn]; decide) ?_
    refine ws_aload_nN C d_Nd_isOfKey_6 rfl ?_
    refine ws_ifnullN C d_Nd_isOfKey_7 ?_
    refine ws_iconst C (nI 0) d_Nd_isOfKey_22 (by decide) ?_
    exact ws_zret C R d_Nd_isOfKey_23 rfl (by decide) (by decide) (by decide) ⟨by rw [show decide (1 ≤ n ∧ n ≤ G.1 4 v ∧ G.1 9 (128 * v + n) = k) = false from decide_eq_false (fun z => hu ⟨z.1, z.2.1⟩)]; rfl, hP⟩
set_option maxHeartbeats 4000000 in
set_option maxRecDepth 100000 in
theorem c_Nd_numberOf {V : Ev} {h : Nat → Nat → Nat} {t : Nat → Nat} {G : GS} {S : Sto} {r : Rg} (hR : XR (vZ V) h t r G S) (hO : OK G) {v : Nat} (hv : v < G.1 0 0) {c : Nat} (hc : c < 3) {P : Sto → Prop} (hP : P S) : CT V mi_Nd_numberOf 0 0 [.ref (h 4 v), .int (nI c), .int (nI (G.1 14 c))] S (Pi (oI (fwF G v c (G.1 4 v) 1)) P) := by
  refine CT.of (cc := prog_5_method_11_code) (own := "ChainVersions$Node") (nL := 5) (d := 1) (by decide) rfl rfl rfl rfl (by simp [Value.category]) (Nat.le_of_ble_eq_true rfl) rfl ?_
  intro F hV hn C R
  subst hV
  have hb4 : G.1 4 v ≤ 100 := hO 4 v
  refine ws_iconst C (nI 1) d_Nd_numberOf_0 (by decide) ?_
  refine ws_istore_n C d_Nd_numberOf_1 (by rw [hn]; decide) ?_
  suffices hL : ∀ m n (y : Option Value), n + m = G.1 4 v + 1 → 1 ≤ n → fwF G v c m n = fwF G v c (G.1 4 v) 1 → WS F 2 [some (.ref (h 4 v)), some (.int (nI c)), some (.int (nI (G.1 14 c))), some (.int (nI n)), y] [] S 0 0 from hL (G.1 4 v) 1 _ (by omega) (by omega) rfl
  intro m
  induction m with
  | zero =>
    intro n y hn1 h1 hp
    refine ws_iload_n C d_Nd_numberOf_2 rfl ?_
    refine ws_aload_n C d_Nd_numberOf_3 rfl ?_
    refine wx_getI C ⟨r, hR⟩ 134 v (nI (G.1 4 v)) d_Nd_numberOf_4 f_Nd_45 rfl rfl (dmN (by decide) hv) rfl ?_
    refine ws_icmp_gtN C d_Nd_numberOf_7 (by first | omega | exact okl hO _ _) (by first | omega | exact okl hO _ _) (fun h7 => ?_) (fun h7 => ?_)
    · refine ws_iconst C (-1) d_Nd_numberOf_48 (by decide) ?_
      exact ws_iret C R d_Nd_numberOf_49 rfl (by decide) (by decide) ⟨by rw [← hp]; rfl, hP⟩
    · omega
  | succ m ih =>
    intro n y hn1 h1 hp
    refine ws_iload_n C d_Nd_numberOf_2 rfl ?_
    refine ws_aload_n C d_Nd_numberOf_3 rfl ?_
    refine wx_getI C ⟨r, hR⟩ 134 v (nI (G.1 4 v)) d_Nd_numberOf_4 f_Nd_45 rfl rfl (dmN (by decide) hv) rfl ?_
    refine ws_icmp_gtN C d_Nd_numberOf_7 (by first | omega | exact okl hO _ _) (by first | omega | exact okl hO _ _) (fun h7 => ?_) (fun h7 => ?_)
    · omega
    · refine ws_aload_n C d_Nd_numberOf_10 rfl ?_
      refine ws_iload_n C d_Nd_numberOf_11 rfl ?_
      refine ws_callVr C w_Nd_51 (As := [_]) (c_Nd_updateAt hR hO hv (show n < 2 ^ 31 by omega) (P := fun S' => S = S') rfl) d_Nd_numberOf_12 rfl rfl (XE.k ⟨r, hR⟩ (dkN hv)) (Nat.le_of_ble_eq_true rfl) (by decide) (by decide) (by decide) (fun S' hS' => ?_)
      subst hS'
      rw [upA_s (show 1 ≤ n ∧ n ≤ G.1 4 v by omega)]
      have hU := (hR.2.2.2.2.1 v n hv (by omega) (by omega)).2
      have hb11 : G.1 11 (128 * v + n) ≤ 2 := hO 11 _
      have hb12 : G.1 12 (128 * v + n) ≤ 600 := hO 12 _
      have hb14 : G.1 14 c ≤ 600 := hO 14 c
      refine ws_astore C d_Nd_numberOf_15 (by rw [hn]; decide) ?_
      refine ws_aload C d_Nd_numberOf_17 rfl ?_
      refine ws_ifnull C d_Nd_numberOf_19 ?_
      refine ws_aload C d_Nd_numberOf_22 rfl ?_
      refine wx_up2 C hU d_Nd_numberOf_24 f_Nd_61 ?_
      refine ws_iload_n C d_Nd_numberOf_27 rfl ?_
      refine ws_icmp_neN C d_Nd_numberOf_28 (by first | omega | exact okl hO _ _) (by first | omega | exact okl hO _ _) (fun h28 => ?_) (fun h28 => ?_)
      · refine ws_iinc C _ d_Nd_numberOf_42 rfl (inc1 _) (by rw [hn]; decide) ?_
        refine ws_goto C d_Nd_numberOf_45 ?_
        exact ih (n + 1) _ (by omega) (by omega) (by rw [← hp, fwF, if_neg (by omega)])
      · refine ws_aload C d_Nd_numberOf_31 rfl ?_
        refine wx_up3 C hU d_Nd_numberOf_33 f_Nd_64 ?_
        refine ws_iload_n C d_Nd_numberOf_36 rfl ?_
        refine ws_icmp_neN C d_Nd_numberOf_37 (by first | omega | exact okl hO _ _) (by first | omega | exact okl hO _ _) (fun h37 => ?_) (fun h37 => ?_)
        · refine ws_iinc C _ d_Nd_numberOf_42 rfl (inc1 _) (by rw [hn]; decide) ?_
          refine ws_goto C d_Nd_numberOf_45 ?_
          exact ih (n + 1) _ (by omega) (by omega) (by rw [← hp, fwF, if_neg (by omega)])
        · refine ws_iload_n C d_Nd_numberOf_40 rfl ?_
          exact ws_iret C R d_Nd_numberOf_41 rfl (by decide) (by decide) ⟨by rw [← hp, fwF, if_pos ⟨h28, h37⟩]; rfl, hP⟩
set_option maxHeartbeats 4000000 in
set_option maxRecDepth 100000 in
theorem c_Nd_cleanVersion {V : Ev} {h : Nat → Nat → Nat} {t : Nat → Nat} {G : GS} {S : Sto} {r : Rg} (hR : XR (vZ V) h t r G S) (hO : OK G) (hW : WF G) {v : Nat} (hv : v < G.1 0 0) {k : Nat} (hk : k ≤ 3) {P : Sto → Prop} (hP : P S) : CT V mi_Nd_cleanVersion 0 0 [.ref (h 4 v), .int (nI k)] S (Pi (nI (clN G v k)) P) := by
  refine CT.of (cc := prog_5_method_12_code) (own := "ChainVersions$Node") (nL := 3) (d := 2) (by decide) rfl rfl rfl rfl (by simp [Value.category]) (Nat.le_of_ble_eq_true rfl) rfl ?_
  intro F hV hn C R
  subst hV
  have hb4 : G.1 4 v ≤ 100 := hO 4 v
  have h45 := hW.2.2.2.2.2 v
  refine ws_aload_n C d_Nd_cleanVersion_0 rfl ?_
  refine wx_getI C ⟨r, hR⟩ 135 v (nI (G.1 5 v)) d_Nd_cleanVersion_1 f_Nd_48 rfl rfl (dmN (by decide) hv) rfl ?_
  refine ws_istore_n C d_Nd_cleanVersion_4 (by rw [hn]; decide) ?_
  suffices hL : ∀ n, n ≤ G.1 4 v → cnF G v k n = clN G v k → WS F 5 [some (.ref (h 4 v)), some (.int (nI k)), some (.int (nI n))] [] S 0 0 from hL _ h45 rfl
  intro n
  induction n with
  | zero =>
    intro hn1 hp
    refine ws_iload_n C d_Nd_cleanVersion_5 rfl ?_
    refine ws_iconst C (nI 1) d_Nd_cleanVersion_6 (by decide) ?_
    refine ws_icmp_ltN C d_Nd_cleanVersion_7 (by first | omega | exact okl hO _ _) (by first | omega | exact okl hO _ _) (fun h7 => ?_) (fun h7 => ?_)
    · refine ws_iconst C (nI 0) d_Nd_cleanVersion_27 (by decide) ?_
      exact ws_iret C R d_Nd_cleanVersion_28 rfl (by decide) (by decide) ⟨by rw [← hp]; rfl, hP⟩
    · omega
  | succ n ih =>
    intro hn1 hp
    refine ws_iload_n C d_Nd_cleanVersion_5 rfl ?_
    refine ws_iconst C (nI 1) d_Nd_cleanVersion_6 (by decide) ?_
    refine ws_icmp_ltN C d_Nd_cleanVersion_7 (by first | omega | exact okl hO _ _) (by first | omega | exact okl hO _ _) (fun h7 => ?_) (fun h7 => ?_)
    · omega
    · refine ws_aload_n C d_Nd_cleanVersion_10 rfl ?_
      refine ws_iload_n C d_Nd_cleanVersion_11 rfl ?_
      refine ws_iload_n C d_Nd_cleanVersion_12 rfl ?_
      refine ws_callVi C w_Nd_67 (As := [_, _]) (c_Nd_isOfKey hR hO hv (show (n + 1) < 2 ^ 31 by omega) hk (P := fun S' => S = S') rfl) d_Nd_cleanVersion_13 rfl rfl (XE.k ⟨r, hR⟩ (dkN hv)) (Nat.le_of_ble_eq_true rfl) (by decide) (by decide) (by decide) (fun S' hS' => ?_)
      subst hS'
      refine ws_if_eqB C d_Nd_cleanVersion_16 (fun h16 => ?_) (fun h16 => ?_)
      · refine ws_iinc C _ d_Nd_cleanVersion_21 rfl (dec1 (by first | omega | exact okl hO _ _)) (by rw [hn]; decide) ?_
        refine ws_goto C d_Nd_cleanVersion_24 ?_
        exact ih (by omega) (by rw [← hp, cnF, if_neg (fun z => (of_decide_eq_false h16) ⟨by omega, hn1, z⟩)])
      · refine ws_iload_n C d_Nd_cleanVersion_19 rfl ?_
        exact ws_iret C R d_Nd_cleanVersion_20 rfl (by decide) (by decide) ⟨by rw [← hp, cnF, if_pos (of_decide_eq_true h16).2.2], hP⟩
set_option maxHeartbeats 4000000 in
set_option maxRecDepth 100000 in
theorem c_Nd_isClean {V : Ev} {h : Nat → Nat → Nat} {t : Nat → Nat} {G : GS} {S : Sto} {r : Rg} (hR : XR (vZ V) h t r G S) (hO : OK G) (hW : WF G) {v : Nat} (hv : v < G.1 0 0) {k : Nat} (hk : k ≤ 3) {P : Sto → Prop} (hP : P S) : CT V mi_Nd_isClean 0 0 [.ref (h 4 v), .int (nI k)] S (Pi (bI (isCl G v k)) P) := by
  refine CT.of (cc := prog_5_method_14_code) (own := "ChainVersions$Node") (nL := 3) (d := 2) (by decide) rfl rfl rfl rfl (by simp [Value.category]) (Nat.le_of_ble_eq_true rfl) rfl ?_
  intro F hV hn C R
  subst hV
  have hb4 : G.1 4 v ≤ 100 := hO 4 v
  have h45 := hW.2.2.2.2.2 v
  refine ws_aload_n C d_Nd_isClean_0 rfl ?_
  refine wx_getI C ⟨r, hR⟩ 135 v (nI (G.1 5 v)) d_Nd_isClean_1 f_Nd_48 rfl rfl (dmN (by decide) hv) rfl ?_
  refine ws_iconst C (nI 1) d_Nd_isClean_4 (by decide) ?_
  refine ws_iaddN C d_Nd_isClean_5 ?_
  refine ws_istore_n C d_Nd_isClean_6 (by rw [hn]; decide) ?_
  suffices hL : ∀ m n, n + m = G.1 4 v + 1 → 1 ≤ n → clF G v k m n = isCl G v k → WS F 7 [some (.ref (h 4 v)), some (.int (nI k)), some (.int (nI n))] [] S 0 0 from hL (G.1 4 v - G.1 5 v) _ (by omega) (by omega) rfl
  intro m
  induction m with
  | zero =>
    intro n hn1 h1 hp
    refine ws_iload_n C d_Nd_isClean_7 rfl ?_
    refine ws_aload_n C d_Nd_isClean_8 rfl ?_
    refine wx_getI C ⟨r, hR⟩ 134 v (nI (G.1 4 v)) d_Nd_isClean_9 f_Nd_45 rfl rfl (dmN (by decide) hv) rfl ?_
    refine ws_icmp_gtN C d_Nd_isClean_12 (by first | omega | exact okl hO _ _) (by first | omega | exact okl hO _ _) (fun h12 => ?_) (fun h12 => ?_)
    · refine ws_iconst C (nI 1) d_Nd_isClean_32 (by decide) ?_
      exact ws_zret C R d_Nd_isClean_33 rfl (by decide) (by decide) (by decide) ⟨by rw [← hp]; rfl, hP⟩
    · omega
  | succ m ih =>
    intro n hn1 h1 hp
    refine ws_iload_n C d_Nd_isClean_7 rfl ?_
    refine ws_aload_n C d_Nd_isClean_8 rfl ?_
    refine wx_getI C ⟨r, hR⟩ 134 v (nI (G.1 4 v)) d_Nd_isClean_9 f_Nd_45 rfl rfl (dmN (by decide) hv) rfl ?_
    refine ws_icmp_gtN C d_Nd_isClean_12 (by first | omega | exact okl hO _ _) (by first | omega | exact okl hO _ _) (fun h12 => ?_) (fun h12 => ?_)
    · omega
    · refine ws_aload_n C d_Nd_isClean_15 rfl ?_
      refine ws_iload_n C d_Nd_isClean_16 rfl ?_
      refine ws_iload_n C d_Nd_isClean_17 rfl ?_
      refine ws_callVi C w_Nd_67 (As := [_, _]) (c_Nd_isOfKey hR hO hv (show n < 2 ^ 31 by omega) hk (P := fun S' => S = S') rfl) d_Nd_isClean_18 rfl rfl (XE.k ⟨r, hR⟩ (dkN hv)) (Nat.le_of_ble_eq_true rfl) (by decide) (by decide) (by decide) (fun S' hS' => ?_)
      subst hS'
      refine ws_if_eqB C d_Nd_isClean_21 (fun h21 => ?_) (fun h21 => ?_)
      · refine ws_iinc C _ d_Nd_isClean_26 rfl (inc1 _) (by rw [hn]; decide) ?_
        refine ws_goto C d_Nd_isClean_29 ?_
        exact ih (n + 1) (by omega) (by omega) (by rw [← hp, clF, if_neg (fun z => (of_decide_eq_false h21) ⟨by omega, by omega, z⟩)])
      · refine ws_iconst C (nI 0) d_Nd_isClean_24 (by decide) ?_
        exact ws_zret C R d_Nd_isClean_25 rfl (by decide) (by decide) (by decide) ⟨by rw [← hp, clF, if_pos (of_decide_eq_true h21).2.2]; rfl, hP⟩
set_option maxHeartbeats 4000000 in
set_option maxRecDepth 100000 in
theorem c_Nd_versionAt {V : Ev} {h : Nat → Nat → Nat} {t : Nat → Nat} {G : GS} {S : Sto} {r : Rg} (hR : XR (vZ V) h t r G S) (hO : OK G) (hW : WF G) {v : Nat} (hv : v < G.1 0 0) {k a : Nat} (hk : k ≤ 3) (ha : a < 2 ^ 31) {P : Sto → Prop} (hP : P S) : CT V mi_Nd_versionAt 0 0 [.ref (h 4 v), .int (nI k), .int (nI a)] S (Pi (nI (vrN G v k (G.1 4 v - G.1 5 v) (G.1 5 v + 1) a (clN G v k))) P) := by
  refine CT.of (cc := prog_5_method_13_code) (own := "ChainVersions$Node") (nL := 6) (d := 3) (by decide) rfl rfl rfl rfl (by simp [Value.category]) (Nat.le_of_ble_eq_true rfl) rfl ?_
  intro F hV hn C R
  subst hV
  have hb4 : G.1 4 v ≤ 100 := hO 4 v
  have h45 := hW.2.2.2.2.2 v
  refine ws_aload_n C d_Nd_versionAt_0 rfl ?_
  refine ws_iload_n C d_Nd_versionAt_1 rfl ?_
  refine ws_callVi C w_Nd_71 (As := [_]) (c_Nd_cleanVersion hR hO hW hv hk (P := fun S' => S = S') rfl) d_Nd_versionAt_2 rfl rfl (XE.k ⟨r, hR⟩ (dkN hv)) (Nat.le_of_ble_eq_true rfl) (by decide) (by decide) (by decide) (fun S' hS' => ?_)
  subst hS'
  refine ws_istore_n C d_Nd_versionAt_5 (by rw [hn]; decide) ?_
  refine ws_iconst C (nI 0) d_Nd_versionAt_6 (by decide) ?_
  refine ws_istore C d_Nd_versionAt_7 (by rw [hn]; decide) ?_
  refine ws_aload_n C d_Nd_versionAt_9 rfl ?_
  refine wx_getI C ⟨r, hR⟩ 135 v (nI (G.1 5 v)) d_Nd_versionAt_10 f_Nd_48 rfl rfl (dmN (by decide) hv) rfl ?_
  refine ws_iconst C (nI 1) d_Nd_versionAt_13 (by decide) ?_
  refine ws_iaddN C d_Nd_versionAt_14 ?_
  refine ws_istore C d_Nd_versionAt_15 (by rw [hn]; decide) ?_
  suffices hL : ∀ m n q x, n + m = G.1 4 v + 1 → 1 ≤ n → q ≤ a → vrN G v k m n (a - q) x = vrN G v k (G.1 4 v - G.1 5 v) (G.1 5 v + 1) a (clN G v k) → WS F 17 [some (.ref (h 4 v)), some (.int (nI k)), some (.int (nI a)), some (.int (nI x)), some (.int (nI q)), some (.int (nI n))] [] S 0 0 from hL (G.1 4 v - G.1 5 v) _ 0 _ (by omega) (by omega) (by omega) rfl
  intro m
  induction m with
  | zero =>
    intro n q x hn1 h1 hq hp
    refine ws_iload C d_Nd_versionAt_17 rfl ?_
    refine ws_aload_n C d_Nd_versionAt_19 rfl ?_
    refine wx_getI C ⟨r, hR⟩ 134 v (nI (G.1 4 v)) d_Nd_versionAt_20 f_Nd_45 rfl rfl (dmN (by decide) hv) rfl ?_
    refine ws_icmp_gtN C d_Nd_versionAt_23 (by first | omega | exact okl hO _ _) (by first | omega | exact okl hO _ _) (fun h23 => ?_) (fun h23 => ?_)
    · refine ws_iload_n C d_Nd_versionAt_54 rfl ?_
      exact ws_iret C R d_Nd_versionAt_55 rfl (by decide) (by decide) ⟨by rw [← hp, vrN], hP⟩
    · omega
  | succ m ih =>
    intro n q x hn1 h1 hq hp
    rw [vrN] at hp
    refine ws_iload C d_Nd_versionAt_17 rfl ?_
    refine ws_aload_n C d_Nd_versionAt_19 rfl ?_
    refine wx_getI C ⟨r, hR⟩ 134 v (nI (G.1 4 v)) d_Nd_versionAt_20 f_Nd_45 rfl rfl (dmN (by decide) hv) rfl ?_
    refine ws_icmp_gtN C d_Nd_versionAt_23 (by first | omega | exact okl hO _ _) (by first | omega | exact okl hO _ _) (fun h23 => ?_) (fun h23 => ?_)
    · omega
    · refine ws_iload C d_Nd_versionAt_26 rfl ?_
      refine ws_iload_n C d_Nd_versionAt_28 rfl ?_
      refine ws_icmp_geN C d_Nd_versionAt_29 (by first | omega | exact okl hO _ _) (by first | omega | exact okl hO _ _) (fun h29 => ?_) (fun h29 => ?_)
      · refine ws_iload_n C d_Nd_versionAt_54 rfl ?_
        exact ws_iret C R d_Nd_versionAt_55 rfl (by decide) (by decide) ⟨by rw [← hp, if_pos (by omega)], hP⟩
      · refine ws_aload_n C d_Nd_versionAt_32 rfl ?_
        refine ws_iload C d_Nd_versionAt_33 rfl ?_
        refine ws_iload_n C d_Nd_versionAt_35 rfl ?_
        refine ws_callVi C w_Nd_67 (As := [_, _]) (c_Nd_isOfKey hR hO hv (show n < 2 ^ 31 by omega) hk (P := fun S' => S = S') rfl) d_Nd_versionAt_36 rfl rfl (XE.k ⟨r, hR⟩ (dkN hv)) (Nat.le_of_ble_eq_true rfl) (by decide) (by decide) (by decide) (fun S' hS' => ?_)
        subst hS'
        refine ws_if_eqB C d_Nd_versionAt_39 (fun h39 => ?_) (fun h39 => ?_)
        · refine ws_iinc C _ d_Nd_versionAt_48 rfl (inc1 _) (by rw [hn]; decide) ?_
          refine ws_goto C d_Nd_versionAt_51 ?_
          exact ih (n + 1) q x (by omega) (by omega) hq (by rw [← hp, if_neg (by omega), if_neg (fun z => (of_decide_eq_false h39) ⟨by omega, by omega, z⟩)])
        · refine ws_iload C d_Nd_versionAt_42 rfl ?_
          refine ws_istore_n C d_Nd_versionAt_44 (by rw [hn]; decide) ?_
          refine ws_iinc C _ d_Nd_versionAt_45 rfl (inc1 _) (by rw [hn]; decide) ?_
          refine ws_iinc C _ d_Nd_versionAt_48 rfl (inc1 _) (by rw [hn]; decide) ?_
          refine ws_goto C d_Nd_versionAt_51 ?_
          exact ih (n + 1) (q + 1) n (by omega) (by omega) (by omega) (by rw [← hp, if_neg (by omega), if_pos (of_decide_eq_true h39).2.2, Nat.sub_sub])
set_option maxHeartbeats 4000000 in
set_option maxRecDepth 100000 in
theorem c_Nd_hasVersion {V : Ev} {h : Nat → Nat → Nat} {t : Nat → Nat} {G : GS} {S : Sto} {r : Rg} (hR : XR (vZ V) h t r G S) (hO : OK G) (hW : WF G) {v : Nat} (hv : v < G.1 0 0) {k n : Nat} (hk : k ≤ 3) (hn2 : n < 2 ^ 31) {P : Sto → Prop} (hP : P S) : CT V mi_Nd_hasVersion 0 0 [.ref (h 4 v), .int (nI k), .int (nI n)] S (Pi (bI (decide (n = clN G v k ∨ (G.1 5 v < n ∧ n ≤ G.1 4 v ∧ G.1 9 (128 * v + n) = k)))) P) := by
  refine CT.of (cc := prog_5_method_15_code) (own := "ChainVersions$Node") (nL := 3) (d := 3) (by decide) rfl rfl rfl rfl (by simp [Value.category]) (Nat.le_of_ble_eq_true rfl) rfl ?_
  intro F hV hn C R
  subst hV
  have hb4 : G.1 4 v ≤ 100 := hO 4 v
  have h45 := hW.2.2.2.2.2 v
  refine ws_iload_n C d_Nd_hasVersion_0 rfl ?_
  refine ws_aload_n C d_Nd_hasVersion_1 rfl ?_
  refine ws_iload_n C d_Nd_hasVersion_2 rfl ?_
  refine ws_callVi C w_Nd_71 (As := [_]) (c_Nd_cleanVersion hR hO hW hv hk (P := fun S' => S = S') rfl) d_Nd_hasVersion_3 rfl rfl (XE.k ⟨r, hR⟩ (dkN hv)) (Nat.le_of_ble_eq_true rfl) (by decide) (by decide) (by decide) (fun S' hS' => ?_)
  subst hS'
  refine ws_icmp_eqN C d_Nd_hasVersion_6 (by first | omega | exact okl hO _ _ | (have := clN_le hO v k; omega)) (by first | omega | exact okl hO _ _ | (have := clN_le hO v k; omega)) (fun h6 => ?_) (fun h6 => ?_)
  · refine ws_iconst C (nI 1) d_Nd_hasVersion_26 (by decide) ?_
    refine ws_goto C d_Nd_hasVersion_27 ?_
    exact ws_zret C R d_Nd_hasVersion_31 rfl (by decide) (by decide) (by decide) ⟨by rw [show decide (n = clN G v k ∨ (G.1 5 v < n ∧ n ≤ G.1 4 v ∧ G.1 9 (128 * v + n) = k)) = true from decide_eq_true (Or.inl h6)]; rfl, hP⟩
  · refine ws_iload_n C d_Nd_hasVersion_9 rfl ?_
    refine ws_aload_n C d_Nd_hasVersion_10 rfl ?_
    refine wx_getI C ⟨r, hR⟩ 135 v (nI (G.1 5 v)) d_Nd_hasVersion_11 f_Nd_48 rfl rfl (dmN (by decide) hv) rfl ?_
    refine ws_icmp_leN C d_Nd_hasVersion_14 (by first | omega | exact okl hO _ _ | (have := clN_le hO v k; omega)) (by first | omega | exact okl hO _ _ | (have := clN_le hO v k; omega)) (fun h14 => ?_) (fun h14 => ?_)
    · refine ws_iconst C (nI 0) d_Nd_hasVersion_30 (by decide) ?_
      exact ws_zret C R d_Nd_hasVersion_31 rfl (by decide) (by decide) (by decide) ⟨by rw [show decide (n = clN G v k ∨ (G.1 5 v < n ∧ n ≤ G.1 4 v ∧ G.1 9 (128 * v + n) = k)) = false from decide_eq_false (by omega)]; rfl, hP⟩
    · refine ws_aload_n C d_Nd_hasVersion_17 rfl ?_
      refine ws_iload_n C d_Nd_hasVersion_18 rfl ?_
      refine ws_iload_n C d_Nd_hasVersion_19 rfl ?_
      refine ws_callVi C w_Nd_67 (As := [_, _]) (c_Nd_isOfKey hR hO hv (show n < 2 ^ 31 by omega) hk (P := fun S' => S = S') rfl) d_Nd_hasVersion_20 rfl rfl (XE.k ⟨r, hR⟩ (dkN hv)) (Nat.le_of_ble_eq_true rfl) (by decide) (by decide) (by decide) (fun S' hS' => ?_)
      subst hS'
      refine ws_if_eqB C d_Nd_hasVersion_23 (fun h23 => ?_) (fun h23 => ?_)
      · refine ws_iconst C (nI 0) d_Nd_hasVersion_30 (by decide) ?_
        exact ws_zret C R d_Nd_hasVersion_31 rfl (by decide) (by decide) (by decide) ⟨by rw [show decide (n = clN G v k ∨ (G.1 5 v < n ∧ n ≤ G.1 4 v ∧ G.1 9 (128 * v + n) = k)) = false from decide_eq_false (fun z => z.elim h6 (fun y => (of_decide_eq_false h23) ⟨by omega, y.2.1, y.2.2⟩))]; rfl, hP⟩
      · refine ws_iconst C (nI 1) d_Nd_hasVersion_26 (by decide) ?_
        refine ws_goto C d_Nd_hasVersion_27 ?_
        exact ws_zret C R d_Nd_hasVersion_31 rfl (by decide) (by decide) (by decide) ⟨by rw [show decide (n = clN G v k ∨ (G.1 5 v < n ∧ n ≤ G.1 4 v ∧ G.1 9 (128 * v + n) = k)) = true from decide_eq_true (Or.inr ⟨by omega, (of_decide_eq_true h23).2⟩)]; rfl, hP⟩
