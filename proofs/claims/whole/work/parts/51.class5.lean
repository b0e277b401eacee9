/-! the class: its own reads -/
theorem ge_gt {n : Nat} (hn : n < 2 ^ 30) (x : Int32) : nI (n + 1) ≤ x ↔ nI n < x := by
  rw [Int32.le_iff_toInt_le, Int32.lt_iff_toInt_lt, nI_toInt (by omega), nI_toInt (by omega)]
  omega
theorem inN_t {x : Int32} {n : Nat} (hn : n < 2 ^ 30) (h1 : ¬ x < 0) (h2 : ¬ nI (n + 1) ≤ x) : inN x n = true := by
  simp only [inN, decide_eq_true_eq]
  exact ⟨h1, fun z => h2 ((ge_gt hn x).mpr z)⟩
theorem inN_f1 {x : Int32} {n : Nat} (h1 : x < 0) : inN x n = false := by simp [inN, h1]
theorem inN_f2 {x : Int32} {n : Nat} (hn : n < 2 ^ 30) (h2 : nI (n + 1) ≤ x) : inN x n = false := by
  have := (ge_gt hn x).mp h2
  simp [inN, this]
set_option maxHeartbeats 4000000 in
set_option maxRecDepth 100000 in
theorem c_X_isKey {V : Ev} {S : Sto} {P : Sto → Prop} (hP : P S) (x : Int32) : CT V mi_X_isKey 0 0 [.int x] S (Pi (bI (inN x 3)) P) := by
  refine CT.of (cc := prog_1_method_21_code) (own := "ChainVersions") (nL := 1) (d := 0) (by decide) rfl rfl rfl rfl (by simp [Value.category]) (Nat.le_of_ble_eq_true rfl) rfl ?_
  intro F hV hn C R
  subst hV
  refine ws_iload_n C d_X_isKey_0 rfl ?_
  refine ws_if_lt C d_X_isKey_1 (fun h1 => ?_) (fun h1 => ?_)
  · refine ws_iconst C (nI 0) d_X_isKey_13 (by decide) ?_
    exact ws_zret C R d_X_isKey_14 rfl (by decide) (by decide) (by decide) ⟨by rw [inN_f1 h1]; rfl, hP⟩
  · refine ws_iload_n C d_X_isKey_4 rfl ?_
    refine ws_iconst C (nI 4) d_X_isKey_5 (by decide) ?_
    refine ws_icmp_ge C d_X_isKey_6 (fun h6 => ?_) (fun h6 => ?_)
    · refine ws_iconst C (nI 0) d_X_isKey_13 (by decide) ?_
      exact ws_zret C R d_X_isKey_14 rfl (by decide) (by decide) (by decide) ⟨by rw [inN_f2 (n := 3) (by decide) h6]; rfl, hP⟩
    · refine ws_iconst C (nI 1) d_X_isKey_9 (by decide) ?_
      refine ws_goto C d_X_isKey_10 ?_
      exact ws_zret C R d_X_isKey_14 rfl (by decide) (by decide) (by decide) ⟨by rw [inN_t (n := 3) (by decide) h1 h6]; rfl, hP⟩
set_option maxHeartbeats 4000000 in
set_option maxRecDepth 100000 in
theorem c_X_isNodeNumber {V : Ev} {S : Sto} {P : Sto → Prop} (hP : P S) (x : Int32) : CT V mi_X_isNodeNumber 0 0 [.int x] S (Pi (bI (inN x 5)) P) := by
  refine CT.of (cc := prog_1_method_20_code) (own := "ChainVersions") (nL := 1) (d := 0) (by decide) rfl rfl rfl rfl (by simp [Value.category]) (Nat.le_of_ble_eq_true rfl) rfl ?_
  intro F hV hn C R
  subst hV
  refine ws_iload_n C d_X_isNodeNumber_0 rfl ?_
  refine ws_if_lt C d_X_isNodeNumber_1 (fun h1 => ?_) (fun h1 => ?_)
  · refine ws_iconst C (nI 0) d_X_isNodeNumber_14 (by decide) ?_
    exact ws_zret C R d_X_isNodeNumber_15 rfl (by decide) (by decide) (by decide) ⟨by rw [inN_f1 h1]; rfl, hP⟩
  · refine ws_iload_n C d_X_isNodeNumber_4 rfl ?_
    refine ws_bipush C (nI 6) d_X_isNodeNumber_5 (by decide) ?_
    refine ws_icmp_ge C d_X_isNodeNumber_7 (fun h7 => ?_) (fun h7 => ?_)
    · refine ws_iconst C (nI 0) d_X_isNodeNumber_14 (by decide) ?_
      exact ws_zret C R d_X_isNodeNumber_15 rfl (by decide) (by decide) (by decide) ⟨by rw [inN_f2 (n := 5) (by decide) h7]; rfl, hP⟩
    · refine ws_iconst C (nI 1) d_X_isNodeNumber_10 (by decide) ?_
      refine ws_goto C d_X_isNodeNumber_11 ?_
      exact ws_zret C R d_X_isNodeNumber_15 rfl (by decide) (by decide) (by decide) ⟨by rw [inN_t (n := 5) (by decide) h1 h7]; rfl, hP⟩
def clA (h : Nat → Nat → Nat) (x : Int32) : Option Nat := if inN x 2 = true then some (h 2 (ix x)) else none
def mdA (h : Nat → Nat → Nat) (G : GS) (x : Int32) : Option Nat := if (inN x 5 && decide (ix x < G.1 0 0)) = true then some (h 4 (ix x)) else none
def lvA (h : Nat → Nat → Nat) (G : GS) (x : Int32) : Option Nat := if (inN x 5 && G.1 1 (ix x) == 1) = true then some (h 4 (ix x)) else none
def rdA (h : Nat → Nat → Nat) (G : GS) (x : Int32) : Option Nat := if svs G x = true then some (h 4 (ix x)) else none
set_option maxHeartbeats 4000000 in
set_option maxRecDepth 100000 in
theorem c_X_clientOf {V : Ev} {h : Nat → Nat → Nat} {t : Nat → Nat} {G : GS} {S : Sto} (hR : XE (vZ V) h t G S) (hO : OK G) (x : Int32) {P : Sto → Prop} (hP : P S) : CT V mi_X_clientOf 0 0 [.ref (h 6 0), .int x] S (Pr (clA h x) P) := by
  refine CT.of (cc := prog_1_method_22_code) (own := "ChainVersions") (nL := 2) (d := 0) (by decide) rfl rfl rfl rfl (by simp [Value.category]) (Nat.le_of_ble_eq_true rfl) rfl ?_
  intro F hV hn C R
  subst hV
  refine ws_iload_n C d_X_clientOf_0 rfl ?_
  refine ws_if_lt C d_X_clientOf_1 (fun h1 => ?_) (fun h1 => ?_)
  · refine ws_null C d_X_clientOf_18 ?_
    exact ws_aret C R d_X_clientOf_19 rfl (Or.inl ⟨_, rfl⟩) (Or.inl rfl) (by decide) (by decide) ⟨by rw [clA, inN_f1 h1]; rfl, hP⟩
  · refine ws_iload_n C d_X_clientOf_4 rfl ?_
    refine ws_iconst C (nI 3) d_X_clientOf_5 (by decide) ?_
    refine ws_icmp_ge C d_X_clientOf_6 (fun h6 => ?_) (fun h6 => ?_)
    · refine ws_null C d_X_clientOf_18 ?_
      exact ws_aret C R d_X_clientOf_19 rfl (Or.inl ⟨_, rfl⟩) (Or.inl rfl) (by decide) (by decide) ⟨by rw [clA, inN_f2 (n := 2) (by decide) h6]; rfl, hP⟩
    · have hx := inN_t (n := 2) (by decide) h1 h6
      obtain ⟨c, hc, rfl⟩ := inN_of hx (by decide)
      refine ws_aload_n C d_X_clientOf_9 rfl ?_
      refine wx_getP C hR 193 0 (h 12 0) d_X_clientOf_10 f_X_17 rfl rfl (dpX (by decide)) rfl ?_
      refine ws_iload_n C d_X_clientOf_13 rfl ?_
      refine wx_cli C hR d_X_clientOf_14 (by omega) ?_
      refine ws_goto C d_X_clientOf_15 ?_
      exact ws_aret C R d_X_clientOf_19 rfl (Or.inl ⟨_, rfl⟩) (Or.inr ⟨_, rfl⟩) (by decide) (by decide) ⟨by rw [clA, if_pos hx, ix_n (by omega)]; rfl, hP⟩
set_option maxHeartbeats 4000000 in
set_option maxRecDepth 100000 in
theorem c_X_madeNode {V : Ev} {h : Nat → Nat → Nat} {t : Nat → Nat} {G : GS} {S : Sto} (hR : XE (vZ V) h t G S) (hO : OK G) (x : Int32) {P : Sto → Prop} (hP : P S) : CT V mi_X_madeNode 0 0 [.ref (h 6 0), .int x] S (Pr (mdA h G x) P) := by
  refine CT.of (cc := prog_1_method_23_code) (own := "ChainVersions") (nL := 2) (d := 1) (by decide) rfl rfl rfl rfl (by simp [Value.category]) (Nat.le_of_ble_eq_true rfl) rfl ?_
  intro F hV hn C R
  subst hV
  refine ws_iload_n C d_X_madeNode_0 rfl ?_
  refine ws_callSi C w_X_74 (As := [_]) (c_X_isNodeNumber (P := fun S' => S = S') rfl x) d_X_madeNode_1 rfl rfl (Nat.le_of_ble_eq_true rfl) (by decide) (by decide) (by decide) (fun S1 hS1 => ?_)
  subst hS1
  refine ws_if_eqB C d_X_madeNode_4 (fun h4 => ?_) (fun h4 => ?_)
  · refine ws_null C d_X_madeNode_16 ?_
    exact ws_aret C R d_X_madeNode_17 rfl (Or.inl ⟨_, rfl⟩) (Or.inl rfl) (by decide) (by decide) ⟨by rw [mdA, h4]; rfl, hP⟩
  · obtain ⟨v, hv5, rfl⟩ := inN_of h4 (by decide)
    have ev : ix (nI v) = v := ix_n (by omega)
    refine ws_aload_n C d_X_madeNode_7 rfl ?_
    refine wx_getP C hR 192 0 (h 11 0) d_X_madeNode_8 f_X_11 rfl rfl (dpX (by decide)) rfl ?_
    refine ws_iload_n C d_X_madeNode_11 rfl ?_
    refine wx_nod C hR d_X_madeNode_12 (by omega) (fun hv => ?_) (fun hv => ?_)
    · refine ws_goto C d_X_madeNode_13 ?_
      exact ws_aret C R d_X_madeNode_17 rfl (Or.inl ⟨_, rfl⟩) (Or.inr ⟨_, rfl⟩) (by decide) (by decide) ⟨by simp [mdA, h4, ev, hv, va_rf], hP⟩
    · refine ws_goto C d_X_madeNode_13 ?_
      exact ws_aret C R d_X_madeNode_17 rfl (Or.inl ⟨_, rfl⟩) (Or.inl rfl) (by decide) (by decide) ⟨by simp [mdA, h4, ev, hv, va_rf], hP⟩
set_option maxHeartbeats 4000000 in
set_option maxRecDepth 100000 in
theorem c_X_livingNode {V : Ev} {h : Nat → Nat → Nat} {t : Nat → Nat} {G : GS} {S : Sto} (hR : XE (vZ V) h t G S) (hO : OK G) (hW : WF G) (x : Int32) {P : Sto → Prop} (hP : P S) : CT V mi_X_livingNode 0 0 [.ref (h 6 0), .int x] S (Pr (lvA h G x) P) := by
  refine CT.of (cc := prog_1_method_24_code) (own := "ChainVersions") (nL := 3) (d := 0) (by decide) rfl rfl rfl rfl (by simp [Value.category]) (Nat.le_of_ble_eq_true rfl) rfl ?_
  intro F hV hn C R
  subst hV
  refine ws_iload_n C d_X_livingNode_0 rfl ?_
  refine ws_if_lt C d_X_livingNode_1 (fun h1 => ?_) (fun h1 => ?_)
  · have hx := inN_f1 (n := 5) h1
    refine ws_null C d_X_livingNode_19 ?_
    refine ws_astore_nN C d_X_livingNode_20 (by rw [hn]; decide) ?_
    refine ws_aload_nN C d_X_livingNode_21 rfl ?_
    refine ws_ifnullN C d_X_livingNode_22 ?_
    refine ws_null C d_X_livingNode_36 ?_
    exact ws_aret C R d_X_livingNode_37 rfl (Or.inl ⟨_, rfl⟩) (Or.inl rfl) (by decide) (by decide) ⟨by simp [lvA, hx, va_rf], hP⟩
  · refine ws_iload_n C d_X_livingNode_4 rfl ?_
    refine ws_bipush C (nI 6) d_X_livingNode_5 (by decide) ?_
    refine ws_icmp_ge C d_X_livingNode_7 (fun h7 => ?_) (fun h7 => ?_)
    · have hx := inN_f2 (n := 5) (by decide) h7
      refine ws_null C d_X_livingNode_19 ?_
      refine ws_astore_nN C d_X_livingNode_20 (by rw [hn]; decide) ?_
      refine ws_aload_nN C d_X_livingNode_21 rfl ?_
      refine ws_ifnullN C d_X_livingNode_22 ?_
      refine ws_null C d_X_livingNode_36 ?_
      exact ws_aret C R d_X_livingNode_37 rfl (Or.inl ⟨_, rfl⟩) (Or.inl rfl) (by decide) (by decide) ⟨by simp [lvA, hx, va_rf], hP⟩
    · have hx := inN_t (n := 5) (by decide) h1 h7
      obtain ⟨v, hv5, rfl⟩ := inN_of hx (by decide)
      have ev : ix (nI v) = v := ix_n (by omega)
      have hb1 : G.1 1 v ≤ 1 := hO 1 v
      refine ws_aload_n C d_X_livingNode_10 rfl ?_
      refine wx_getP C hR 192 0 (h 11 0) d_X_livingNode_11 f_X_11 rfl rfl (dpX (by decide)) rfl ?_
      refine ws_iload_n C d_X_livingNode_14 rfl ?_
      refine wx_nod C hR d_X_livingNode_15 (by omega) (fun hv => ?_) (fun hv => ?_)
      · refine ws_goto C d_X_livingNode_16 ?_
        refine ws_astore_n C d_X_livingNode_20 (by rw [hn]; decide) ?_
        refine ws_aload_n C d_X_livingNode_21 rfl ?_
        refine ws_ifnull C d_X_livingNode_22 ?_
        refine ws_aload_n C d_X_livingNode_25 rfl ?_
        refine wx_getI C hR 131 v (nI (G.1 1 v)) d_X_livingNode_26 f_X_148 rfl rfl (dmN (by decide) hv) rfl ?_
        refine ws_if_eqN C d_X_livingNode_29 (by first | omega | exact okl hO _ _) (fun h29 => ?_) (fun h29 => ?_)
        · refine ws_null C d_X_livingNode_36 ?_
          exact ws_aret C R d_X_livingNode_37 rfl (Or.inl ⟨_, rfl⟩) (Or.inl rfl) (by decide) (by decide) ⟨by simp [lvA, hx, ev, va_rf, h29], hP⟩
        · refine ws_aload_n C d_X_livingNode_32 rfl ?_
          refine ws_goto C d_X_livingNode_33 ?_
          exact ws_aret C R d_X_livingNode_37 rfl (Or.inl ⟨_, rfl⟩) (Or.inr ⟨_, rfl⟩) (by decide) (by decide) ⟨by simp [lvA, hx, ev, va_rf, (show G.1 1 v = 1 by omega)], hP⟩
      · have h0 := hW.2.2.2.1 v (by omega)
        refine ws_goto C d_X_livingNode_16 ?_
        refine ws_astore_nN C d_X_livingNode_20 (by rw [hn]; decide) ?_
        refine ws_aload_nN C d_X_livingNode_21 rfl ?_
        refine ws_ifnullN C d_X_livingNode_22 ?_
        refine ws_null C d_X_livingNode_36 ?_
        exact ws_aret C R d_X_livingNode_37 rfl (Or.inl ⟨_, rfl⟩) (Or.inl rfl) (by decide) (by decide) ⟨by simp [lvA, hx, ev, va_rf, h0], hP⟩
theorem lvA_s {h : Nat → Nat → Nat} {G : GS} {v : Nat} (hv : v ≤ 5) (h1 : G.1 1 v = 1) : lvA h G (nI v) = some (h 4 v) := by
  simp [lvA, inN_n hv, ix_n (show v < 2 ^ 31 by omega), h1]
theorem lvA_cs {h : Nat → Nat → Nat} {G : GS} (hW : WF G) (x : Int32) : (lvA h G x = none ∧ (inN x 5 && G.1 1 (ix x) == 1) = false) ∨ ∃ v, x = nI v ∧ v ≤ 5 ∧ v < G.1 0 0 ∧ G.1 1 v = 1 ∧ lvA h G x = some (h 4 v) := by
  cases hb : (inN x 5 && G.1 1 (ix x) == 1) with
  | false => left; exact ⟨by rw [lvA, hb]; rfl, rfl⟩
  | true =>
    right
    have hb2 := hb
    simp only [Bool.and_eq_true, beq_iff_eq] at hb2
    obtain ⟨v, hv, rfl⟩ := inN_of hb2.1 (by decide)
    have ev : ix (nI v) = v := ix_n (by omega)
    rw [ev] at hb2
    refine ⟨v, rfl, hv, ?_, hb2.2, lvA_s hv hb2.2⟩
    exact Decidable.byContradiction (fun hz => by have := hW.2.2.2.1 v (by omega); omega)
theorem svs_f {G : GS} {x : Int32} (h : (inN x 5 && G.1 1 (ix x) == 1) = false) : svs G x = false := by
  unfold svs
  cases h1 : inN x 5 with
  | false => rfl
  | true => rw [h1] at h; simp at h; simp [h]
set_option maxHeartbeats 4000000 in
set_option maxRecDepth 100000 in
theorem c_X_readyNode {V : Ev} {h : Nat → Nat → Nat} {t : Nat → Nat} {G : GS} {S : Sto} (hR : XE (vZ V) h t G S) (hO : OK G) (hW : WF G) (x : Int32) {P : Sto → Prop} (hP : P S) : CT V mi_X_readyNode 0 0 [.ref (h 6 0), .int x] S (Pr (rdA h G x) P) := by
  refine CT.of (cc := prog_1_method_25_code) (own := "ChainVersions") (nL := 3) (d := 1) (by decide) rfl rfl rfl rfl (by simp [Value.category]) (Nat.le_of_ble_eq_true rfl) rfl ?_
  intro F hV hn C R
  subst hV
  refine ws_aload_n C d_X_readyNode_0 rfl ?_
  refine ws_iload_n C d_X_readyNode_1 rfl ?_
  refine ws_callVr C w_X_95 (As := [_]) (c_X_livingNode hR hO hW x (P := fun S' => S = S') rfl) d_X_readyNode_2 rfl rfl (XE.k hR (dk6)) (Nat.le_of_ble_eq_true rfl) (by decide) (by decide) (by decide) (fun S' hS' => ?_)
  subst hS'
  rcases lvA_cs (h := h) hW x with ⟨he, hx⟩ | ⟨v, rfl, hv5, hv, h1, he⟩
  · rw [he]
    refine ws_astore_nN C d_X_readyNode_5 (by rw [hn]; decide) ?_
    refine ws_aload_nN C d_X_readyNode_6 rfl ?_
    refine ws_ifnullN C d_X_readyNode_7 ?_
    refine ws_null C d_X_readyNode_21 ?_
    exact ws_aret C R d_X_readyNode_22 rfl (Or.inl ⟨_, rfl⟩) (Or.inl rfl) (by decide) (by decide) ⟨by rw [rdA, svs_f hx]; rfl, hP⟩
  · rw [he]
    have ev : ix (nI v) = v := ix_n (by omega)
    have hb2 : G.1 2 v ≤ 1 := hO 2 v
    refine ws_astore_n C d_X_readyNode_5 (by rw [hn]; decide) ?_
    refine ws_aload_n C d_X_readyNode_6 rfl ?_
    refine ws_ifnull C d_X_readyNode_7 ?_
    refine ws_aload_n C d_X_readyNode_10 rfl ?_
    refine wx_getI C hR 132 v (nI (G.1 2 v)) d_X_readyNode_11 f_X_123 rfl rfl (dmN (by decide) hv) rfl ?_
    refine ws_if_eqN C d_X_readyNode_14 (by first | omega | exact okl hO _ _) (fun h14 => ?_) (fun h14 => ?_)
    · refine ws_null C d_X_readyNode_21 ?_
      exact ws_aret C R d_X_readyNode_22 rfl (Or.inl ⟨_, rfl⟩) (Or.inl rfl) (by decide) (by decide) ⟨by simp [rdA, svs, inN_n hv5, ev, h1, va_rf, h14], hP⟩
    · refine ws_aload_n C d_X_readyNode_17 rfl ?_
      refine ws_goto C d_X_readyNode_18 ?_
      exact ws_aret C R d_X_readyNode_22 rfl (Or.inl ⟨_, rfl⟩) (Or.inr ⟨_, rfl⟩) (by decide) (by decide) ⟨by simp [rdA, svs, inN_n hv5, ev, h1, va_rf, (show G.1 2 v = 1 by omega)], hP⟩
theorem rdA_cs {h : Nat → Nat → Nat} {G : GS} (hW : WF G) (x : Int32) : (rdA h G x = none ∧ svs G x = false) ∨ ∃ v, x = nI v ∧ v ≤ 5 ∧ v < G.1 0 0 ∧ G.1 1 v = 1 ∧ G.1 2 v = 1 ∧ svs G x = true ∧ rdA h G x = some (h 4 v) := by
  cases hb : svs G x with
  | false => left; exact ⟨by rw [rdA, hb]; rfl, rfl⟩
  | true =>
    right
    have hb2 := hb
    simp only [svs, Bool.and_eq_true, beq_iff_eq] at hb2
    obtain ⟨v, hv, rfl⟩ := inN_of hb2.1 (by decide)
    have ev : ix (nI v) = v := ix_n (by omega)
    rw [ev] at hb2
    refine ⟨v, rfl, hv, ?_, hb2.2.1, hb2.2.2, rfl, by rw [rdA, if_pos hb, ev]⟩
    exact Decidable.byContradiction (fun hz => by have := hW.2.2.2.1 v (by omega); omega)
theorem otN_up {G : GS} {v w : Nat} (h : otN G v w = true) : ∀ n, otN G v (w + n) = true
  | 0 => h
  | n + 1 => otN_1 (otN_up h n)
set_option maxHeartbeats 4000000 in
set_option maxRecDepth 100000 in
theorem c_X_hasOtherReadyNode {V : Ev} {h : Nat → Nat → Nat} {t : Nat → Nat} {G : GS} {S : Sto} (hR : XE (vZ V) h t G S) (hO : OK G) (hW : WF G) {v : Nat} (hv : v ≤ 5) {P : Sto → Prop} (hP : P S) : CT V mi_X_hasOtherReadyNode 0 0 [.ref (h 6 0), .int (nI v)] S (Pi (bI (otN G v 6)) P) := by
  refine CT.of (cc := prog_1_method_26_code) (own := "ChainVersions") (nL := 3) (d := 2) (by decide) rfl rfl rfl rfl (by simp [Value.category]) (Nat.le_of_ble_eq_true rfl) rfl ?_
  intro F hV hn C R
  subst hV
  refine ws_iconst C (nI 0) d_X_hasOtherReadyNode_0 (by decide) ?_
  refine ws_istore_n C d_X_hasOtherReadyNode_1 (by rw [hn]; decide) ?_
  suffices hL : ∀ n w (y : Option Value), w + n = 6 → otN G v w = false → WS F 2 [some (.ref (h 6 0)), some (.int (nI v)), some (.int (nI w))] [] S 0 0 from hL 6 0 none rfl rfl
  intro n
  induction n with
  | zero =>
    intro w y hw ho
    have e : w = 6 := by omega
    subst e
    refine ws_iload_n C d_X_hasOtherReadyNode_2 rfl ?_
    refine ws_bipush C (nI 6) d_X_hasOtherReadyNode_3 (by decide) ?_
    refine ws_icmp_geN C d_X_hasOtherReadyNode_5 (by first | omega | exact okl hO _ _) (by first | omega | exact okl hO _ _) (fun h5 => ?_) (fun h5 => ?_)
    · refine ws_iconst C (nI 0) d_X_hasOtherReadyNode_29 (by decide) ?_
      exact ws_zret C R d_X_hasOtherReadyNode_30 rfl (by decide) (by decide) (by decide) ⟨by rw [ho]; rfl, hP⟩
    · omega
  | succ n ih =>
    intro w y hw ho
    have ew : ix (nI w) = w := ix_n (by omega)
    have esv : svs G (nI w) = (G.1 1 w == 1 && G.1 2 w == 1) := by simp [svs, inN_n (show w ≤ 5 by omega), ew]
    refine ws_iload_n C d_X_hasOtherReadyNode_2 rfl ?_
    refine ws_bipush C (nI 6) d_X_hasOtherReadyNode_3 (by decide) ?_
    refine ws_icmp_geN C d_X_hasOtherReadyNode_5 (by first | omega | exact okl hO _ _) (by first | omega | exact okl hO _ _) (fun h5 => ?_) (fun h5 => ?_)
    · omega
    · refine ws_iload_n C d_X_hasOtherReadyNode_8 rfl ?_
      refine ws_iload_n C d_X_hasOtherReadyNode_9 rfl ?_
      refine ws_icmp_eqN C d_X_hasOtherReadyNode_10 (by first | omega | exact okl hO _ _) (by first | omega | exact okl hO _ _) (fun h10 => ?_) (fun h10 => ?_)
      · refine ws_iinc C _ d_X_hasOtherReadyNode_23 rfl (inc1 _) (by rw [hn]; decide) ?_
        refine ws_goto C d_X_hasOtherReadyNode_26 ?_
        exact ih (w + 1) none (by omega) (otN_2 ho h10)
      · refine ws_aload_n C d_X_hasOtherReadyNode_13 rfl ?_
        refine ws_iload_n C d_X_hasOtherReadyNode_14 rfl ?_
        refine ws_callVr C w_X_77 (As := [_]) (c_X_readyNode hR hO hW (nI w) (P := fun S' => S = S') rfl) d_X_hasOtherReadyNode_15 rfl rfl (XE.k hR (dk6)) (Nat.le_of_ble_eq_true rfl) (by decide) (by decide) (by decide) (fun S' hS' => ?_)
        subst hS'
        rcases rdA_cs (h := h) hW (nI w) with ⟨he, hx⟩ | ⟨v2, h9, hv5, hv, h1, h2, hx, he⟩
        · rw [he]
          refine ws_ifnullN C d_X_hasOtherReadyNode_18 ?_
          refine ws_iinc C _ d_X_hasOtherReadyNode_23 rfl (inc1 _) (by rw [hn]; decide) ?_
          refine ws_goto C d_X_hasOtherReadyNode_26 ?_
          exact ih (w + 1) none (by omega) (otN_3 ho (by rw [← esv]; exact hx))
        · rw [he]
          refine ws_ifnull C d_X_hasOtherReadyNode_18 ?_
          refine ws_iconst C (nI 1) d_X_hasOtherReadyNode_21 (by decide) ?_
          exact ws_zret C R d_X_hasOtherReadyNode_22 rfl (by decide) (by decide) (by decide) ⟨by rw [show (6 : Nat) = w + 1 + n by omega, otN_up (otN_4 h10 (by rw [← esv]; exact hx)) n]; rfl, hP⟩
