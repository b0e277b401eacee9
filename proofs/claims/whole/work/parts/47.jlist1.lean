/-! the library's list: size, get, add, remove -/
set_option maxHeartbeats 4000000 in
set_option maxRecDepth 100000 in
theorem c_Pr_checkIndex {V : Ev} {S : Sto} {P : Sto → Prop} (hP : P S) {i n : Nat} (hi : i < n) (hn3 : n < 2 ^ 31) : CT V mi_Pr_checkIndex 0 0 [.int (nI i), .int (nI n), .null] S (Pi (nI i) P) := by
  refine CT.of (cc := prog_24_method_11_code) (own := "jdk/internal/util/Preconditions") (nL := 3) (d := 0) (by decide) rfl rfl rfl rfl (by simp [Value.category]) (Nat.le_of_ble_eq_true rfl) rfl ?_
  intro F hV hn C R
  subst hV
  refine ws_iload_n C d_Pr_checkIndex_0 rfl ?_
  refine ws_if_ltN C d_Pr_checkIndex_1 (by omega) ?_
  refine ws_iload_n C d_Pr_checkIndex_4 rfl ?_
  refine ws_iload_n C d_Pr_checkIndex_5 rfl ?_
  refine ws_icmp_ltN C d_Pr_checkIndex_6 (by omega) (by omega) (fun h6 => ?_) (fun h6 => ?_)
  · refine ws_iload_n C d_Pr_checkIndex_16 rfl ?_
    exact ws_iret C R d_Pr_checkIndex_17 rfl (by decide) (by decide) ⟨rfl, hP⟩
  · omega
set_option maxHeartbeats 4000000 in
set_option maxRecDepth 100000 in
theorem c_Ob_checkIndex {V : Ev} {S : Sto} {P : Sto → Prop} (hP : P S) {i n : Nat} (hi : i < n) (hn3 : n < 2 ^ 31) : CT V mi_Ob_checkIndex 0 0 [.int (nI i), .int (nI n)] S (Pi (nI i) P) := by
  refine CT.of (cc := prog_20_method_17_code) (own := "java/util/Objects") (nL := 2) (d := 1) (by decide) rfl rfl rfl rfl (by simp [Value.category]) (Nat.le_of_ble_eq_true rfl) rfl ?_
  intro F hV hn C R
  subst hV
  refine ws_iload_n C d_Ob_checkIndex_0 rfl ?_
  refine ws_iload_n C d_Ob_checkIndex_1 rfl ?_
  refine ws_null C d_Ob_checkIndex_2 ?_
  refine ws_callSi C w_Ob_105 (As := [_, _, _]) (c_Pr_checkIndex hP hi hn3) d_Ob_checkIndex_3 rfl rfl (Nat.le_of_ble_eq_true rfl) (by decide) (by decide) (by decide) (fun S hP => ?_)
  exact ws_iret C R d_Ob_checkIndex_6 rfl (by decide) (by decide) ⟨rfl, hP⟩
set_option maxHeartbeats 4000000 in
set_option maxRecDepth 100000 in
theorem c_AL_size {V : Ev} {h : Nat → Nat → Nat} {t : Nat → Nat} {G : GS} {S : Sto} (hR : XE (vZ V) h t G S) (hO : OK G) {P : Sto → Prop} (hP : P S) : CT V mi_AL_size 0 0 [.ref (h 1 0)] S (Pi (nI (G.1 20 0)) P) := by
  refine CT.of (cc := prog_16_method_8_code) (own := "java/util/ArrayList") (nL := 1) (d := 0) (by decide) rfl rfl rfl rfl (by simp [Value.category]) (Nat.le_of_ble_eq_true rfl) rfl ?_
  intro F hV hn C R
  subst hV
  refine ws_aload_n C d_AL_size_0 rfl ?_
  refine wx_getI C hR 34 0 (nI (G.1 20 0)) d_AL_size_1 f_AL_48 rfl rfl (dmX (by decide)) rfl ?_
  exact ws_iret C R d_AL_size_4 rfl (by decide) (by decide) ⟨rfl, hP⟩
set_option maxHeartbeats 4000000 in
set_option maxRecDepth 100000 in
theorem c_AL_elementData {V : Ev} {h : Nat → Nat → Nat} {t : Nat → Nat} {G : GS} {S : Sto} {r : Rg} (hR : XR (vZ V) h t r G S) (hO : OK G) {i : Nat} (hi : i < G.1 20 0) {P : Sto → Prop} (hP : P S) : CT V mi_AL_elementData 0 0 [.ref (h 1 0), .int (nI i)] S (Pr (some (r.1 i)) P) := by
  refine CT.of (cc := prog_16_method_18_code) (own := "java/util/ArrayList") (nL := 2) (d := 0) (by decide) rfl rfl rfl rfl (by simp [Value.category]) (Nat.le_of_ble_eq_true rfl) rfl ?_
  intro F hV hn C R
  subst hV
  refine ws_aload_n C d_AL_elementData_0 rfl ?_
  refine ws_getP C d_AL_elementData_1 f_AL_9 rfl (hR.1.1 1 0 dk1) hR.2.2.2.2.2.1.1 ?_
  refine ws_iload_n C d_AL_elementData_4 rfl ?_
  obtain ⟨e1, e2, e3⟩ := hR.cnt_el (show 0 < G.1 20 0 by omega)
  obtain ⟨q1, q2⟩ := hR.2.2.2.2.2.1.2.2 i hi
  refine ws_aald C (kd := 14) (by decide) (by decide) d_AL_elementData_5 e1 (by omega) (by omega) ?_
  rw [q1]
  exact ws_aret C R d_AL_elementData_6 rfl (Or.inl ⟨_, rfl⟩) (Or.inr ⟨_, rfl⟩) (by decide) (by decide) ⟨rfl, hP⟩
set_option maxHeartbeats 4000000 in
set_option maxRecDepth 100000 in
theorem c_AL_get {V : Ev} {h : Nat → Nat → Nat} {t : Nat → Nat} {G : GS} {S : Sto} {r : Rg} (hR : XR (vZ V) h t r G S) (hO : OK G) {i : Nat} (hi : i < G.1 20 0) {P : Sto → Prop} (hP : P S) : CT V mi_AL_get 0 0 [.ref (h 1 0), .int (nI i)] S (Pr (some (r.1 i)) P) := by
  refine CT.of (cc := prog_16_method_20_code) (own := "java/util/ArrayList") (nL := 2) (d := 2) (by decide) rfl rfl rfl rfl (by simp [Value.category]) (Nat.le_of_ble_eq_true rfl) rfl ?_
  intro F hV hn C R
  subst hV
  refine ws_iload_n C d_AL_get_0 rfl ?_
  refine ws_aload_n C d_AL_get_1 rfl ?_
  refine wx_getI C ⟨r, hR⟩ 34 0 (nI (G.1 20 0)) d_AL_get_2 f_AL_48 rfl rfl (dmX (by decide)) rfl ?_
  refine ws_callSi C w_AL_118 (As := [_, _]) (c_Ob_checkIndex (P := fun S' => S = S') rfl hi (okl hO 20 0)) d_AL_get_5 rfl rfl (Nat.le_of_ble_eq_true rfl) (by decide) (by decide) (by decide) (fun S1 hS' => ?_)
  subst hS'
  refine ws_pop C d_AL_get_8 rfl ?_
  refine ws_aload_n C d_AL_get_9 rfl ?_
  refine ws_iload_n C d_AL_get_10 rfl ?_
  refine ws_callVr C w_AL_123 (As := [_]) (c_AL_elementData hR hO hi (P := fun S' => S = S') rfl) d_AL_get_11 rfl rfl (XE.k ⟨r, hR⟩ (dk1)) (Nat.le_of_ble_eq_true rfl) (by decide) (by decide) (by decide) (fun S' hS' => ?_)
  subst hS'
  exact ws_aret C R d_AL_get_14 rfl (Or.inl ⟨_, rfl⟩) (Or.inr ⟨_, rfl⟩) (by decide) (by decide) ⟨rfl, hP⟩
set_option maxHeartbeats 4000000 in
set_option maxRecDepth 100000 in
theorem c_ASu_newLength {V : Ev} {S : Sto} {P : Sto → Prop} (hP : P S) {a b c : Nat} (ha : a < 100000) (h1 : b ≤ 100000 ∧ 1 ≤ b) (h2 : c ≤ 100000) : CT V mi_ASu_newLength 0 0 [.int (nI a), .int (nI b), .int (nI c)] S (Pi (nI (a + max b c)) P) := by
  refine CT.of (cc := prog_23_method_27_code) (own := "jdk/internal/util/ArraysSupport") (nL := 4) (d := 1) (by decide) rfl rfl rfl rfl (by simp [Value.category]) (Nat.le_of_ble_eq_true rfl) rfl ?_
  intro F hV hn C R
  subst hV
  refine ws_iload_n C d_ASu_newLength_0 rfl ?_
  refine ws_iload_n C d_ASu_newLength_1 rfl ?_
  refine ws_iload_n C d_ASu_newLength_2 rfl ?_
  refine ws_mmax C (tb_at 401 (by decide +kernel) (by decide +kernel)) d_ASu_newLength_3 (by decide) (by decide) (by decide) (Nat.le_of_ble_eq_true rfl) ?_
  rw [max_n (by omega) (by omega)]
  refine ws_iaddN C d_ASu_newLength_6 ?_
  refine ws_istore_n C d_ASu_newLength_7 (by rw [hn]; decide) ?_
  refine ws_iconst C (nI 0) d_ASu_newLength_8 (by decide) ?_
  refine ws_iload_n C d_ASu_newLength_9 rfl ?_
  refine ws_icmp_geN C d_ASu_newLength_10 (by omega) (by omega) (fun h10 => ?_) (fun h10 => ?_)
  · omega
  · refine ws_iload_n C d_ASu_newLength_13 rfl ?_
    refine ws_ldc (v := 2147483639) C d_ASu_newLength_14 (tb_at 402 (by decide +kernel) (by decide +kernel)) ?_
    rw [show (2147483639 : Int32) = nI 2147483639 from by decide]
    refine ws_icmp_gtN C d_ASu_newLength_16 (by omega) (by omega) (fun h16 => ?_) (fun h16 => ?_)
    · omega
    · refine ws_iload_n C d_ASu_newLength_19 rfl ?_
      exact ws_iret C R d_ASu_newLength_20 rfl (by decide) (by decide) ⟨rfl, hP⟩
