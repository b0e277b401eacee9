/-! the library's list: growth, add, remove -/
set_option maxHeartbeats 4000000 in
set_option maxRecDepth 100000 in
theorem c_As_copyOf_1 {V : Ev} {S : Sto} {a0 n : Nat} (hk : sK S a0 = 14) (hz : sZ S a0 ≤ n) (hn9 : n ≤ 2200) (hel : ∀ i, i < sZ S a0 → ∀ y, sQ S 14 a0 i = some y → sK S y = 7) : CT V mi_As_copyOf_1 1 n [.ref a0, .int (nI n), .ref (vY V 20)] S (fun v S' => ∃ q, v = some (.ref q) ∧ sK S q = 0 ∧ S' = cpyQ (newA S q 14 n) 14 a0 q 0 0 (sZ S a0)) := by
  refine CT.of (cc := prog_17_method_120_code) (own := "java/util/Arrays") (nL := 4) (d := 1) (by decide) rfl rfl rfl rfl (by simp [Value.category]) (Nat.le_of_ble_eq_true rfl) rfl ?_
  intro F hV hn C R
  subst hV
  refine ws_aload_n C d_As_copyOf_1_0 rfl ?_
  refine ws_ldcM C d_As_copyOf_1_1 (tb_at 424 (by decide +kernel) (by decide +kernel)) ?_
  refine ws_acmp_ne C d_As_copyOf_1_3 (fun z => absurd rfl z) (fun _ => ?_)
  refine ws_iload_n C d_As_copyOf_1_6 rfl ?_
  refine ws_newq (kd := 14) C d_As_copyOf_1_7 (by omega) (by decide) (by decide) rfl (tb_at 426 (by decide +kernel) (by decide +kernel)) C.E.2.1.2.2.2 (by omega) (by omega) (fun q hq => ?_)
  have elq : a0 ≠ q := fun e => by rw [e, hq] at hk; cases hk
  have hk1 : sK (newA S q 14 n) a0 = 14 := by show va_up (sK S) q 14 a0 = 14; rw [va_up, if_neg elq]; exact hk
  have hk2 : sK (newA S q 14 n) q = 14 := by show va_up (sK S) q 14 q = 14; rw [va_up, if_pos rfl]
  have hz1 : sZ (newA S q 14 n) a0 = sZ S a0 := by show va_up (sZ S) q n a0 = _; rw [va_up, if_neg elq]
  have hz2 : sZ (newA S q 14 n) q = n := by show va_up (sZ S) q n q = _; rw [va_up, if_pos rfl]
  refine ws_goto C d_As_copyOf_1_10 ?_
  refine ws_astore_n C d_As_copyOf_1_24 (by rw [hn]; decide) ?_
  refine ws_aload_n C d_As_copyOf_1_25 rfl ?_
  refine ws_iconst C (nI 0) d_As_copyOf_1_26 (by decide) ?_
  refine ws_aload_n C d_As_copyOf_1_27 rfl ?_
  refine ws_iconst C (nI 0) d_As_copyOf_1_28 (by decide) ?_
  refine ws_aload_n C d_As_copyOf_1_29 rfl ?_
  refine ws_alen C (kd := 14) (by decide) (by decide) d_As_copyOf_1_30 hk1 ?_
  rw [hz1]
  refine ws_iload_n C d_As_copyOf_1_31 rfl ?_
  refine ws_mmin C (tb_at 427 (by decide +kernel) (by decide +kernel)) d_As_copyOf_1_32 (by decide) (by omega) (by omega) (Nat.le_of_ble_eq_true rfl) ?_
  rw [min_n (by omega) (by omega)]
  rw [Nat.min_eq_left (show sZ S a0 ≤ n by omega)]
  refine ws_copyQ (sp := 0) (dp := 0) C (tb_at 428 (by decide +kernel) (by decide +kernel)) d_As_copyOf_1_35 hk1 hk2 (by omega) (by omega) (by omega) (by omega) ?_ (by decide) (Nat.le_of_ble_eq_true rfl) ?_
  · intro i hi y hy
    have hy2 : sQ S 14 a0 i = some y := by
      rw [← hy]; show _ = (if 14 = 14 ∧ a0 = q then none else sQ S 14 a0 (0 + i)); rw [if_neg (fun z0 => elq z0.2), Nat.zero_add]
    have hy7 := hel i hi y hy2
    show va_up (sK S) q 14 y = 7
    rw [va_up, if_neg (fun e => by rw [e, hq] at hy7; cases hy7)]; exact hy7
  refine ws_aload_n C d_As_copyOf_1_38 rfl ?_
  exact ws_aret C R d_As_copyOf_1_39 rfl (Or.inr ⟨_, rfl⟩) (Or.inr ⟨_, rfl⟩) (by omega) (by omega) ⟨q, rfl, hq, rfl⟩
set_option maxHeartbeats 4000000 in
set_option maxRecDepth 100000 in
theorem c_As_copyOf_0 {V : Ev} {S : Sto} {a0 n : Nat} (hk : sK S a0 = 14) (hz : sZ S a0 ≤ n) (hn9 : n ≤ 2200) (hel : ∀ i, i < sZ S a0 → ∀ y, sQ S 14 a0 i = some y → sK S y = 7) : CT V mi_As_copyOf_0 1 n [.ref a0, .int (nI n)] S (fun v S' => ∃ q, v = some (.ref q) ∧ sK S q = 0 ∧ S' = cpyQ (newA S q 14 n) 14 a0 q 0 0 (sZ S a0)) := by
  refine CT.of (cc := prog_17_method_119_code) (own := "java/util/Arrays") (nL := 2) (d := 2) (by decide) rfl rfl rfl rfl (by simp [Value.category]) (Nat.le_of_ble_eq_true rfl) rfl ?_
  intro F hV hn C R
  subst hV
  refine ws_aload_n C d_As_copyOf_0_0 rfl ?_
  refine ws_iload_n C d_As_copyOf_0_1 rfl ?_
  refine ws_aload_n C d_As_copyOf_0_2 rfl ?_
  refine ws_getC C hk d_As_copyOf_0_3 (tb_at 409 (by decide +kernel) (by decide +kernel)) (tb_at 911 (by decide +kernel) (by decide +kernel)) (tb_at 410 (by decide +kernel) (by decide +kernel)) (tb_at 420 (by decide +kernel) (by decide +kernel)) (by decide) (Nat.le_of_ble_eq_true rfl) ?_
  refine ws_callS C w_As_300 (As := [_, _, _]) (c_As_copyOf_1 hk hz hn9 hel) d_As_copyOf_0_6 rfl rfl (Nat.le_of_ble_eq_true rfl) (by decide) (by omega) (by omega) (fun v S1 hv => ?_)
  obtain ⟨q, rfl, hq, rfl⟩ := hv
  exact ws_aret C R d_As_copyOf_0_9 rfl (Or.inr ⟨_, rfl⟩) (Or.inr ⟨_, rfl⟩) (by omega) (by omega) ⟨q, rfl, hq, rfl⟩
set_option maxHeartbeats 4000000 in
set_option maxRecDepth 100000 in
theorem c_AL_grow_1 {V : Ev} {h : Nat → Nat → Nat} {t : Nat → Nat} {G : GS} {S : Sto} {r : Rg} (hR : XR (vZ V) h t r G S) (hO : OK G) (hc : G.1 20 0 ≤ 1399) (hf : sK S r.2.1 = 14 → sZ S r.2.1 = G.1 20 0) : CT V mi_AL_grow_1 1 2200 [.ref (h 1 0), .int (nI (G.1 20 0 + 1))] S (fun v S' => ∃ q, v = some (.ref q) ∧ XR (vZ V) h t (r.1, q, r.2.2) G S' ∧ Fm S S' ∧ sK S' q = 14 ∧ G.1 20 0 < sZ S' q ∧ sZ S' q ≤ 2200) := by
  refine CT.of (cc := prog_16_method_6_code) (own := "java/util/ArrayList") (nL := 4) (d := 3) (by decide) rfl rfl rfl rfl (by simp [Value.category]) (Nat.le_of_ble_eq_true rfl) rfl ?_
  intro F hV hn C R
  subst hV
  rcases hR.2.2.2.2.2.1.2.1 with ⟨e1, e2, e3⟩ | ⟨hz, hc0⟩
  · have hfull : sZ S r.2.1 = G.1 20 0 := hf e1
    have k20 : WS F 20 [some (.ref (h 1 0)), some (.int (nI (G.1 20 0 + 1))), some (.int (nI (sZ S r.2.1))), none] [] S 0 0 := by
      refine ws_iload_n C d_AL_grow_1_20 rfl ?_
      refine ws_iload_n C d_AL_grow_1_21 rfl ?_
      refine ws_iload_n C d_AL_grow_1_22 rfl ?_
      refine ws_isubN C d_AL_grow_1_23 (by omega) ?_
      refine ws_iload_n C d_AL_grow_1_24 rfl ?_
      refine ws_iconst C (nI 1) d_AL_grow_1_25 (by decide) ?_
      refine ws_ishr C d_AL_grow_1_26 ?_
      refine ws_top (nI (sZ S r.2.1 / 2)) (shr1 e3) ?_
      refine ws_callSi C w_AL_73 (As := [_, _, _]) (c_ASu_newLength (P := fun S' => S = S') rfl (by omega) (by omega) (by omega)) d_AL_grow_1_27 rfl rfl (Nat.le_of_ble_eq_true rfl) (by decide) (by omega) (by omega) (fun S1 hS1 => ?_)
      subst hS1
      refine ws_istore_n C d_AL_grow_1_30 (by rw [hn]; decide) ?_
      refine ws_aload_n C d_AL_grow_1_31 rfl ?_
      refine ws_aload_n C d_AL_grow_1_32 rfl ?_
      refine ws_getP C d_AL_grow_1_33 f_AL_9 rfl (hR.1.1 1 0 dk1) hR.2.2.2.2.2.1.1 ?_
      refine ws_iload_n C d_AL_grow_1_36 rfl ?_
      have hn9 : sZ S r.2.1 + max (G.1 20 0 + 1 - sZ S r.2.1) (sZ S r.2.1 / 2) ≤ 2200 := by have := hc; omega
      have hn8 : sZ S r.2.1 < sZ S r.2.1 + max (G.1 20 0 + 1 - sZ S r.2.1) (sZ S r.2.1 / 2) := by omega
      generalize sZ S r.2.1 + max (G.1 20 0 + 1 - sZ S r.2.1) (sZ S r.2.1 / 2) = n at *
      refine ws_callS C w_AL_66 (As := [_, _]) (c_As_copyOf_0 (n := n) e1 (by omega) hn9 (fun i hi y hy => ?_)) d_AL_grow_1_37 rfl rfl (Nat.le_of_ble_eq_true rfl) (by decide) (by omega) (by omega) (fun v S1 hv => ?_)
      · obtain ⟨q1, q2⟩ := hR.2.2.2.2.2.1.2.2 i (by omega)
        rw [q1] at hy; cases hy; exact q2.1
      obtain ⟨q, rfl, hq, rfl⟩ := hv
      refine ws_dup_x1 C d_AL_grow_1_40 rfl rfl ?_
      have hk0 := hR.1.1 1 0 dk1
      have hne : h 1 0 ≠ q := fun e => by rw [e, hq] at hk0; cases hk0
      have hk9 : va_up (sK S) q 14 (h 1 0) = 1 := by rw [va_up, if_neg hne]; exact hk0
      refine ws_putR C (some q) rfl d_AL_grow_1_41 f_AL_9 rfl rfl (by rw [show tyk (33 / 32) (33 % 32) = .array (.object "java/lang/Object") from tyk_el]; exact ⟨rfl, rfl⟩) hk9 ?_
      exact ws_aret C R d_AL_grow_1_44 rfl (Or.inr ⟨_, rfl⟩) (Or.inr ⟨_, rfl⟩) (by omega) (by omega) ⟨q, rfl, hR.grow hq e1 e2 (by omega), fm_newel hq, by show va_up (sK S) q 14 q = 14; rw [va_up, if_pos rfl], by show _ < va_up (sZ S) q n q; rw [va_up, if_pos rfl]; omega, by show va_up (sZ S) q n q ≤ 2200; rw [va_up, if_pos rfl]; exact hn9⟩
    refine ws_aload_n C d_AL_grow_1_0 rfl ?_
    refine ws_getP C d_AL_grow_1_1 f_AL_9 rfl (hR.1.1 1 0 dk1) hR.2.2.2.2.2.1.1 ?_
    refine ws_alen C (kd := 14) (by decide) (by decide) d_AL_grow_1_4 e1 ?_
    refine ws_istore_n C d_AL_grow_1_5 (by rw [hn]; decide) ?_
    refine ws_iload_n C d_AL_grow_1_6 rfl ?_
    refine ws_if_gtN C d_AL_grow_1_7 (by omega) (fun h7 => ?_) (fun h7 => ?_)
    · exact k20
    · refine ws_aload_n C d_AL_grow_1_10 rfl ?_
      refine ws_getP C d_AL_grow_1_11 f_AL_9 rfl (hR.1.1 1 0 dk1) hR.2.2.2.2.2.1.1 ?_
      refine ws_getZ C d_AL_grow_1_14 (tb_at 91 (by decide +kernel) (by decide +kernel)) ?_
      refine ws_z0 (a := 0) C (fun hz0 => ?_)
      refine ws_acmp_eq C d_AL_grow_1_17 (fun he => ?_) (fun _ => ?_)
      · rw [he, hz0] at e1; cases e1
      · exact k20
  · have hz : r.2.1 = xz F := hz
    refine ws_aload_n C d_AL_grow_1_0 rfl ?_
    refine ws_getP C d_AL_grow_1_1 f_AL_9 rfl (hR.1.1 1 0 dk1) hR.2.2.2.2.2.1.1 ?_
    rw [hz]
    refine ws_alenZ C d_AL_grow_1_4 ?_
    refine ws_istore_n C d_AL_grow_1_5 (by rw [hn]; decide) ?_
    refine ws_iload_n C d_AL_grow_1_6 rfl ?_
    refine ws_if_gtN C d_AL_grow_1_7 (by decide) (fun z => absurd z (by decide)) (fun _ => ?_)
    refine ws_aload_n C d_AL_grow_1_10 rfl ?_
    refine ws_getP C d_AL_grow_1_11 f_AL_9 rfl (hR.1.1 1 0 dk1) hR.2.2.2.2.2.1.1 ?_
    rw [hz]
    refine ws_getZ C d_AL_grow_1_14 (tb_at 91 (by decide +kernel) (by decide +kernel)) ?_
    refine ws_acmp_eq C d_AL_grow_1_17 (fun _ => ?_) (fun z => absurd rfl z)
    refine ws_aload_n C d_AL_grow_1_45 rfl ?_
    refine ws_bipush C (nI 10) d_AL_grow_1_46 (by decide) ?_
    refine ws_iload_n C d_AL_grow_1_48 rfl ?_
    refine ws_mmax C (tb_at 431 (by decide +kernel) (by decide +kernel)) d_AL_grow_1_49 (by decide) (by omega) (by omega) (Nat.le_of_ble_eq_true rfl) ?_
    rw [max_n (by omega) (by omega)]
    refine ws_newq (kd := 14) C d_AL_grow_1_52 (by omega) (by decide) (by decide) rfl (tb_at 432 (by decide +kernel) (by decide +kernel)) C.E.2.1.2.2.2 (by omega) (by omega) (fun q hq => ?_)
    refine ws_dup_x1 C d_AL_grow_1_55 rfl rfl ?_
    have hk0 := hR.1.1 1 0 dk1
    have hne : h 1 0 ≠ q := fun e => by rw [e, hq] at hk0; cases hk0
    have hk9 : va_up (sK S) q 14 (h 1 0) = 1 := by rw [va_up, if_neg hne]; exact hk0
    refine ws_putR C (some q) rfl d_AL_grow_1_56 f_AL_9 rfl rfl (by rw [show tyk (33 / 32) (33 % 32) = .array (.object "java/lang/Object") from tyk_el]; exact ⟨rfl, rfl⟩) hk9 ?_
    exact ws_aret C R d_AL_grow_1_59 rfl (Or.inr ⟨_, rfl⟩) (Or.inr ⟨_, rfl⟩) (by omega) (by omega) ⟨q, rfl, hR.grow0 hq hc0 (by omega), fm_newel0 hq, by show va_up (sK S) q 14 q = 14; rw [va_up, if_pos rfl], by show _ < va_up (sZ S) q _ q; rw [va_up, if_pos rfl]; omega, by show va_up (sZ S) q _ q ≤ 2200; rw [va_up, if_pos rfl]; omega⟩
set_option maxHeartbeats 4000000 in
set_option maxRecDepth 100000 in
theorem c_AL_grow_0 {V : Ev} {h : Nat → Nat → Nat} {t : Nat → Nat} {G : GS} {S : Sto} {r : Rg} (hR : XR (vZ V) h t r G S) (hO : OK G) (hc : G.1 20 0 ≤ 1399) (hf : sK S r.2.1 = 14 → sZ S r.2.1 = G.1 20 0) : CT V mi_AL_grow_0 1 2200 [.ref (h 1 0)] S (fun v S' => ∃ q, v = some (.ref q) ∧ XR (vZ V) h t (r.1, q, r.2.2) G S' ∧ Fm S S' ∧ sK S' q = 14 ∧ G.1 20 0 < sZ S' q ∧ sZ S' q ≤ 2200) := by
  refine CT.of (cc := prog_16_method_7_code) (own := "java/util/ArrayList") (nL := 1) (d := 4) (by decide) rfl rfl rfl rfl (by simp [Value.category]) (Nat.le_of_ble_eq_true rfl) rfl ?_
  intro F hV hn C R
  subst hV
  refine ws_aload_n C d_AL_grow_0_0 rfl ?_
  refine ws_aload_n C d_AL_grow_0_1 rfl ?_
  refine wx_getI C ⟨r, hR⟩ 34 0 (nI (G.1 20 0)) d_AL_grow_0_2 f_AL_48 rfl rfl (dmX (by decide)) rfl ?_
  refine ws_iconst C (nI 1) d_AL_grow_0_5 (by decide) ?_
  refine ws_iaddN C d_AL_grow_0_6 ?_
  refine ws_callV C w_AL_69 (As := [_]) (c_AL_grow_1 hR hO hc hf) d_AL_grow_0_7 rfl rfl (hR.1.1 1 0 dk1) (Nat.le_of_ble_eq_true rfl) (by decide) (by omega) (by omega) (fun v S1 hv => ?_)
  obtain ⟨q, rfl, hv⟩ := hv
  exact ws_aret C R d_AL_grow_0_10 rfl (Or.inr ⟨_, rfl⟩) (Or.inr ⟨_, rfl⟩) (by omega) (by omega) ⟨q, rfl, hv⟩
set_option maxHeartbeats 4000000 in
set_option maxRecDepth 100000 in
theorem c_AL_add_1 {V : Ev} {h : Nat → Nat → Nat} {t : Nat → Nat} {G : GS} {S : Sto} {r : Rg} (hR : XR (vZ V) h t r G S) (hO : OK G) (hc : G.1 20 0 ≤ 1399) {q0 k v w e a b : Nat} (hM : MsgF S q0 r.2.2 k v w e a b) (hU : k = 1 → a ≤ G.1 4 v) : CT V mi_AL_add_1 1 2200 [.ref (h 1 0), .ref q0, .ref r.2.1, .int (nI (G.1 20 0))] S (Pv (XE (vZ V) h t (pushM G v w k e a b))) := by
  refine CT.of (cc := prog_16_method_24_code) (own := "java/util/ArrayList") (nL := 4) (d := 5) (by decide) rfl rfl rfl rfl (by simp [Value.category]) (Nat.le_of_ble_eq_true rfl) rfl ?_
  intro F hV hn C R
  subst hV
  have k11 : ∀ (r : Rg) (S : Sto), XR (vZ F.1) h t r G S → sK S r.2.1 = 14 → G.1 20 0 < sZ S r.2.1 → sZ S r.2.1 ≤ 2200 → MsgF S q0 r.2.2 k v w e a b → WS F 11 [some (.ref (h 1 0)), some (.ref q0), some (.ref r.2.1), some (.int (nI (G.1 20 0)))] [] S 1 2200 := by
    intro r S hR e1 e2 e3 hM
    refine ws_aload_n C d_AL_add_1_11 rfl ?_
    refine ws_iload_n C d_AL_add_1_12 rfl ?_
    refine ws_aload_n C d_AL_add_1_13 rfl ?_
    refine ws_aastO C d_AL_add_1_14 e1 hM.1 e2 (by omega) ?_
    refine ws_aload_n C d_AL_add_1_15 rfl ?_
    refine ws_iload_n C d_AL_add_1_16 rfl ?_
    refine ws_iconst C (nI 1) d_AL_add_1_17 (by decide) ?_
    refine ws_iaddN C d_AL_add_1_18 ?_
    refine ws_putI C d_AL_add_1_19 f_AL_48 rfl rfl ⟨rfl, rfl⟩ (hR.1.1 1 0 dk1) ?_
    exact ws_vret C R d_AL_add_1_22 rfl (by omega) (by omega) ⟨rfl, ⟨_, hR.push e1 e2 e3 hM hU⟩⟩
  rcases hR.2.2.2.2.2.1.2.1 with ⟨e1, e2, e3⟩ | ⟨hz, hc0⟩
  · refine ws_iload_n C d_AL_add_1_0 rfl ?_
    refine ws_aload_n C d_AL_add_1_1 rfl ?_
    refine ws_alen C (kd := 14) (by decide) (by decide) d_AL_add_1_2 e1 ?_
    refine ws_icmp_neN C d_AL_add_1_3 (by omega) (by omega) (fun h3 => ?_) (fun h3 => ?_)
    · exact ws_widen (by omega) (by omega) (k11 r S hR e1 (by omega) e3 hM)
    · refine ws_aload_n C d_AL_add_1_6 rfl ?_
      refine ws_callV C w_AL_129 (As := []) (c_AL_grow_0 hR hO hc (fun _ => by omega)) d_AL_add_1_7 rfl rfl (hR.1.1 1 0 dk1) (Nat.le_of_ble_eq_true rfl) (by decide) (by omega) (by omega) (fun v S1 hv => ?_)
      obtain ⟨q, rfl, hR1, hfm, e4, e5, e6⟩ := hv
      refine ws_astore_n C d_AL_add_1_10 (by rw [hn]; decide) ?_
      exact k11 (r.1, q, r.2.2) S1 hR1 e4 e5 e6 (hM.fm hfm)
  · have hz : r.2.1 = xz F := hz
    refine ws_z0 (a := 0) C (fun hz0 => ?_)
    refine ws_iload_n C d_AL_add_1_0 rfl ?_
    refine ws_aload_n C d_AL_add_1_1 rfl ?_
    rw [hz]
    refine ws_alenZ C d_AL_add_1_2 ?_
    refine ws_icmp_neN C d_AL_add_1_3 (by omega) (by omega) (fun h3 => ?_) (fun h3 => ?_)
    · omega
    · refine ws_aload_n C d_AL_add_1_6 rfl ?_
      refine ws_callV C w_AL_129 (As := []) (c_AL_grow_0 hR hO hc (fun h14 => ?_)) d_AL_add_1_7 rfl rfl (hR.1.1 1 0 dk1) (Nat.le_of_ble_eq_true rfl) (by decide) (by omega) (by omega) (fun v S1 hv => ?_)
      · rw [hz, hz0] at h14; cases h14
      obtain ⟨q, rfl, hR1, hfm, e4, e5, e6⟩ := hv
      refine ws_astore_n C d_AL_add_1_10 (by rw [hn]; decide) ?_
      exact k11 (r.1, q, r.2.2) S1 hR1 e4 e5 e6 (hM.fm hfm)
set_option maxHeartbeats 4000000 in
set_option maxRecDepth 100000 in
theorem c_AL_add_0 {V : Ev} {h : Nat → Nat → Nat} {t : Nat → Nat} {G : GS} {S : Sto} {r : Rg} (hR : XR (vZ V) h t r G S) (hO : OK G) (hc : G.1 20 0 ≤ 1399) {q0 k v w e a b : Nat} (hM : MsgF S q0 r.2.2 k v w e a b) (hU : k = 1 → a ≤ G.1 4 v) : CT V mi_AL_add_0 1 2200 [.ref (h 1 0), .ref q0] S (Pi (nI 1) (XE (vZ V) h t (pushM G v w k e a b))) := by
  refine CT.of (cc := prog_16_method_25_code) (own := "java/util/ArrayList") (nL := 2) (d := 6) (by decide) rfl rfl rfl rfl (by simp [Value.category]) (Nat.le_of_ble_eq_true rfl) rfl ?_
  intro F hV hn C R
  subst hV
  refine ws_aload_n C d_AL_add_0_0 rfl ?_
  refine ws_dup C d_AL_add_0_1 rfl ?_
  refine ws_getI C d_AL_add_0_2 f_AL_63 rfl (hR.1.1 1 0 dk1) ?_
  refine ws_iconst C (nI 1) d_AL_add_0_5 (by decide) ?_
  refine ws_iadd C d_AL_add_0_6 ?_
  refine ws_putI C d_AL_add_0_7 f_AL_63 rfl rfl ⟨rfl, rfl⟩ (hR.1.1 1 0 dk1) ?_
  have hR1 := hR.modc (sI S 32 (h 1 0) + nI 1)
  have hM1 := hM.fm (fm_modc (a := h 1 0) (x := sI S 32 (h 1 0) + nI 1))
  generalize setI S 32 (h 1 0) (sI S 32 (h 1 0) + nI 1) = S at *
  refine ws_aload_n C d_AL_add_0_10 rfl ?_
  refine ws_aload_n C d_AL_add_0_11 rfl ?_
  refine ws_aload_n C d_AL_add_0_12 rfl ?_
  refine ws_getP C d_AL_add_0_13 f_AL_9 rfl (hR1.1.1 1 0 dk1) hR1.2.2.2.2.2.1.1 ?_
  refine ws_aload_n C d_AL_add_0_16 rfl ?_
  refine wx_getI C ⟨r, hR1⟩ 34 0 (nI (G.1 20 0)) d_AL_add_0_17 f_AL_48 rfl rfl (dmX (by decide)) rfl ?_
  refine ws_callVv C w_AL_131 (As := [_, _, _]) (c_AL_add_1 hR1 hO hc hM1 hU) d_AL_add_0_20 rfl rfl (hR1.1.1 1 0 dk1) (Nat.le_of_ble_eq_true rfl) (by decide) (by omega) (by omega) (fun S2 hS2 => ?_)
  refine ws_iconst C (nI 1) d_AL_add_0_23 (by decide) ?_
  exact ws_zret C R d_AL_add_0_24 rfl (by decide) (by omega) (by omega) ⟨rfl, hS2⟩
set_option maxHeartbeats 4000000 in
set_option maxRecDepth 100000 in
theorem c_AL_fastRemove {V : Ev} {h : Nat → Nat → Nat} {t : Nat → Nat} {G : GS} {S : Sto} {r : Rg} (hR : XR (vZ V) h t r G S) (hO : OK G) {i : Nat} (hi : i < G.1 20 0) : CT V mi_AL_fastRemove 0 0 [.ref (h 1 0), .ref r.2.1, .int (nI i)] S (Pv (XE (vZ V) h t (stk G i))) := by
  refine CT.of (cc := prog_16_method_39_code) (own := "java/util/ArrayList") (nL := 4) (d := 1) (by decide) rfl rfl rfl rfl (by simp [Value.category]) (Nat.le_of_ble_eq_true rfl) rfl ?_
  intro F hV hn C R
  subst hV
  have hb20 : G.1 20 0 ≤ 1399 := hO 20 0
  obtain ⟨e1, e2, e3⟩ := hR.cnt_el (show 0 < G.1 20 0 by omega)
  have k34 : ∀ S2 : Sto, sK S2 = sK S → (∀ f a, f ≠ 34 → f ≠ 32 → sI S2 f a = sI S f a) → sP S2 = sP S → sE S2 = sE S → sZ S2 = sZ S → (∀ k a, k ≠ 14 → sQ S2 k a = sQ S k a) → (∀ j, j < G.1 20 0 - 1 → sQ S2 14 r.2.1 j = sQ S 14 r.2.1 (if j < i then j else j + 1)) → WS F 34 [some (.ref (h 1 0)), some (.ref r.2.1), some (.int (nI i)), some (.int (nI (G.1 20 0 - 1)))] [] S2 0 0 := by
    intro S2 j1 j2 j3 j4 j5 j6 j7
    have hfin : XR (vZ F.1) h t (fun j => r.1 (if j < i then j else j + 1), r.2.1, r.2.2) (stk G i) (setQ (setI S2 34 (h 1 0) (nI (G.1 20 0 - 1))) 14 r.2.1 (G.1 20 0 - 1) none) := by
      refine hR.del hi j1 (fun f a h1 h2 => ?_) ?_ j3 j4 j5 (fun k a hk => ?_) (fun j hj => ?_)
      · show up2 (sI S2) 34 (h 1 0) _ f a = _; rw [up2, if_neg (fun z => h1 z.1)]; exact j2 f a h1 h2
      · show up2 (sI S2) 34 (h 1 0) _ 34 (h 1 0) = _; rw [up2, if_pos ⟨rfl, rfl⟩]
      · funext x; show up3 (sQ S2) 14 r.2.1 _ none k a x = _; rw [up3, if_neg (fun z => hk z.1), j6 k a hk]
      · show up3 (sQ S2) 14 r.2.1 _ none 14 r.2.1 j = _; rw [up3, if_neg (by omega)]; exact j7 j hj
    refine ws_aload_n C d_AL_fastRemove_34 rfl ?_
    refine ws_aload_n C d_AL_fastRemove_35 rfl ?_
    refine ws_iload_n C d_AL_fastRemove_36 rfl ?_
    refine ws_dup_x1 C d_AL_fastRemove_37 rfl rfl ?_
    refine ws_putI C d_AL_fastRemove_38 f_AL_48 rfl rfl ⟨rfl, rfl⟩ (by rw [j1]; exact hR.1.1 1 0 dk1) ?_
    refine ws_null C d_AL_fastRemove_41 ?_
    refine ws_aastN (kd := 14) C d_AL_fastRemove_42 (by decide) (by decide) (show sK S2 r.2.1 = 14 by rw [j1]; exact e1) (show _ < sZ S2 r.2.1 by rw [j5]; omega) (show sZ S2 r.2.1 < _ by rw [j5]; omega) ?_
    exact ws_vret C R d_AL_fastRemove_43 rfl (by decide) (by decide) ⟨rfl, ⟨_, hfin⟩⟩
  refine ws_aload_n C d_AL_fastRemove_0 rfl ?_
  refine ws_dup C d_AL_fastRemove_1 rfl ?_
  refine ws_getI C d_AL_fastRemove_2 f_AL_63 rfl (hR.1.1 1 0 dk1) ?_
  refine ws_iconst C (nI 1) d_AL_fastRemove_5 (by decide) ?_
  refine ws_iadd C d_AL_fastRemove_6 ?_
  refine ws_putI C d_AL_fastRemove_7 f_AL_63 rfl rfl ⟨rfl, rfl⟩ (hR.1.1 1 0 dk1) ?_
  have hsz : sI (setI S 32 (h 1 0) (sI S 32 (h 1 0) + nI 1)) 34 (h 1 0) = nI (G.1 20 0) := by
    show up2 (sI S) 32 (h 1 0) (sI S 32 (h 1 0) + nI 1) 34 (h 1 0) = nI (G.1 20 0); rw [up2, if_neg (by omega)]; exact hR.2.1 34 0 (dmX (by decide))
  have hSI : ∀ f a, f ≠ 34 → f ≠ 32 → sI (setI S 32 (h 1 0) (sI S 32 (h 1 0) + nI 1)) f a = sI S f a := fun f a _ h2 => by show up2 (sI S) 32 (h 1 0) (sI S 32 (h 1 0) + nI 1) f a = _; rw [up2, if_neg (fun z => h2 z.1)]
  generalize hS1 : setI S 32 (h 1 0) (sI S 32 (h 1 0) + nI 1) = S1 at *
  have k1 : sK S1 = sK S := by rw [← hS1]; rfl
  have k2 : sP S1 = sP S := by rw [← hS1]; rfl
  have k3 : sE S1 = sE S := by rw [← hS1]; rfl
  have k4 : sQ S1 = sQ S := by rw [← hS1]; rfl
  have k5 : sZ S1 = sZ S := by rw [← hS1]; rfl
  refine ws_aload_n C d_AL_fastRemove_10 rfl ?_
  refine ws_getI C d_AL_fastRemove_11 f_AL_48 rfl (by rw [k1]; exact hR.1.1 1 0 dk1) ?_
  rw [hsz]
  refine ws_iconst C (nI 1) d_AL_fastRemove_14 (by decide) ?_
  refine ws_isubN C d_AL_fastRemove_15 (by omega) ?_
  refine ws_dup C d_AL_fastRemove_16 rfl ?_
  refine ws_istore_n C d_AL_fastRemove_17 (by rw [hn]; decide) ?_
  refine ws_iload_n C d_AL_fastRemove_18 rfl ?_
  refine ws_icmp_leN C d_AL_fastRemove_19 (by omega) (by omega) (fun h19 => ?_) (fun h19 => ?_)
  · refine k34 S1 k1 hSI k2 k3 k5 (fun k a _ => by rw [k4]) (fun j hj => ?_)
    rw [k4, if_pos (by omega)]
  · refine ws_aload_n C d_AL_fastRemove_22 rfl ?_
    refine ws_iload_n C d_AL_fastRemove_23 rfl ?_
    refine ws_iconst C (nI 1) d_AL_fastRemove_24 (by decide) ?_
    refine ws_iaddN C d_AL_fastRemove_25 ?_
    refine ws_aload_n C d_AL_fastRemove_26 rfl ?_
    refine ws_iload_n C d_AL_fastRemove_27 rfl ?_
    refine ws_iload_n C d_AL_fastRemove_28 rfl ?_
    refine ws_iload_n C d_AL_fastRemove_29 rfl ?_
    refine ws_isubN C d_AL_fastRemove_30 (by omega) ?_
    refine ws_copyQ C (tb_at 534 (by decide +kernel) (by decide +kernel)) d_AL_fastRemove_31 (by rw [k1]; exact e1) (by rw [k1]; exact e1) (by rw [k5]; omega) (by rw [k5]; omega) (by rw [k5]; omega) (by rw [k5]; omega) ?_ (by decide) (Nat.le_of_ble_eq_true rfl) ?_
    · intro j hj y hy
      obtain ⟨q1, q2⟩ := hR.2.2.2.2.2.1.2.2 (i + 1 + j) (by omega)
      rw [k4, q1] at hy; cases hy; rw [k1]; exact q2.1
    refine k34 _ ?_ ?_ ?_ ?_ ?_ ?_ ?_
    · exact k1
    · exact hSI
    · exact k2
    · exact k3
    · exact k5
    · intro k a hk
      funext x
      show (if k = 14 ∧ a = r.2.1 then _ else sQ S1 k a x) = _
      rw [if_neg (fun z => hk z.1), k4]
    · intro j hj
      show (if 14 = 14 ∧ r.2.1 = r.2.1 then va_cpy (sQ S1 14 r.2.1) (sQ S1 14 r.2.1) (i + 1) i (G.1 20 0 - 1 - i) j else _) = _
      rw [if_pos ⟨rfl, rfl⟩, va_cpy, k4]
      by_cases hji : j < i
      · rw [if_neg (by omega), if_pos hji]
      · rw [if_pos (by omega), if_neg hji, show i + 1 + (j - i) = j + 1 by omega]
set_option maxHeartbeats 4000000 in
set_option maxRecDepth 100000 in
theorem c_AL_remove {V : Ev} {h : Nat → Nat → Nat} {t : Nat → Nat} {G : GS} {S : Sto} {r : Rg} (hR : XR (vZ V) h t r G S) (hO : OK G) {i : Nat} (hi : i < G.1 20 0) : CT V mi_AL_remove 0 0 [.ref (h 1 0), .int (nI i)] S (Pr (some (r.1 i)) (XE (vZ V) h t (stk G i))) := by
  refine CT.of (cc := prog_16_method_29_code) (own := "java/util/ArrayList") (nL := 4) (d := 2) (by decide) rfl rfl rfl rfl (by simp [Value.category]) (Nat.le_of_ble_eq_true rfl) rfl ?_
  intro F hV hn C R
  subst hV
  have hb20 : G.1 20 0 ≤ 1399 := hO 20 0
  obtain ⟨e1, e2, e3⟩ := hR.cnt_el (show 0 < G.1 20 0 by omega)
  obtain ⟨q1, q2⟩ := hR.2.2.2.2.2.1.2.2 i hi
  refine ws_iload_n C d_AL_remove_0 rfl ?_
  refine ws_aload_n C d_AL_remove_1 rfl ?_
  refine wx_getI C ⟨r, hR⟩ 34 0 (nI (G.1 20 0)) d_AL_remove_2 f_AL_48 rfl rfl (dmX (by decide)) rfl ?_
  refine ws_callSi C w_AL_118 (As := [_, _]) (c_Ob_checkIndex (P := fun S' => S = S') rfl hi (by omega)) d_AL_remove_5 rfl rfl (Nat.le_of_ble_eq_true rfl) (by decide) (by omega) (by omega) (fun S1 hS1 => ?_)
  subst hS1
  refine ws_pop C d_AL_remove_8 rfl ?_
  refine ws_aload_n C d_AL_remove_9 rfl ?_
  refine ws_getP C d_AL_remove_10 f_AL_9 rfl (hR.1.1 1 0 dk1) hR.2.2.2.2.2.1.1 ?_
  refine ws_astore_n C d_AL_remove_13 (by rw [hn]; decide) ?_
  refine ws_aload_n C d_AL_remove_14 rfl ?_
  refine ws_iload_n C d_AL_remove_15 rfl ?_
  refine ws_aald C (kd := 14) (by decide) (by decide) d_AL_remove_16 e1 (by omega) (by omega) ?_
  rw [q1]
  refine ws_astore_n C d_AL_remove_17 (by rw [hn]; decide) ?_
  refine ws_aload_n C d_AL_remove_18 rfl ?_
  refine ws_aload_n C d_AL_remove_19 rfl ?_
  refine ws_iload_n C d_AL_remove_20 rfl ?_
  refine ws_callVv C w_AL_144 (As := [_, _]) (c_AL_fastRemove hR hO hi) d_AL_remove_21 rfl rfl (hR.1.1 1 0 dk1) (Nat.le_of_ble_eq_true rfl) (by decide) (by omega) (by omega) (fun S2 hS2 => ?_)
  refine ws_aload_n C d_AL_remove_24 rfl ?_
  exact ws_aret C R d_AL_remove_25 rfl (Or.inl ⟨_, rfl⟩) (Or.inr ⟨_, rfl⟩) (by decide) (by decide) ⟨rfl, hS2⟩
