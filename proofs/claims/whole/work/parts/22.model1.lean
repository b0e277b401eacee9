/-! the reference: its leaves -/
theorem nI_one : nI 1 = 1 := by decide
theorem bI01 (b : Bool) : bI b = 0 ∨ bI b = 1 := by cases b <;> decide
set_option maxHeartbeats 4000000 in
set_option maxRecDepth 100000 in
theorem c_M_outside {V : Ev} {S : Sto} {P : Sto → Prop} (hP : P S) (x : Int32) (n : Nat) : CT V mi_M_outside 0 0 [.int x, .int (nI n)] S (Pi (bI (!inN x n)) P) := by
  refine CT.of (cc := prog_8_method_2_code) (own := "ChainVersionsModel") (nL := 2) (d := 0) (by decide) rfl rfl rfl rfl (by simp [Value.category]) (Nat.le_of_ble_eq_true rfl) rfl ?_
  intro F hV hn C R
  subst hV
  refine ws_iload_n C d_M_outside_0 rfl ?_
  refine ws_if_lt C d_M_outside_1 (fun h1 => ?_) (fun h1 => ?_)
  · refine ws_iconst C (nI 1) d_M_outside_9 (by decide) ?_
    refine ws_goto C d_M_outside_10 ?_
    exact ws_zret C R d_M_outside_14 rfl (by decide) (by decide) (by decide) ⟨by simp [inN, bI, nI_0, nI_one, *], hP⟩
  · refine ws_iload_n C d_M_outside_4 rfl ?_
    refine ws_iload_n C d_M_outside_5 rfl ?_
    refine ws_icmp_le C d_M_outside_6 (fun h6 => ?_) (fun h6 => ?_)
    · refine ws_iconst C (nI 0) d_M_outside_13 (by decide) ?_
      exact ws_zret C R d_M_outside_14 rfl (by decide) (by decide) (by decide) ⟨by simp [inN, bI, nI_0, nI_one, *], hP⟩
    · refine ws_iconst C (nI 1) d_M_outside_9 (by decide) ?_
      refine ws_goto C d_M_outside_10 ?_
      exact ws_zret C R d_M_outside_14 rfl (by decide) (by decide) (by decide) ⟨by simp [inN, bI, nI_0, nI_one, *], hP⟩
theorem isb (m : Nat) (hm : m ≤ 63) (w : Nat) (hw : w ≤ 5) : ((nI m >>> (nI w &&& 31)) &&& nI 1 = nI 1) ↔ m.testBit w = true := by
  have : ∀ m, m < 64 → ∀ w, w < 6 → (((nI m >>> (nI w &&& 31)) &&& nI 1 = nI 1) ↔ m.testBit w = true) := by decide +kernel
  exact this m (by omega) w (by omega)
theorem isb_f {G : GS} {e w : Nat} (hm : G.1 7 e ≤ 63) (hw : w ≤ 5) (h : ¬ (nI (G.1 7 e) >>> (nI w &&& 31)) &&& nI 1 = nI 1) : bI (isIn G e w) = nI 0 := by
  have : isIn G e w = false := by
    cases h9 : isIn G e w with
    | false => rfl
    | true => exact absurd ((isb _ hm w hw).mpr h9) h
  rw [this]; rfl
theorem isb_t {G : GS} {e w : Nat} (hm : G.1 7 e ≤ 63) (hw : w ≤ 5) (h : (nI (G.1 7 e) >>> (nI w &&& 31)) &&& nI 1 = nI 1) : bI (isIn G e w) = nI 1 := by
  have : isIn G e w = true := (isb _ hm w hw).mp h
  rw [this]; rfl
set_option maxHeartbeats 4000000 in
set_option maxRecDepth 100000 in
theorem c_M_isIn {V : Ev} {o : Nat} {ad : Nat → Nat} {G : GS} {S : Sto} (hR : MR o ad G S) (hO : OK G) {e w : Nat} (he : e ≤ 13) (hw : w ≤ 5) : CT V mi_M_isIn 0 0 [.ref o, .int (nI e), .int (nI w)] S (Pi (bI (isIn G e w)) (MR o ad G)) := by
  refine CT.of (cc := prog_8_method_3_code) (own := "ChainVersionsModel") (nL := 3) (d := 0) (by decide) rfl rfl rfl rfl (by simp [Value.category]) (Nat.le_of_ble_eq_true rfl) rfl ?_
  intro F hV hn C R
  subst hV
  have hm : G.1 7 e ≤ 63 := hO 7 e
  refine ws_aload_n C d_M_isIn_0 rfl ?_
  refine wm_arr C hR 7 d_M_isIn_1 f_M_29 rfl rfl rfl ?_
  refine ws_iload_n C d_M_isIn_4 rfl ?_
  refine wm_aldN C hR 7 d_M_isIn_5 rfl rfl (by decide) (show _ < 14 by omega) ?_
  refine ws_iload_n C d_M_isIn_6 rfl ?_
  refine ws_ishr C d_M_isIn_7 ?_
  refine ws_iconst C (nI 1) d_M_isIn_8 (by decide) ?_
  refine ws_iand C d_M_isIn_9 ?_
  refine ws_iconst C (nI 1) d_M_isIn_10 (by decide) ?_
  refine ws_icmp_ne C d_M_isIn_11 (fun h11 => ?_) (fun h11 => ?_)
  · refine ws_iconst C (nI 0) d_M_isIn_18 (by decide) ?_
    exact ws_zret C R d_M_isIn_19 rfl (by decide) (by decide) (by decide) ⟨by first | rw [isb_t hm hw h11] | rw [isb_f hm hw h11], hR⟩
  · refine ws_iconst C (nI 1) d_M_isIn_14 (by decide) ?_
    refine ws_goto C d_M_isIn_15 ?_
    exact ws_zret C R d_M_isIn_19 rfl (by decide) (by decide) (by decide) ⟨by first | rw [isb_t hm hw h11] | rw [isb_f hm hw h11], hR⟩
set_option maxHeartbeats 4000000 in
set_option maxRecDepth 100000 in
theorem c_M_predecessor {V : Ev} {o : Nat} {ad : Nat → Nat} {G : GS} {S : Sto} (hR : MR o ad G S) (hO : OK G) {v : Nat} (hv : v ≤ 5) : CT V mi_M_predecessor 0 0 [.ref o, .int (nI v)] S (Pi (oI (prd G v)) (MR o ad G)) := by
  refine CT.of (cc := prog_8_method_4_code) (own := "ChainVersionsModel") (nL := 3) (d := 1) (by decide) rfl rfl rfl rfl (by simp [Value.category]) (Nat.le_of_ble_eq_true rfl) rfl ?_
  intro F hV hn C R
  subst hV
  have hb3 : G.1 3 v ≤ 12 := hO 3 v
  refine ws_iload_n C d_M_predecessor_0 rfl ?_
  refine ws_iconst C (nI 1) d_M_predecessor_1 (by decide) ?_
  refine ws_isub C d_M_predecessor_2 ?_
  refine ws_istore_n C d_M_predecessor_3 (by rw [hn]; decide) ?_
  suffices hL : ∀ n, n ≤ 5 → prdF G (G.1 3 v) n = prd G v → ∀ S : Sto, MR o ad G S → ∀ x : Int32, x = nI n - nI 1 → WS F 4 [some (.ref o), some (.int (nI v)), some (.int x)] [] S 0 0 from hL v hv rfl S hR _ rfl
  intro n
  induction n with
  | zero =>
    intro _ hp S hR x hx
    subst hx
    refine ws_iload_n C d_M_predecessor_4 rfl ?_
    refine ws_if_lt C d_M_predecessor_5 (fun _ => ?_) (fun h => absurd (by decide) h)
    refine ws_iconst C (-1) d_M_predecessor_30 (by decide) ?_
    exact ws_iret C R d_M_predecessor_31 rfl (by decide) (by decide) ⟨by rw [← hp]; rfl, hR⟩
  | succ n ih =>
    intro hn5 hp S hR x hx
    have hx1 : x = nI n := by rw [hx, nI_sub (by omega)]; rfl
    subst hx1
    refine ws_iload_n C d_M_predecessor_4 rfl ?_
    refine ws_if_ltN C d_M_predecessor_5 (by omega) ?_
    refine ws_aload_n C d_M_predecessor_8 rfl ?_
    refine ws_aload_n C d_M_predecessor_9 rfl ?_
    refine wm_arr C hR 3 d_M_predecessor_10 f_M_16 rfl rfl rfl ?_
    refine ws_iload_n C d_M_predecessor_13 rfl ?_
    refine wm_aldN C hR 3 d_M_predecessor_14 rfl rfl (by decide) (show _ < 6 by omega) ?_
    refine ws_iload_n C d_M_predecessor_15 rfl ?_
    refine ws_callVi C w_M_90 (As := [_, _]) (c_M_isIn hR hO (by omega) (by omega)) d_M_predecessor_16 rfl rfl hR.1 (Nat.le_of_ble_eq_true rfl) (by decide) (by decide) (by decide) (fun S hR => ?_)
    refine ws_if_eqB C d_M_predecessor_19 (fun h19 => ?_) (fun h19 => ?_)
    · refine ws_iinc C (nI n - nI 1) d_M_predecessor_24 rfl (by rw [Int32.sub_eq_add_neg]; rfl) (by rw [hn]; decide) ?_
      refine ws_goto C d_M_predecessor_27 ?_
      exact ih (by omega) (by rw [← hp, prdF, if_neg (by rw [h19]; decide)]) S hR _ rfl
    · refine ws_iload_n C d_M_predecessor_22 rfl ?_
      exact ws_iret C R d_M_predecessor_23 rfl (by decide) (by decide) ⟨by rw [← hp, prdF, if_pos h19]; rfl, hR⟩
