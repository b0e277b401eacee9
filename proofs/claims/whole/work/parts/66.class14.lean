/-! the class: tick -/
theorem mem_in {M i m : Nat} (h : (mem M)[i]? = some m) : M.testBit m = true ∧ m < 6 := by
  have := List.mem_of_getElem? h
  unfold mem at this
  rw [List.mem_filter] at this
  exact ⟨this.2, List.mem_range.mp this.1⟩
theorem get_some {l : List Nat} {i : Nat} (h : i < l.length) : ∃ m, l[i]? = some m := ⟨l[i], List.getElem?_eq_getElem h⟩
theorem tck_six (G : GS) (x : Nat) {j : Nat} (h : j ≠ 6) : (gN (tcS 6 G) 27 0 x).1 j = (gN G 27 0 x).1 j := by
  funext i
  rw [gN_1, gN_1, tcS_ne G h 6]
theorem tck_six2 (G : GS) (x a b c : Nat) {j : Nat} (h : j ≠ 6) : (gN (gN (gN (tcS 6 G) 27 0 x) 8 0 a) 7 b c).1 j = (gN (gN (gN G 27 0 x) 8 0 a) 7 b c).1 j := by
  funext i
  rw [gN_1, gN_1 (gN (gN G 27 0 x) 8 0 a), gN_1, gN_1 (gN G 27 0 x), tck_six G x h]
set_option maxHeartbeats 4000000 in
set_option maxRecDepth 100000 in
theorem c_X_withoutSilent {V : Ev} {h : Nat → Nat → Nat} {t : Nat → Nat} {G : GS} {S : Sto} {r : Rg} (hX : XR (vZ V) h t r G S) (hO : OK G) (hW : WF G) {k : Nat} (hk : k = ((mem (G.1 7 (G.1 8 0))).filter (sil G)).length) (hC : ∀ w, isIn G (G.1 8 0) w = true → G.1 1 w = 0 → G.1 28 w ≤ G.1 27 0) : CT V mi_X_withoutSilent 2 8 [.ref (h 6 0), .int (nI k)] S (fun v S' => ∃ q qa, v = some (.ref q) ∧ XR (vZ V) h t r G S' ∧ NC S' q qa (G.1 8 0 + 1) ((mem (G.1 7 (G.1 8 0))).filter (fun w => !sil G w))) := by
  refine CT.of (cc := prog_1_method_28_code) (own := "ChainVersions") (nL := 6) (d := 3) (by decide) rfl rfl rfl rfl (by simp [Value.category]) (Nat.le_of_ble_eq_true rfl) rfl ?_
  intro F hV hn C R
  subst hV
  have hml := mem_len (G.1 7 (G.1 8 0))
  have hfl := flt_len (sil G) (mem (G.1 7 (G.1 8 0)))
  have hnw := hW.nw
  have hR : XE (vZ F.1) h t G S := ⟨r, hX⟩
  refine ws_aload_n C d_X_withoutSilent_0 rfl ?_
  refine wx_getP C hR 195 0 (h 3 (G.1 8 0)) d_X_withoutSilent_1 f_X_42 rfl rfl (dpX (by decide)) rfl ?_
  refine wx_getP C hR 97 (G.1 8 0) (h 9 (G.1 8 0)) d_X_withoutSilent_4 f_X_167 rfl rfl (dpF hW.nw) rfl ?_
  refine ws_astore_n C d_X_withoutSilent_7 (by rw [hn]; decide) ?_
  refine ws_iconst C (nI 0) d_X_withoutSilent_8 (by decide) ?_
  refine ws_aload_n C d_X_withoutSilent_9 rfl ?_
  refine wx_mln C hR d_X_withoutSilent_10 hW.nw ?_
  refine ws_iload_n C d_X_withoutSilent_11 rfl ?_
  refine ws_isubN C d_X_withoutSilent_12 (by omega) ?_
  refine ws_mmax C (tb_at 108 (by decide +kernel) (by decide +kernel)) d_X_withoutSilent_13 (by decide) (by decide) (by decide) (Nat.le_of_ble_eq_true rfl) ?_
  rw [max_n (by omega) (by omega), Nat.max_eq_right (Nat.zero_le _)]
  refine ws_newi C d_X_withoutSilent_16 (by omega) arr_I (by decide) (by omega) (fun qa hqa => ?_)
  have F0 : SF S (newA S qa 9 ((mem (G.1 7 (G.1 8 0))).length - k)) := (SF.rf S).nA hqa (by decide)
  have hkA : sK (newA S qa 9 ((mem (G.1 7 (G.1 8 0))).length - k)) qa = 9 := by show va_up (sK S) qa 9 qa = 9; rw [va_up, if_pos rfl]
  have hzA : sZ (newA S qa 9 ((mem (G.1 7 (G.1 8 0))).length - k)) qa = ((mem (G.1 7 (G.1 8 0))).filter (fun w => !sil G w)).length := by show va_up (sZ S) qa _ qa = _; rw [va_up, if_pos rfl]; omega
  have hE : ∀ (y4 y5 : Option Value) (S1 : Sto), SF S S1 → sK S1 qa = 9 → sZ S1 qa = ((mem (G.1 7 (G.1 8 0))).filter (fun w => !sil G w)).length → (∀ j m, ((mem (G.1 7 (G.1 8 0))).filter (fun w => !sil G w))[j]? = some m → sE S1 9 qa j = nI m) → WS F 67 [some (.ref (h 6 0)), some (.int (nI k)), some (.ref (h 9 (G.1 8 0))), some (.ref qa), y4, y5] [] S1 (0 + 1) (0 + ((mem (G.1 7 (G.1 8 0))).length - k)) := by
    intro y4 y5 S1 F1 hk1 hz1 hel
    have hX1 := hX.sf F1
    refine ws_new (kd := 3) (n := 2) C d_X_withoutSilent_67 (by decide) (by decide) rfl (tb_at 111 (by decide +kernel) (by decide +kernel)) (tb_at 112 (by decide +kernel) (by decide +kernel)) (tb_at 56 (by decide +kernel) (by decide +kernel)) (by decide) (by omega) (fun q hq => ?_)
    have F2 := F1.nO (kd := 3) hq (by decide)
    have hq0 := F1.z hq
    have hqq : qa ≠ q := fun z => by rw [← z, hk1] at hq; cases hq
    have hR : XE (vZ F.1) h t G _ := ⟨r, hX.sf F2⟩
    refine ws_dup C d_X_withoutSilent_70 rfl ?_
    refine ws_aload_n C d_X_withoutSilent_71 rfl ?_
    refine wx_getP C hR 195 0 (h 3 (G.1 8 0)) d_X_withoutSilent_72 f_X_42 rfl rfl (dpX (by decide)) rfl ?_
    refine wx_getI C hR 96 (G.1 8 0) (nI (G.1 8 0)) d_X_withoutSilent_75 f_X_122 rfl rfl (dmF hW.nw) rfl ?_
    refine ws_iconst C (nI 1) d_X_withoutSilent_78 (by decide) ?_
    refine ws_iaddN C d_X_withoutSilent_79 ?_
    refine ws_aload_n C d_X_withoutSilent_80 rfl ?_
    refine ws_callIv C w_X_39 (As := [_, _]) (c_Cf_init (newO_K _ _ _)) d_X_withoutSilent_81 rfl rfl (Nat.le_of_ble_eq_true rfl) (by decide) (by decide) (by omega) (fun S5 hS5 => ?_)
    subst hS5
    exact ws_aret C R d_X_withoutSilent_84 rfl (Or.inl ⟨_, rfl⟩) (Or.inr ⟨_, rfl⟩) (by omega) (by omega) ⟨q, qa, rfl, hX.sf ((F2.I (f := 96) (x := nI (G.1 8 0 + 1)) hq0 (by decide)).P (f := 97) (x := some qa) hq0 (by decide)), newO_K _ _ _, by show up2 _ 96 q _ 96 q = _; rw [up2, if_pos ⟨rfl, rfl⟩], by show up2 _ 97 q _ 97 q = _; rw [up2, if_pos ⟨rfl, rfl⟩], by show va_up (sK S1) q 3 qa = 9; rw [va_up, if_neg hqq]; exact hk1, hz1, hel⟩
  clear hR
  refine ws_astore_n C d_X_withoutSilent_18 (by rw [hn]; decide) ?_
  refine ws_iconst C (nI 0) d_X_withoutSilent_19 (by decide) ?_
  refine ws_istore C d_X_withoutSilent_20 (by rw [hn]; decide) ?_
  refine ws_iconst C (nI 0) d_X_withoutSilent_22 (by decide) ?_
  refine ws_istore C d_X_withoutSilent_23 (by rw [hn]; decide) ?_
  suffices hL : ∀ n i (S1 : Sto), i + n = (mem (G.1 7 (G.1 8 0))).length → SF S S1 → sK S1 qa = 9 → sZ S1 qa = ((mem (G.1 7 (G.1 8 0))).filter (fun w => !sil G w)).length → (∀ j m, (((mem (G.1 7 (G.1 8 0))).take i).filter (fun w => !sil G w))[j]? = some m → sE S1 9 qa j = nI m) → WS F 25 [some (.ref (h 6 0)), some (.int (nI k)), some (.ref (h 9 (G.1 8 0))), some (.ref qa), some (.int (nI (((mem (G.1 7 (G.1 8 0))).take i).filter (fun w => !sil G w)).length)), some (.int (nI i))] [] S1 (0 + 1) (0 + ((mem (G.1 7 (G.1 8 0))).length - k)) from
    hL (mem (G.1 7 (G.1 8 0))).length 0 _ (by omega) F0 hkA hzA (fun j m hj => by simp at hj)
  intro n
  induction n with
  | zero =>
    intro i S1 hi F1 hk1 hz1 hel
    have hie : i = (mem (G.1 7 (G.1 8 0))).length := by omega
    have hR : XE (vZ F.1) h t G S1 := ⟨r, hX.sf F1⟩
    have ht : ((mem (G.1 7 (G.1 8 0))).take i).filter (fun w => !sil G w) = ((mem (G.1 7 (G.1 8 0))).filter (fun w => !sil G w)) := by rw [hie, List.take_length]
    refine ws_iload C d_X_withoutSilent_25 rfl ?_
    refine ws_aload_n C d_X_withoutSilent_27 rfl ?_
    refine wx_mln C hR d_X_withoutSilent_28 hnw ?_
    refine ws_icmp_geN C d_X_withoutSilent_29 (by omega) (by omega) (fun h29 => ?_) (fun h29 => ?_)
    · exact hE _ _ S1 F1 hk1 hz1 (by rw [ht] at hel; exact hel)
    · omega
  | succ n ih =>
    intro i S1 hi F1 hk1 hz1 hel
    have hR : XE (vZ F.1) h t G S1 := ⟨r, hX.sf F1⟩
    obtain ⟨m, hm⟩ := get_some (show i < (mem (G.1 7 (G.1 8 0))).length by omega)
    have hmi := mem_in hm
    have hm0 := hW.2.2.2.2.1 _ m (Nat.le_refl _) hmi.1
    have hm5 : m ≤ 5 := by omega
    have hts := take_s hm (fun w => !sil G w)
    have hcl : (((mem (G.1 7 (G.1 8 0))).take i).filter (fun w => !sil G w)).length ≤ 6 := Nat.le_trans (List.length_filter_le _ _) (by rw [List.length_take]; omega)
    refine ws_iload C d_X_withoutSilent_25 rfl ?_
    refine ws_aload_n C d_X_withoutSilent_27 rfl ?_
    refine wx_mln C hR d_X_withoutSilent_28 hnw ?_
    refine ws_icmp_geN C d_X_withoutSilent_29 (by omega) (by omega) (fun h29 => ?_) (fun h29 => ?_)
    · omega
    · refine ws_iload C d_X_withoutSilent_32 rfl ?_
      refine ws_aload_n C d_X_withoutSilent_34 rfl ?_
      refine ws_alen (kd := 9) C (by decide) (by decide) d_X_withoutSilent_35 hk1 ?_
      rw [hz1]
      refine ws_icmp_geN C d_X_withoutSilent_36 (by omega) (by omega) (fun h36 => ?_) (fun h36 => ?_)
      · have ht := take_full (l := mem (G.1 7 (G.1 8 0))) (i := i) (p := (fun w => !sil G w)) (by omega)
        exact hE _ _ S1 F1 hk1 hz1 (by rw [ht] at hel; exact hel)
      · refine ws_aload_n C d_X_withoutSilent_39 rfl ?_
        refine ws_aload_n C d_X_withoutSilent_40 rfl ?_
        refine ws_iload C d_X_withoutSilent_41 rfl ?_
        refine wx_mld C hR d_X_withoutSilent_43 hnw hm ?_
        refine ws_callVi C w_X_171 (As := [_]) (c_X_isLongSilent hR hO hW hm0 (hC m hmi.1) (P := fun S' => S1 = S') rfl) d_X_withoutSilent_44 rfl rfl (XE.k hR (dk6)) (Nat.le_of_ble_eq_true rfl) (by decide) (by omega) (by omega) (fun S' hS' => ?_)
        subst hS'
        refine ws_if_neB C d_X_withoutSilent_47 (fun h47 => ?_) (fun h47 => ?_)
        · have hns : ¬ (fun w => !sil G w) m = true := by show ¬ (!sil G m) = true; unfold sil; rw [h47]; decide
          rw [if_neg hns, List.append_nil] at hts
          have ih := ih (i + 1) S1 (by omega) F1 hk1 hz1 (by rw [hts]; exact hel)
          rw [hts] at ih
          refine ws_iinc C _ d_X_withoutSilent_61 rfl (inc1 _) (by rw [hn]; decide) ?_
          refine ws_goto C d_X_withoutSilent_64 ?_
          exact ih
        · have hns : (fun w => !sil G w) m = true := by show (!sil G m) = true; unfold sil; rw [h47]; rfl
          rw [if_pos hns] at hts
          have ih := ih (i + 1) (setE S1 9 qa (((mem (G.1 7 (G.1 8 0))).take i).filter (fun w => !sil G w)).length (nI m)) (by omega) (F1.E hqa (by decide)) hk1 hz1 (fun j m2 hj => by
            rw [hts] at hj
            show up3 (sE S1) 9 qa _ (nI m) 9 qa j = nI m2
            rw [up3]
            by_cases hjl : j = (((mem (G.1 7 (G.1 8 0))).take i).filter (fun w => !sil G w)).length
            · rw [if_pos ⟨rfl, rfl, hjl⟩]
              rw [List.getElem?_append_right (by omega), show j - (((mem (G.1 7 (G.1 8 0))).take i).filter (fun w => !sil G w)).length = 0 from by omega] at hj
              have : m = m2 := by simpa using hj
              rw [this]
            · rw [if_neg (fun z => hjl z.2.2)]
              refine hel j m2 ?_
              rcases Nat.lt_or_ge j (((mem (G.1 7 (G.1 8 0))).take i).filter (fun w => !sil G w)).length with hlt | hge
              · rw [List.getElem?_append_left hlt] at hj; exact hj
              · exfalso
                rw [List.getElem?_append_right hge, List.getElem?_eq_none (by simp; omega)] at hj
                cases hj)
          rw [hts, List.length_append] at ih
          refine ws_aload_n C d_X_withoutSilent_50 rfl ?_
          refine ws_iload C d_X_withoutSilent_51 rfl ?_
          refine ws_aload_n C d_X_withoutSilent_53 rfl ?_
          refine ws_iload C d_X_withoutSilent_54 rfl ?_
          refine wx_mld C hR d_X_withoutSilent_56 hnw hm ?_
          refine ws_iast C d_X_withoutSilent_57 hk1 (by rw [hz1]; omega) (by rw [hz1]; omega) ?_
          refine ws_iinc C _ d_X_withoutSilent_58 rfl (inc1 _) (by rw [hn]; decide) ?_
          refine ws_iinc C _ d_X_withoutSilent_61 rfl (inc1 _) (by rw [hn]; decide) ?_
          refine ws_goto C d_X_withoutSilent_64 ?_
          exact ih
set_option maxHeartbeats 4000000 in
set_option maxRecDepth 100000 in
theorem c_X_tick {V : Ev} {o : Nat} {G : GS} {S : Sto} (hR : XO (vZ V) o G S) (hO : OK G) (hW : WF G) (hC : CS G) (hcl : G.1 27 0 + 1 ≤ 600) : CT V mi_X_tick 2 8 [.ref o] S (Pi (tckF G).1 (XO (vZ V) o (tckF G).2)) := by
  refine CT.of (cc := prog_1_method_12_code) (own := "ChainVersions") (nL := 3) (d := 4) (by decide) rfl rfl rfl rfl (by simp [Value.category]) (Nat.le_of_ble_eq_true rfl) rfl ?_
  intro F hV hn C R
  subst hV
  obtain ⟨h, rfl, hR⟩ := hR
  refine ws_aload_n C d_X_tick_0 rfl ?_
  refine ws_dup C d_X_tick_1 rfl ?_
  refine wx_getI C hR 197 0 (nI (G.1 27 0)) d_X_tick_2 f_X_151 rfl rfl (dmX (by decide)) rfl ?_
  refine ws_iconst C (nI 1) d_X_tick_5 (by decide) ?_
  refine ws_iaddN C d_X_tick_6 ?_
  refine wx_putN C hR 197 0 27 d_X_tick_7 f_X_151 rfl rfl rfl rfl rfl ⟨rfl, rfl⟩ (dmX (by decide)) (fun S hR => ?_)
  have hO1 : OK (gN G 27 0 (G.1 27 0 + 1)) := ok_gN hO (by show _ ≤ 600; omega)
  have hW1 : WF (gN G 27 0 (G.1 27 0 + 1)) := hW.w_N (by decide)
  have g8 : (gN G 27 0 (G.1 27 0 + 1)).1 8 = G.1 8 := gN_ne _ (by decide)
  have g7 : (gN G 27 0 (G.1 27 0 + 1)).1 7 = G.1 7 := gN_ne _ (by decide)
  have hz := tcG_z hC
  have hmt := mem_tck hC
  have hC1 : ∀ w, isIn (gN G 27 0 (G.1 27 0 + 1)) ((gN G 27 0 (G.1 27 0 + 1)).1 8 0) w = true → (gN G 27 0 (G.1 27 0 + 1)).1 1 w = 0 → (gN G 27 0 (G.1 27 0 + 1)).1 28 w ≤ (gN G 27 0 (G.1 27 0 + 1)).1 27 0 := fun w hi h1 => by
    rw [isIn_c g7, g8] at hi
    rw [gN_ne _ (by decide)] at h1
    rw [gN_ne _ (by decide), gN_eq]
    have := (hC w hi h1).1
    omega
  have hs0 : tcG G 6 = 0 → tckF G = (nI (G.1 8 0), gN (tcS 6 G) 27 0 (G.1 27 0 + 1)) := fun z => by rw [tckF]; exact if_pos z
  have hs1 : ¬ tcG G 6 = 0 → tckF G = (nI (G.1 8 0 + 1), gN (gN (gN (tcS 6 G) 27 0 (G.1 27 0 + 1)) 8 0 (G.1 8 0 + 1)) 7 (G.1 8 0 + 1) (G.1 7 (G.1 8 0) &&& (63 - tcG G 6))) := fun z => by rw [tckF]; exact if_neg z
  have h6a : ∀ S', XE (vZ F.1) h (fun _ => 0) (gN G 27 0 (G.1 27 0 + 1)) S' → XE (vZ F.1) h (fun _ => 0) (gN (tcS 6 G) 27 0 (G.1 27 0 + 1)) S' := fun S' H => H.six (fun j hj => tck_six G _ hj) (tcS_2 G 6)
  have h6b : ∀ h2 S' M, XE (vZ F.1) h2 (fun _ => 0) (gN (gN (gN G 27 0 (G.1 27 0 + 1)) 8 0 (G.1 8 0 + 1)) 7 (G.1 8 0 + 1) M) S' → XE (vZ F.1) h2 (fun _ => 0) (gN (gN (gN (tcS 6 G) 27 0 (G.1 27 0 + 1)) 8 0 (G.1 8 0 + 1)) 7 (G.1 8 0 + 1) M) S' := fun h2 S' M H => H.six (fun j hj => tck_six2 G _ _ _ _ hj) (tcS_2 G 6)
  generalize gN G 27 0 (G.1 27 0 + 1) = G1 at *
  have e8 : G1.1 8 0 = G.1 8 0 := by rw [g8]
  obtain ⟨r, hX⟩ := id hR
  have hml := mem_len (G1.1 7 (G1.1 8 0))
  have hnw := hW1.nw
  rw [← g7, ← g8] at hz hmt
  refine ws_iconst C (nI 0) d_X_tick_10 (by decide) ?_
  refine ws_istore_n C d_X_tick_11 (by rw [hn]; decide) ?_
  refine ws_iconst C (nI 0) d_X_tick_12 (by decide) ?_
  refine ws_istore_n C d_X_tick_13 (by rw [hn]; decide) ?_
  suffices hL : ∀ n i, i + n = (mem (G1.1 7 (G1.1 8 0))).length → WS F 14 [some (.ref (h 6 0)), some (.int (nI (((mem (G1.1 7 (G1.1 8 0))).take i).filter (sil G1)).length)), some (.int (nI i))] [] S 0 0 from hL (mem (G1.1 7 (G1.1 8 0))).length 0 (by omega)
  intro n
  induction n with
  | zero =>
    intro i hi
    have hie : i = (mem (G1.1 7 (G1.1 8 0))).length := by omega
    rw [hie, List.take_length]
    have hfl := flt_len (sil G1) (mem (G1.1 7 (G1.1 8 0)))
    refine ws_iload_n C d_X_tick_14 rfl ?_
    refine ws_aload_n C d_X_tick_15 rfl ?_
    refine wx_getP C hR 195 0 (h 3 (G1.1 8 0)) d_X_tick_16 f_X_42 rfl rfl (dpX (by decide)) rfl ?_
    refine wx_getP C hR 97 (G1.1 8 0) (h 9 (G1.1 8 0)) d_X_tick_19 f_X_167 rfl rfl (dpF hW1.nw) rfl ?_
    refine wx_mln C hR d_X_tick_22 hW1.nw ?_
    refine ws_icmp_geN C d_X_tick_23 (by first | omega | exact okl hO _ _) (by first | omega | exact okl hO _ _) (fun h23 => ?_) (fun h23 => ?_)
    · refine ws_iload_n C d_X_tick_51 rfl ?_
      refine ws_if_leN C d_X_tick_52 (by first | omega | exact okl hO _ _) (fun h52 => ?_) (fun h52 => ?_)
      · have hs := hs0 (hz.mpr (by omega))
        have hb8 : G1.1 8 0 ≤ 12 := hO1 8 0
        refine ws_aload_n C d_X_tick_64 rfl ?_
        refine wx_getP C hR 195 0 (h 3 (G1.1 8 0)) d_X_tick_65 f_X_42 rfl rfl (dpX (by decide)) rfl ?_
        refine wx_getI C hR 96 (G1.1 8 0) (nI (G1.1 8 0)) d_X_tick_68 f_X_122 rfl rfl (dmF hW1.nw) rfl ?_
        exact ws_iret C R d_X_tick_71 rfl (by decide) (by decide) ⟨by rw [hs, e8], by rw [hs]; exact (h6a S hR).out⟩
      · have hs := hs1 (fun z => absurd (hz.mp z) (by omega))
        refine ws_aload_n C d_X_tick_55 rfl ?_
        refine ws_aload_n C d_X_tick_56 rfl ?_
        refine ws_iload_n C d_X_tick_57 rfl ?_
        refine ws_callV C w_X_174 (As := [_]) (c_X_withoutSilent hX hO1 hW1 rfl hC1) d_X_tick_58 rfl rfl (hX.1.1 6 0 dk6) (Nat.le_of_ble_eq_true rfl) (by decide) (by decide) (by decide) (fun v S1 hS1 => ?_)
        obtain ⟨q, qa, rfl, hX1, hN⟩ := hS1
        rw [← hmt] at hN
        refine ws_putR C (some q) rfl d_X_tick_61 f_X_42 rfl rfl (by rw [show tyk (195 / 32) (195 % 32) = _ from tyk_xn]; exact ⟨rfl, rfl⟩) (hX1.1.1 6 0 dk6) ?_
        have hX2 := hX1.conf hW1 hN
        generalize hh2 : up2 (up2 h 3 (G1.1 8 0 + 1) q) 9 (G1.1 8 0 + 1) qa = h2 at hX2
        have e6 : h 6 0 = h2 6 0 := by rw [← hh2]; rfl
        have e3 : h2 3 (G1.1 8 0 + 1) = q := by rw [← hh2, up2, if_neg (fun z => absurd z.1 (by decide)), up2, if_pos ⟨rfl, rfl⟩]
        rw [e6] at R ⊢
        rw [e6] at hX2
        generalize setP S1 195 (h2 6 0) (some q) = S2 at *
        have hRr : XE (vZ F.1) h2 (fun _ => 0) _ S2 := ⟨r, hX2⟩
        have hRo := hRr
        refine ws_aload_n C d_X_tick_64 rfl ?_
        refine wx_getP C hRr 195 0 q d_X_tick_65 f_X_42 rfl rfl (dpX (by decide)) (by show h2 3 ((gN (gN G1 8 0 (G1.1 8 0 + 1)) 7 (G1.1 8 0 + 1) _).1 8 0) = q; rw [gN_ne _ (by decide), gN_eq]; exact e3) ?_
        rw [← e3]
        refine wx_getI C hRr 96 (G1.1 8 0 + 1) (nI (G1.1 8 0 + 1)) d_X_tick_68 f_X_122 rfl rfl (dmF (by rw [gN_ne _ (by decide), gN_eq]; omega)) rfl ?_
        exact ws_iret C R d_X_tick_71 rfl (by decide) (by decide) ⟨by rw [hs, e8], by rw [hs]; rw [e8, g7] at hRr; exact XE_at (h6b h2 _ _ hRr) rfl⟩
    · omega
  | succ n ih =>
    intro i hi
    obtain ⟨m, hm⟩ := get_some (show i < (mem (G1.1 7 (G1.1 8 0))).length by omega)
    have hmi := mem_in hm
    have hm0 := hW1.2.2.2.2.1 _ m (Nat.le_refl _) hmi.1
    have hts := take_s hm (sil G1)
    have ih := ih (i + 1) (by omega)
    rw [hts] at ih
    refine ws_iload_n C d_X_tick_14 rfl ?_
    refine ws_aload_n C d_X_tick_15 rfl ?_
    refine wx_getP C hR 195 0 (h 3 (G1.1 8 0)) d_X_tick_16 f_X_42 rfl rfl (dpX (by decide)) rfl ?_
    refine wx_getP C hR 97 (G1.1 8 0) (h 9 (G1.1 8 0)) d_X_tick_19 f_X_167 rfl rfl (dpF hW1.nw) rfl ?_
    refine wx_mln C hR d_X_tick_22 hW1.nw ?_
    refine ws_icmp_geN C d_X_tick_23 (by first | omega | exact okl hO _ _) (by first | omega | exact okl hO _ _) (fun h23 => ?_) (fun h23 => ?_)
    · omega
    · refine ws_aload_n C d_X_tick_26 rfl ?_
      refine ws_aload_n C d_X_tick_27 rfl ?_
      refine wx_getP C hR 195 0 (h 3 (G1.1 8 0)) d_X_tick_28 f_X_42 rfl rfl (dpX (by decide)) rfl ?_
      refine wx_getP C hR 97 (G1.1 8 0) (h 9 (G1.1 8 0)) d_X_tick_31 f_X_167 rfl rfl (dpF hW1.nw) rfl ?_
      refine ws_iload_n C d_X_tick_34 rfl ?_
      refine wx_mld C hR d_X_tick_35 hnw hm ?_
      refine ws_callVi C w_X_171 (As := [_]) (c_X_isLongSilent hR hO1 hW1 hm0 (hC1 m hmi.1) (P := fun S' => S = S') rfl) d_X_tick_36 rfl rfl (XE.k hR (dk6)) (Nat.le_of_ble_eq_true rfl) (by decide) (by decide) (by decide) (fun S' hS' => ?_)
      subst hS'
      refine ws_if_eqB C d_X_tick_39 (fun h39 => ?_) (fun h39 => ?_)
      · refine ws_iinc C _ d_X_tick_45 rfl (inc1 _) (by rw [hn]; decide) ?_
        refine ws_goto C d_X_tick_48 ?_
        rw [if_neg (by unfold sil; rw [h39]; decide), List.append_nil] at ih
        exact ih
      · refine ws_iinc C _ d_X_tick_42 rfl (inc1 _) (by rw [hn]; decide) ?_
        refine ws_iinc C _ d_X_tick_45 rfl (inc1 _) (by rw [hn]; decide) ?_
        refine ws_goto C d_X_tick_48 ?_
        rw [if_pos (by unfold sil; rw [h39]), List.length_append] at ih
        exact ih
