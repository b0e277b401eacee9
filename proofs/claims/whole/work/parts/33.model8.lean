/-! the reference: its constructor -/
set_option maxHeartbeats 4000000 in
set_option maxRecDepth 100000 in
theorem c_M_init {V : Ev} {o : Nat} {S : Sto} (hK : sK S o = 8) (hI : sI S 256 o = 0 ∧ sI S 264 o = 0 ∧ sI S 276 o = 0) (x : Int32) : CT V mi_M_init 24 11543 [.ref o, .int x] S (Pv (fun S' => ∃ ad, MR o ad (iniG x) S')) := by
  refine CT.of (cc := prog_8_method_1_code) (own := "ChainVersionsModel") (nL := 3) (d := 1) (by decide) rfl rfl rfl rfl (by simp [Value.category]) (Nat.le_of_ble_eq_true rfl) rfl ?_
  intro F hV hn C R
  subst hV
  have hin : (xt F).name = "<init>" := R.2.2.2
  have h : PM o [] S := ⟨hK, hI, fun p hp => absurd hp List.not_mem_nil, List.Pairwise.nil⟩
  refine ws_aload_n C d_M_init_0 rfl ?_
  refine ws_objInit C (tb_at 661 (by decide +kernel) (by decide +kernel)) obj_1 obj_2 d_M_init_1 (by decide) (by decide) ?_
  refine ws_aload_n C d_M_init_4 rfl ?_
  refine ws_bipush C (nI 6) d_M_init_5 (by decide) ?_
  refine wm_newz C hin h 1 (n := 6) rfl rfl rfl (by decide) (by simp) d_M_init_7 d_M_init_9 f_M_7 arr_Z (by decide) (by decide) (fun q1 S h => ?_)
  refine ws_aload_n C d_M_init_12 rfl ?_
  refine ws_bipush C (nI 6) d_M_init_13 (by decide) ?_
  refine wm_newz C hin h 2 (n := 6) rfl rfl rfl (by decide) (by simp) d_M_init_15 d_M_init_17 f_M_13 arr_Z (by decide) (by decide) (fun q2 S h => ?_)
  refine ws_aload_n C d_M_init_20 rfl ?_
  refine ws_bipush C (nI 6) d_M_init_21 (by decide) ?_
  refine wm_newi C hin h 3 (n := 6) rfl rfl rfl (by decide) (by simp) d_M_init_23 d_M_init_25 f_M_16 arr_I (by decide) (by decide) (fun q3 S h => ?_)
  refine ws_aload_n C d_M_init_28 rfl ?_
  refine ws_bipush C (nI 6) d_M_init_29 (by decide) ?_
  refine wm_newi C hin h 4 (n := 6) rfl rfl rfl (by decide) (by simp) d_M_init_31 d_M_init_33 f_M_20 arr_I (by decide) (by decide) (fun q4 S h => ?_)
  refine ws_aload_n C d_M_init_36 rfl ?_
  refine ws_bipush C (nI 6) d_M_init_37 (by decide) ?_
  refine wm_newi C hin h 5 (n := 6) rfl rfl rfl (by decide) (by simp) d_M_init_39 d_M_init_41 f_M_23 arr_I (by decide) (by decide) (fun q5 S h => ?_)
  refine ws_aload_n C d_M_init_44 rfl ?_
  refine ws_bipush C (nI 6) d_M_init_45 (by decide) ?_
  refine wm_newi C hin h 6 (n := 6) rfl rfl rfl (by decide) (by simp) d_M_init_47 d_M_init_49 f_M_26 arr_I (by decide) (by decide) (fun q6 S h => ?_)
  refine ws_aload_n C d_M_init_52 rfl ?_
  refine ws_bipush C (nI 14) d_M_init_53 (by decide) ?_
  refine wm_newi C hin h 7 (n := 14) rfl rfl rfl (by decide) (by simp) d_M_init_55 d_M_init_57 f_M_29 arr_I (by decide) (by decide) (fun q7 S h => ?_)
  refine ws_aload_n C d_M_init_60 rfl ?_
  refine ws_sipush C (nI 768) d_M_init_61 (by decide) ?_
  refine wm_newi C hin h 9 (n := 768) rfl rfl rfl (by decide) (by simp) d_M_init_64 d_M_init_66 f_M_32 arr_I (by decide) (by decide) (fun q9 S h => ?_)
  refine ws_aload_n C d_M_init_69 rfl ?_
  refine ws_sipush C (nI 768) d_M_init_70 (by decide) ?_
  refine wm_newi C hin h 10 (n := 768) rfl rfl rfl (by decide) (by simp) d_M_init_73 d_M_init_75 f_M_35 arr_I (by decide) (by decide) (fun q10 S h => ?_)
  refine ws_aload_n C d_M_init_78 rfl ?_
  refine ws_sipush C (nI 768) d_M_init_79 (by decide) ?_
  refine wm_newi C hin h 11 (n := 768) rfl rfl rfl (by decide) (by simp) d_M_init_82 d_M_init_84 f_M_38 arr_I (by decide) (by decide) (fun q11 S h => ?_)
  refine ws_aload_n C d_M_init_87 rfl ?_
  refine ws_sipush C (nI 768) d_M_init_88 (by decide) ?_
  refine wm_newi C hin h 12 (n := 768) rfl rfl rfl (by decide) (by simp) d_M_init_91 d_M_init_93 f_M_41 arr_I (by decide) (by decide) (fun q12 S h => ?_)
  refine ws_aload_n C d_M_init_96 rfl ?_
  refine ws_iconst C (nI 3) d_M_init_97 (by decide) ?_
  refine wm_newi C hin h 13 (n := 3) rfl rfl rfl (by decide) (by simp) d_M_init_98 d_M_init_100 f_M_44 arr_I (by decide) (by decide) (fun q13 S h => ?_)
  refine ws_aload_n C d_M_init_103 rfl ?_
  refine ws_iconst C (nI 3) d_M_init_104 (by decide) ?_
  refine wm_newi C hin h 14 (n := 3) rfl rfl rfl (by decide) (by simp) d_M_init_105 d_M_init_107 f_M_47 arr_I (by decide) (by decide) (fun q14 S h => ?_)
  refine ws_aload_n C d_M_init_110 rfl ?_
  refine ws_iconst C (nI 3) d_M_init_111 (by decide) ?_
  refine wm_newi C hin h 15 (n := 3) rfl rfl rfl (by decide) (by simp) d_M_init_112 d_M_init_114 f_M_50 arr_I (by decide) (by decide) (fun q15 S h => ?_)
  refine ws_aload_n C d_M_init_117 rfl ?_
  refine ws_iconst C (nI 3) d_M_init_118 (by decide) ?_
  refine wm_newi C hin h 16 (n := 3) rfl rfl rfl (by decide) (by simp) d_M_init_119 d_M_init_121 f_M_53 arr_I (by decide) (by decide) (fun q16 S h => ?_)
  refine ws_aload_n C d_M_init_124 rfl ?_
  refine ws_iconst C (nI 3) d_M_init_125 (by decide) ?_
  refine wm_newi C hin h 17 (n := 3) rfl rfl rfl (by decide) (by simp) d_M_init_126 d_M_init_128 f_M_56 arr_I (by decide) (by decide) (fun q17 S h => ?_)
  refine ws_aload_n C d_M_init_131 rfl ?_
  refine ws_iconst C (nI 3) d_M_init_132 (by decide) ?_
  refine wm_newi C hin h 18 (n := 3) rfl rfl rfl (by decide) (by simp) d_M_init_133 d_M_init_135 f_M_59 arr_I (by decide) (by decide) (fun q18 S h => ?_)
  refine ws_aload_n C d_M_init_138 rfl ?_
  refine ws_iconst C (nI 3) d_M_init_139 (by decide) ?_
  refine wm_newi C hin h 19 (n := 3) rfl rfl rfl (by decide) (by simp) d_M_init_140 d_M_init_142 f_M_62 arr_I (by decide) (by decide) (fun q19 S h => ?_)
  refine ws_aload_n C d_M_init_145 rfl ?_
  refine ws_sipush C (nI 1400) d_M_init_146 (by decide) ?_
  refine wm_newi C hin h 21 (n := 1400) rfl rfl rfl (by decide) (by simp) d_M_init_149 d_M_init_151 f_M_65 arr_I (by decide) (by decide) (fun q21 S h => ?_)
  refine ws_aload_n C d_M_init_154 rfl ?_
  refine ws_sipush C (nI 1400) d_M_init_155 (by decide) ?_
  refine wm_newi C hin h 22 (n := 1400) rfl rfl rfl (by decide) (by simp) d_M_init_158 d_M_init_160 f_M_68 arr_I (by decide) (by decide) (fun q22 S h => ?_)
  refine ws_aload_n C d_M_init_163 rfl ?_
  refine ws_sipush C (nI 1400) d_M_init_164 (by decide) ?_
  refine wm_newi C hin h 23 (n := 1400) rfl rfl rfl (by decide) (by simp) d_M_init_167 d_M_init_169 f_M_71 arr_I (by decide) (by decide) (fun q23 S h => ?_)
  refine ws_aload_n C d_M_init_172 rfl ?_
  refine ws_sipush C (nI 1400) d_M_init_173 (by decide) ?_
  refine wm_newi C hin h 24 (n := 1400) rfl rfl rfl (by decide) (by simp) d_M_init_176 d_M_init_178 f_M_74 arr_I (by decide) (by decide) (fun q24 S h => ?_)
  refine ws_aload_n C d_M_init_181 rfl ?_
  refine ws_sipush C (nI 1400) d_M_init_182 (by decide) ?_
  refine wm_newi C hin h 25 (n := 1400) rfl rfl rfl (by decide) (by simp) d_M_init_185 d_M_init_187 f_M_77 arr_I (by decide) (by decide) (fun q25 S h => ?_)
  refine ws_aload_n C d_M_init_190 rfl ?_
  refine ws_sipush C (nI 1400) d_M_init_191 (by decide) ?_
  refine wm_newi C hin h 26 (n := 1400) rfl rfl rfl (by decide) (by simp) d_M_init_194 d_M_init_196 f_M_80 arr_I (by decide) (by decide) (fun q26 S h => ?_)
  have hR := h.done (fun j => match j with
    | 1 => q1
    | 2 => q2
    | 3 => q3
    | 4 => q4
    | 5 => q5
    | 6 => q6
    | 7 => q7
    | 9 => q9
    | 10 => q10
    | 11 => q11
    | 12 => q12
    | 13 => q13
    | 14 => q14
    | 15 => q15
    | 16 => q16
    | 17 => q17
    | 18 => q18
    | 19 => q19
    | 21 => q21
    | 22 => q22
    | 23 => q23
    | 24 => q24
    | 25 => q25
    | 26 => q26
    | _ => 0) (by
      intro j hj
      have hj27 : j < 27 := by simp only [arj, Bool.and_eq_true, decide_eq_true_eq] at hj; exact hj.1.1.1
      have : j = 1 ∨ j = 2 ∨ j = 3 ∨ j = 4 ∨ j = 5 ∨ j = 6 ∨ j = 7 ∨ j = 9 ∨ j = 10 ∨ j = 11 ∨ j = 12 ∨ j = 13 ∨ j = 14 ∨ j = 15 ∨ j = 16 ∨ j = 17 ∨ j = 18 ∨ j = 19 ∨ j = 21 ∨ j = 22 ∨ j = 23 ∨ j = 24 ∨ j = 25 ∨ j = 26 := by simp [arj] at hj; omega
      rcases this with rfl | rfl | rfl | rfl | rfl | rfl | rfl | rfl | rfl | rfl | rfl | rfl | rfl | rfl | rfl | rfl | rfl | rfl | rfl | rfl | rfl | rfl | rfl | rfl <;> simp)
  generalize (fun j => match j with
    | 1 => q1
    | 2 => q2
    | 3 => q3
    | 4 => q4
    | 5 => q5
    | 6 => q6
    | 7 => q7
    | 9 => q9
    | 10 => q10
    | 11 => q11
    | 12 => q12
    | 13 => q13
    | 14 => q14
    | 15 => q15
    | 16 => q16
    | 17 => q17
    | 18 => q18
    | 19 => q19
    | 21 => q21
    | 22 => q22
    | 23 => q23
    | 24 => q24
    | 25 => q25
    | 26 => q26
    | _ => 0 : Nat → Nat) = ad at hR
  clear h
  obtain ⟨hm, em⟩ := mkN_of x
  have k219 : ∀ y : Int32, y = nI (mkN x) → WS F 219 [some (.ref o), some (.int x), none] [.int y, .ref o] S 24 11543 := by
    intro y hy
    subst hy
    have R : RT F mi_M_init 24 11543 (Pv (fun S' => ∃ ad, MR o ad (inT (mkN x) (mkN x)) S')) := R
    generalize mkN x = m at *
    refine wm_put C hR 0 (by decide) d_M_init_219 f_M_83 (fun S hR => ?_)
    refine ws_aload_n C d_M_init_222 rfl ?_
    refine ws_iconst C (nI 1) d_M_init_223 (by decide) ?_
    refine wm_put C hR 8 (by decide) d_M_init_224 f_M_87 (fun S hR => ?_)
    refine ws_aload_n C d_M_init_227 rfl ?_
    refine wm_arr C hR 7 d_M_init_228 f_M_29 rfl rfl rfl ?_
    refine ws_iconst C (nI 1) d_M_init_231 (by decide) ?_
    refine ws_iconst C (nI 1) d_M_init_232 (by decide) ?_
    refine ws_aload_n C d_M_init_233 rfl ?_
    refine wm_0 C hR d_M_init_234 f_M_83 ?_
    refine ws_top (nI m) (by simp [gN_1, gN_2, gV_1, gV_2]) ?_
    refine ws_ishl C d_M_init_237 ?_
    refine ws_iconst C (nI 1) d_M_init_238 (by decide) ?_
    refine ws_isub C d_M_init_239 ?_
    refine ws_top (nI (2 ^ m - 1)) (shl1 hm.2) ?_
    refine wm_astN C hR 7 d_M_init_240 rfl rfl (by decide) (show _ < 14 by omega) (fun S hR => ?_)
    refine ws_iconst C (nI 0) d_M_init_241 (by decide) ?_
    refine ws_istore_n C d_M_init_242 (by rw [hn]; decide) ?_
    have hR0 : MR o ad (inT m 0) S := hR.same (fun j _ => by rw [inT_0 m]) (fun j hj => by simp only [inT, if_neg (show ¬ j = 29 by omega)]; rfl)
    suffices hL : ∀ n k, k + n = m → ∀ S : Sto, MR o ad (inT m k) S → WS F 243 [some (.ref o), some (.int x), some (.int (nI k))] [] S 24 11543 from hL m 0 (by omega) S hR0
    clear hR hR0
    intro n
    induction n with
    | zero =>
      intro k hk S hR
      have e : k = m := by omega
      subst e
      refine ws_iload_n C d_M_init_243 rfl ?_
      refine ws_aload_n C d_M_init_244 rfl ?_
      refine wm_0 C hR d_M_init_245 f_M_83 ?_
      refine ws_top (nI k) (by simp [inT]) ?_
      refine ws_icmp_geN C d_M_init_248 (by omega) (by omega) (fun h248 => ?_) (fun h248 => ?_)
      · exact ws_vret C R d_M_init_278 rfl (by decide) (by decide) ⟨rfl, ⟨ad, hR⟩⟩
      · omega
    | succ n ih =>
      intro k hk S hR
      refine ws_iload_n C d_M_init_243 rfl ?_
      refine ws_aload_n C d_M_init_244 rfl ?_
      refine wm_0 C hR d_M_init_245 f_M_83 ?_
      refine ws_top (nI m) (by simp [inT]) ?_
      refine ws_icmp_geN C d_M_init_248 (by omega) (by omega) (fun h248 => ?_) (fun h248 => ?_)
      · omega
      · refine ws_aload_n C d_M_init_251 rfl ?_
        refine wm_arr C hR 1 d_M_init_252 f_M_7 rfl rfl rfl ?_
        refine ws_iload_n C d_M_init_255 rfl ?_
        refine ws_iconst C (nI 1) d_M_init_256 (by decide) ?_
        refine wm_zst C hR 1 d_M_init_257 rfl rfl (by decide) (show _ < 6 by omega) (by decide) (fun S hR => ?_)
        refine ws_aload_n C d_M_init_258 rfl ?_
        refine wm_arr C hR 2 d_M_init_259 f_M_13 rfl rfl rfl ?_
        refine ws_iload_n C d_M_init_262 rfl ?_
        refine ws_iconst C (nI 1) d_M_init_263 (by decide) ?_
        refine wm_zst C hR 2 d_M_init_264 rfl rfl (by decide) (show _ < 6 by omega) (by decide) (fun S hR => ?_)
        refine ws_aload_n C d_M_init_265 rfl ?_
        refine wm_arr C hR 3 d_M_init_266 f_M_16 rfl rfl rfl ?_
        refine ws_iload_n C d_M_init_269 rfl ?_
        refine ws_iconst C (nI 1) d_M_init_270 (by decide) ?_
        refine wm_astN C hR 3 d_M_init_271 rfl rfl (by decide) (show _ < 6 by omega) (fun S hR => ?_)
        refine ws_iinc C _ d_M_init_272 rfl (inc1 _) (by rw [hn]; decide) ?_
        refine ws_goto C d_M_init_275 ?_
        exact ih (k + 1) (by omega) S (inT_s ▸ hR)
  refine ws_aload_n C d_M_init_199 rfl ?_
  refine ws_iload_n C d_M_init_200 rfl ?_
  refine ws_iconst C (nI 1) d_M_init_201 (by decide) ?_
  refine ws_icmp_ge C d_M_init_202 (fun h202 => ?_) (fun h202 => ?_)
  · refine ws_iload_n C d_M_init_209 rfl ?_
    refine ws_iconst C (nI 3) d_M_init_210 (by decide) ?_
    refine ws_icmp_le C d_M_init_211 (fun h211 => ?_) (fun h211 => ?_)
    · refine ws_iload_n C d_M_init_218 rfl ?_
      exact k219 _ (by rw [em, if_neg (Int32.not_lt.mpr h202), if_neg (Int32.not_lt.mpr h211)])
    · refine ws_iconst C (nI 3) d_M_init_214 (by decide) ?_
      refine ws_goto C d_M_init_215 ?_
      exact k219 _ (by rw [em, if_neg (Int32.not_lt.mpr h202), if_pos (Int32.not_le.mp h211)])
  · refine ws_iconst C (nI 1) d_M_init_205 (by decide) ?_
    refine ws_goto C d_M_init_206 ?_
    exact k219 _ (by rw [em, if_pos (Int32.not_le.mp h202)])
