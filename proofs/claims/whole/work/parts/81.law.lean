/-! the law's loop: a step of each kind -/
abbrev CCn (k : Nat) (G : GS) : Nat := 60 + 10 * k + 2 * sm G 4
abbrev SSn (k : Nat) (G : GS) : Nat := 13000 + 11045 * k + 2209 * sm G 4
theorem sm_600 {k : Nat} {G : GS} (h : INV k G) : sm G 4 ≤ 600 := by
  have b0 : G.1 4 0 ≤ 100 := h.1.1 4 0
  have b1 : G.1 4 1 ≤ 100 := h.1.1 4 1
  have b2 : G.1 4 2 ≤ 100 := h.1.1 4 2
  have b3 : G.1 4 3 ≤ 100 := h.1.1 4 3
  have b4 : G.1 4 4 ≤ 100 := h.1.1 4 4
  have b5 : G.1 4 5 ≤ 100 := h.1.1 4 5
  unfold sm
  omega
theorem XO.k6 {z o : Nat} {G : GS} {S : Sto} (h : XO z o G S) : sK S o = 6 := by
  obtain ⟨h, rfl, r, hK, -⟩ := h
  exact hK.1 6 0 dk6
def lvv (b ox om i : Nat) : List (Option Value) := [some (.ref b), some (.ref ox), some (.ref om), some (.int (nI i))]
/-- behind a step -/
def LK (F : Fx) (b ox om : Nat) (ad : Nat → Nat) (k : Nat) : Prop := ∀ (G : GS) (Sx Sm : Sto), INV (k + 1) G → XO (xz F) ox G Sx → MR om ad G Sm → Ap Sx Sm → WS F 632 (lvv b ox om (1 + 4 * k)) [] (mg Sx Sm) (CCn (k + 1) G) (SSn (k + 1) G)
section LAW
variable {F : Fx} {pc pc' : Nat} {lv : List (Option Value)} {st : List Value} {S Sx Sm : Sto} {cs ss : Nat} {b L : Nat} {sc : Nat → Int32} {ox om k : Nat} {ad : Nat → Nat} {G G' : GS} {mi : MI} {mc ms idx n : Nat} {As : List Value} {r : Int32}
theorem ws_arg (C : Cx F code "ChainVersionsLaw" 15 600000 7302250) (hX : va_X b L sc (xs F) (xs F).heap) (hbA : ¬ xA F b) (hL : L < 2 ^ 31) {i j p1 p2 p3 p4 : Nat} {j' : Int} (d1 : At code pc (.aload_n 0) 1 p1) (d2 : At code p1 (.iload_n 3) 1 p2) (d3 : At code p2 (.iconst j') 1 p3) (hj : Int32.ofInt j' = nI j) (d4 : At code p3 .iadd 1 p4) (d5 : At code p4 .iaload 1 pc') (hi : i + j < L)
    (kk : WS F pc' (lvv b ox om i) (.int (sc (i + j)) :: st) S cs ss) : WS F pc (lvv b ox om i) st S cs ss :=
  ws_aload_n C d1 rfl (ws_iload_n C d2 rfl (ws_iconst C (nI j) d3 hj (ws_iaddN C d4 (ws_sld C hX hbA hL hi d5 kk))))
theorem ws_cx (C : Cx F code "ChainVersionsLaw" 15 600000 7302250) (hI : INV k G) (hk : k ≤ 511) (hN : NX k G G') (h1 : mc + 2 * sm G 4 ≤ 10 + 2 * sm G' 4) (h2 : ms + 2209 * sm G 4 ≤ 11045 + 2209 * sm G' 4) (w : cV "ChainVersionsLaw" idx 6 mi n) (hap : Ap Sx Sm) (hxo : XO (xz F) ox G Sx) (hM : CT (vO F Sm) mi mc ms (.ref ox :: As) Sx (Pi r (XO (xz F) ox G'))) (d : At code pc (.invokevirtual idx) 3 pc') (hst : st = As.reverse ++ [.ref ox]) (hn : As.length = n) (hd : mi.2.2.2.2 < 15)
    (kk : ∀ Sx' : Sto, XO (xz F) ox G' Sx' → Ap Sm Sx' → WS F pc' lv [.int r] (mg Sm Sx') (CCn (k + 1) G') (SSn (k + 1) G')) : WS F pc lv st (mg Sx Sm) (CCn k G) (SSn k G) := by
  have e := sm_600 hN.1
  refine ws_call1V C w hap hM d hst hn hxo.k6 (Nat.zero_le _) hd (by unfold CCn; omega) (by unfold SSn; omega) ?_
  rintro v S' ⟨rfl, hx'⟩ hap'
  exact ws_widen (by unfold CCn; omega) (by unfold SSn; omega) (ws_cel (mg_swap hap') (kk S' hx' hap'.symm))
theorem ws_cm (C : Cx F code "ChainVersionsLaw" 15 600000 7302250) (hc : cs ≤ 600000) (hs : ss ≤ 7302250) (w : cV "ChainVersionsLaw" idx 8 mi n) (hap : Ap Sm Sx) (hmr : MR om ad G Sm) (hM : CT (vO F Sx) mi 0 0 (.ref om :: As) Sm (Pi r (MR om ad G'))) (d : At code pc (.invokevirtual idx) 3 pc') (hst : st = As.reverse ++ [.ref om, .int r]) (hn : As.length = n) (hd : mi.2.2.2.2 < 15)
    (kk : ∀ Sm' : Sto, MR om ad G' Sm' → Ap Sx Sm' → WS F pc' lv [.int r, .int r] (mg Sx Sm') cs ss) : WS F pc lv st (mg Sm Sx) cs ss := by
  refine ws_call1V C w hap hM d hst hn hmr.1 (Nat.le_of_ble_eq_true rfl) hd hc hs ?_
  rintro v S' ⟨rfl, hx'⟩ hap'
  exact ws_cel (mg_swap hap') (kk S' hx' hap'.symm)
theorem cc_le (h : INV (k + 1) G) (hk : k ≤ 511) : CCn (k + 1) G ≤ 600000 ∧ SSn (k + 1) G ≤ 7302250 := by
  have := sm_600 h
  unfold CCn SSn
  omega
theorem lw_c_put (C : Cx F code "ChainVersionsLaw" 15 600000 7302250) (hX : va_X b L sc (xs F) (xs F).heap) (hbA : ¬ xA F b) (hL : L < 2 ^ 31) (hi : 1 + 4 * k + 3 < L) (hI : INV k G) (hk : k ≤ 511) (hxo : XO (xz F) ox G Sx) (hmr : MR om ad G Sm) (hap : Ap Sx Sm) (hK : LK F b ox om ad k) : WS F 128 (lvv b ox om (1 + 4 * k)) [] (mg Sx Sm) (CCn k G) (SSn k G) := by
  have hO := hI.1.1
  have hW := hI.1.wf
  have hH := hI.1.hh.1
  have hw14 : ∀ c, G.1 14 c + 1 ≤ 600 := fun c => by have := hI.2.1.2.2.2.2.2 c; omega
  have hw : ∀ c, c < 3 → G.1 14 c + 1 ≤ 600 := fun c _ => hw14 c
  have hse := hI.1.2.2.1.2.1
  have hN := NX.put hI hk (sc (1 + 4 * k + 1)) (sc (1 + 4 * k + 2)) (sc (1 + 4 * k + 3))
  refine ws_aload_n C d_L_law_128 rfl ?_
  refine ws_arg C hX hbA hL d_L_law_129 d_L_law_130 d_L_law_131 (j := 1) rfl d_L_law_132 d_L_law_133 (by omega) ?_
  refine ws_arg C hX hbA hL d_L_law_134 d_L_law_135 d_L_law_136 (j := 2) rfl d_L_law_137 d_L_law_138 (by omega) ?_
  refine ws_arg C hX hbA hL d_L_law_139 d_L_law_140 d_L_law_141 (j := 3) rfl d_L_law_142 d_L_law_143 (by omega) ?_
  refine ws_cx C hI hk hN (by have := hN.2; omega) (by have := hN.2; omega) w_L_21 hap hxo (c_X_put (V := vO F Sm) hxo hO hW hH (sc (1 + 4 * k + 1)) (sc (1 + 4 * k + 2)) (sc (1 + 4 * k + 3)) hw) d_L_law_144 rfl rfl (by decide) fun Sx' hxo' hap' => ?_
  refine ws_aload_n C d_L_law_147 rfl ?_
  refine ws_arg C hX hbA hL d_L_law_148 d_L_law_149 d_L_law_150 (j := 1) rfl d_L_law_151 d_L_law_152 (by omega) ?_
  refine ws_arg C hX hbA hL d_L_law_153 d_L_law_154 d_L_law_155 (j := 2) rfl d_L_law_156 d_L_law_157 (by omega) ?_
  refine ws_arg C hX hbA hL d_L_law_158 d_L_law_159 d_L_law_160 (j := 3) rfl d_L_law_161 d_L_law_162 (by omega) ?_
  refine ws_cm C (cc_le hN.1 hk).1 (cc_le hN.1 hk).2 w_L_25 hap' hmr (c_M_put hmr hO hse (sc (1 + 4 * k + 1)) (sc (1 + 4 * k + 2)) (sc (1 + 4 * k + 3)) (fun _ j _ => hw14 j)) d_L_law_163 rfl rfl (by decide) fun Sm' hmr' hap'' => ?_
  exact ws_icmp_eq C d_L_law_166 (fun _ => hK _ _ _ hN.1 hxo' hmr' hap'') (fun h => absurd rfl h)
theorem lw_c_get (C : Cx F code "ChainVersionsLaw" 15 600000 7302250) (hX : va_X b L sc (xs F) (xs F).heap) (hbA : ¬ xA F b) (hL : L < 2 ^ 31) (hi : 1 + 4 * k + 3 < L) (hI : INV k G) (hk : k ≤ 511) (hxo : XO (xz F) ox G Sx) (hmr : MR om ad G Sm) (hap : Ap Sx Sm) (hK : LK F b ox om ad k) : WS F 171 (lvv b ox om (1 + 4 * k)) [] (mg Sx Sm) (CCn k G) (SSn k G) := by
  have hO := hI.1.1
  have hW := hI.1.wf
  have hN := NX.get hI hk (sc (1 + 4 * k + 1)) (sc (1 + 4 * k + 2)) (sc (1 + 4 * k + 3))
  refine ws_aload_n C d_L_law_171 rfl ?_
  refine ws_arg C hX hbA hL d_L_law_172 d_L_law_173 d_L_law_174 (j := 1) rfl d_L_law_175 d_L_law_176 (by omega) ?_
  refine ws_arg C hX hbA hL d_L_law_177 d_L_law_178 d_L_law_179 (j := 2) rfl d_L_law_180 d_L_law_181 (by omega) ?_
  refine ws_arg C hX hbA hL d_L_law_182 d_L_law_183 d_L_law_184 (j := 3) rfl d_L_law_185 d_L_law_186 (by omega) ?_
  refine ws_cx C hI hk hN (by have := hN.2; omega) (by have := hN.2; omega) w_L_26 hap hxo (c_X_get (V := vO F Sm) hxo hO hW (sc (1 + 4 * k + 1)) (sc (1 + 4 * k + 2)) (sc (1 + 4 * k + 3))) d_L_law_187 rfl rfl (by decide) fun Sx' hxo' hap' => ?_
  refine ws_aload_n C d_L_law_190 rfl ?_
  refine ws_arg C hX hbA hL d_L_law_191 d_L_law_192 d_L_law_193 (j := 1) rfl d_L_law_194 d_L_law_195 (by omega) ?_
  refine ws_arg C hX hbA hL d_L_law_196 d_L_law_197 d_L_law_198 (j := 2) rfl d_L_law_199 d_L_law_200 (by omega) ?_
  refine ws_arg C hX hbA hL d_L_law_201 d_L_law_202 d_L_law_203 (j := 3) rfl d_L_law_204 d_L_law_205 (by omega) ?_
  refine ws_cm C (cc_le hN.1 hk).1 (cc_le hN.1 hk).2 w_L_29 hap' hmr (c_M_get hmr hO (sc (1 + 4 * k + 1)) (sc (1 + 4 * k + 2)) (sc (1 + 4 * k + 3))) d_L_law_206 rfl rfl (by decide) fun Sm' hmr' hap'' => ?_
  exact ws_icmp_eq C d_L_law_209 (fun _ => hK _ _ _ hN.1 hxo' hmr' hap'') (fun h => absurd rfl h)
theorem lw_c_retry (C : Cx F code "ChainVersionsLaw" 15 600000 7302250) (hX : va_X b L sc (xs F) (xs F).heap) (hbA : ¬ xA F b) (hL : L < 2 ^ 31) (hi : 1 + 4 * k + 3 < L) (hI : INV k G) (hk : k ≤ 511) (hxo : XO (xz F) ox G Sx) (hmr : MR om ad G Sm) (hap : Ap Sx Sm) (hK : LK F b ox om ad k) : WS F 214 (lvv b ox om (1 + 4 * k)) [] (mg Sx Sm) (CCn k G) (SSn k G) := by
  have hO := hI.1.1
  have hW := hI.1.wf
  have hH := hI.1.hh.1
  have hA := hI.1.2.2.2.1
  have hse := hI.1.2.2.1.2.1
  have hN := NX.rty hI hk (sc (1 + 4 * k + 1)) (sc (1 + 4 * k + 2))
  refine ws_aload_n C d_L_law_214 rfl ?_
  refine ws_arg C hX hbA hL d_L_law_215 d_L_law_216 d_L_law_217 (j := 1) rfl d_L_law_218 d_L_law_219 (by omega) ?_
  refine ws_arg C hX hbA hL d_L_law_220 d_L_law_221 d_L_law_222 (j := 2) rfl d_L_law_223 d_L_law_224 (by omega) ?_
  refine ws_cx C hI hk hN (by have := hN.2; omega) (by have := hN.2; omega) w_L_30 hap hxo (c_X_retry (V := vO F Sm) hxo hO hW hH hA (sc (1 + 4 * k + 1)) (sc (1 + 4 * k + 2))) d_L_law_225 rfl rfl (by decide) fun Sx' hxo' hap' => ?_
  refine ws_aload_n C d_L_law_228 rfl ?_
  refine ws_arg C hX hbA hL d_L_law_229 d_L_law_230 d_L_law_231 (j := 1) rfl d_L_law_232 d_L_law_233 (by omega) ?_
  refine ws_arg C hX hbA hL d_L_law_234 d_L_law_235 d_L_law_236 (j := 2) rfl d_L_law_237 d_L_law_238 (by omega) ?_
  refine ws_cm C (cc_le hN.1 hk).1 (cc_le hN.1 hk).2 w_L_34 hap' hmr (c_M_retry hmr hO hse (sc (1 + 4 * k + 1)) (sc (1 + 4 * k + 2))) d_L_law_239 rfl rfl (by decide) fun Sm' hmr' hap'' => ?_
  exact ws_icmp_eq C d_L_law_242 (fun _ => hK _ _ _ hN.1 hxo' hmr' hap'') (fun h => absurd rfl h)
theorem lw_c_status (C : Cx F code "ChainVersionsLaw" 15 600000 7302250) (hX : va_X b L sc (xs F) (xs F).heap) (hbA : ¬ xA F b) (hL : L < 2 ^ 31) (hi : 1 + 4 * k + 3 < L) (hI : INV k G) (hk : k ≤ 511) (hxo : XO (xz F) ox G Sx) (hmr : MR om ad G Sm) (hap : Ap Sx Sm) (hK : LK F b ox om ad k) : WS F 247 (lvv b ox om (1 + 4 * k)) [] (mg Sx Sm) (CCn k G) (SSn k G) := by
  have hO := hI.1.1
  have hW := hI.1.wf
  have hN := NX.same hI
  refine ws_aload_n C d_L_law_247 rfl ?_
  refine ws_arg C hX hbA hL d_L_law_248 d_L_law_249 d_L_law_250 (j := 1) rfl d_L_law_251 d_L_law_252 (by omega) ?_
  refine ws_cx C hI hk hN (by have := hN.2; omega) (by have := hN.2; omega) w_L_35 hap hxo (c_X_status (V := vO F Sm) hxo hO hW (sc (1 + 4 * k + 1))) d_L_law_253 rfl rfl (by decide) fun Sx' hxo' hap' => ?_
  refine ws_aload_n C d_L_law_256 rfl ?_
  refine ws_arg C hX hbA hL d_L_law_257 d_L_law_258 d_L_law_259 (j := 1) rfl d_L_law_260 d_L_law_261 (by omega) ?_
  refine ws_cm C (cc_le hN.1 hk).1 (cc_le hN.1 hk).2 w_L_39 hap' hmr (c_M_status hmr hO (sc (1 + 4 * k + 1))) d_L_law_262 rfl rfl (by decide) fun Sm' hmr' hap'' => ?_
  exact ws_icmp_eq C d_L_law_265 (fun _ => hK _ _ _ hN.1 hxo' hmr' hap'') (fun h => absurd rfl h)
theorem lw_c_number (C : Cx F code "ChainVersionsLaw" 15 600000 7302250) (hX : va_X b L sc (xs F) (xs F).heap) (hbA : ¬ xA F b) (hL : L < 2 ^ 31) (hi : 1 + 4 * k + 3 < L) (hI : INV k G) (hk : k ≤ 511) (hxo : XO (xz F) ox G Sx) (hmr : MR om ad G Sm) (hap : Ap Sx Sm) (hK : LK F b ox om ad k) : WS F 270 (lvv b ox om (1 + 4 * k)) [] (mg Sx Sm) (CCn k G) (SSn k G) := by
  have hO := hI.1.1
  have hW := hI.1.wf
  have hN := NX.same hI
  refine ws_aload_n C d_L_law_270 rfl ?_
  refine ws_arg C hX hbA hL d_L_law_271 d_L_law_272 d_L_law_273 (j := 1) rfl d_L_law_274 d_L_law_275 (by omega) ?_
  refine ws_cx C hI hk hN (by have := hN.2; omega) (by have := hN.2; omega) w_L_40 hap hxo (c_X_number (V := vO F Sm) hxo hO hW (sc (1 + 4 * k + 1))) d_L_law_276 rfl rfl (by decide) fun Sx' hxo' hap' => ?_
  refine ws_aload_n C d_L_law_279 rfl ?_
  refine ws_arg C hX hbA hL d_L_law_280 d_L_law_281 d_L_law_282 (j := 1) rfl d_L_law_283 d_L_law_284 (by omega) ?_
  refine ws_cm C (cc_le hN.1 hk).1 (cc_le hN.1 hk).2 w_L_43 hap' hmr (c_M_number hmr hO (sc (1 + 4 * k + 1))) d_L_law_285 rfl rfl (by decide) fun Sm' hmr' hap'' => ?_
  exact ws_icmp_eq C d_L_law_288 (fun _ => hK _ _ _ hN.1 hxo' hmr' hap'') (fun h => absurd rfl h)
theorem lw_c_value (C : Cx F code "ChainVersionsLaw" 15 600000 7302250) (hX : va_X b L sc (xs F) (xs F).heap) (hbA : ¬ xA F b) (hL : L < 2 ^ 31) (hi : 1 + 4 * k + 3 < L) (hI : INV k G) (hk : k ≤ 511) (hxo : XO (xz F) ox G Sx) (hmr : MR om ad G Sm) (hap : Ap Sx Sm) (hK : LK F b ox om ad k) : WS F 293 (lvv b ox om (1 + 4 * k)) [] (mg Sx Sm) (CCn k G) (SSn k G) := by
  have hO := hI.1.1
  have hW := hI.1.wf
  have hN := NX.same hI
  refine ws_aload_n C d_L_law_293 rfl ?_
  refine ws_arg C hX hbA hL d_L_law_294 d_L_law_295 d_L_law_296 (j := 1) rfl d_L_law_297 d_L_law_298 (by omega) ?_
  refine ws_cx C hI hk hN (by have := hN.2; omega) (by have := hN.2; omega) w_L_44 hap hxo (c_X_value (V := vO F Sm) hxo hO hW (sc (1 + 4 * k + 1))) d_L_law_299 rfl rfl (by decide) fun Sx' hxo' hap' => ?_
  refine ws_aload_n C d_L_law_302 rfl ?_
  refine ws_arg C hX hbA hL d_L_law_303 d_L_law_304 d_L_law_305 (j := 1) rfl d_L_law_306 d_L_law_307 (by omega) ?_
  refine ws_cm C (cc_le hN.1 hk).1 (cc_le hN.1 hk).2 w_L_47 hap' hmr (c_M_value hmr hO (sc (1 + 4 * k + 1))) d_L_law_308 rfl rfl (by decide) fun Sm' hmr' hap'' => ?_
  exact ws_icmp_eq C d_L_law_311 (fun _ => hK _ _ _ hN.1 hxo' hmr' hap'') (fun h => absurd rfl h)
theorem lw_c_deliver (C : Cx F code "ChainVersionsLaw" 15 600000 7302250) (hX : va_X b L sc (xs F) (xs F).heap) (hbA : ¬ xA F b) (hL : L < 2 ^ 31) (hi : 1 + 4 * k + 3 < L) (hI : INV k G) (hk : k ≤ 511) (hxo : XO (xz F) ox G Sx) (hmr : MR om ad G Sm) (hap : Ap Sx Sm) (hK : LK F b ox om ad k) : WS F 316 (lvv b ox om (1 + 4 * k)) [] (mg Sx Sm) (CCn k G) (SSn k G) := by
  have hO := hI.1.1
  have hW := hI.1.wf
  have hD : ∀ i j, (sc (1 + 4 * k + 1)) = nI i → (sc (1 + 4 * k + 2)) = nI j → dlX G i j := fun i j _ _ => (hI.dlx hk i j).1
  have hN0 : ∀ i j, (sc (1 + 4 * k + 1)) = nI i → (sc (1 + 4 * k + 2)) = nI j → dlN G i j ≤ (if (inN (sc (1 + 4 * k + 1)) 5 && inN (sc (1 + 4 * k + 2)) 5) = true then dlN G (ix (sc (1 + 4 * k + 1))) (ix (sc (1 + 4 * k + 2))) else 0) := by
    intro i j h1 h2
    cases hf : frs G i j with
    | none => unfold dlN; rw [hf]; exact Nat.zero_le _
    | some m =>
      obtain ⟨-, ⟨-, a, -, c⟩, -⟩ := (hI.dlx hk i j).1 m hf
      have a' := hI.1.2.1.m6 a
      have c' := hI.1.2.1.m6 c
      rw [h1, h2, inN_n (j := i) (n := 5) (by omega), inN_n (j := j) (n := 5) (by omega), ix_n (by omega), ix_n (by omega)]
      exact Nat.le_refl _
  have hNX : NX k G (dlvF G (sc (1 + 4 * k + 1)) (sc (1 + 4 * k + 2))).2 ∧ sm G 4 + (if (inN (sc (1 + 4 * k + 1)) 5 && inN (sc (1 + 4 * k + 2)) 5) = true then dlN G (ix (sc (1 + 4 * k + 1))) (ix (sc (1 + 4 * k + 2))) else 0) ≤ sm (dlvF G (sc (1 + 4 * k + 1)) (sc (1 + 4 * k + 2))).2 4 := by
    unfold dlvF
    by_cases hc : (inN (sc (1 + 4 * k + 1)) 5 && inN (sc (1 + 4 * k + 2)) 5) = true
    · rw [if_pos hc, if_pos hc]
      exact NX.dlv hI hk _ _
    · rw [if_neg hc, if_neg hc]
      exact ⟨NX.same hI, Nat.le_refl _⟩
  have hN := hNX.1
  refine ws_aload_n C d_L_law_316 rfl ?_
  refine ws_arg C hX hbA hL d_L_law_317 d_L_law_318 d_L_law_319 (j := 1) rfl d_L_law_320 d_L_law_321 (by omega) ?_
  refine ws_arg C hX hbA hL d_L_law_322 d_L_law_323 d_L_law_324 (j := 2) rfl d_L_law_325 d_L_law_326 (by omega) ?_
  refine ws_cx C hI hk hN (by have := hNX.2; omega) (by have := hNX.2; omega) w_L_48 hap hxo (c_X_deliver (V := vO F Sm) hxo hO hW (sc (1 + 4 * k + 1)) (sc (1 + 4 * k + 2)) hD hN0) d_L_law_327 rfl rfl (by decide) fun Sx' hxo' hap' => ?_
  refine ws_aload_n C d_L_law_330 rfl ?_
  refine ws_arg C hX hbA hL d_L_law_331 d_L_law_332 d_L_law_333 (j := 1) rfl d_L_law_334 d_L_law_335 (by omega) ?_
  refine ws_arg C hX hbA hL d_L_law_336 d_L_law_337 d_L_law_338 (j := 2) rfl d_L_law_339 d_L_law_340 (by omega) ?_
  refine ws_cm C (cc_le hN.1 hk).1 (cc_le hN.1 hk).2 w_L_51 hap' hmr (c_M_deliver hmr hO (sc (1 + 4 * k + 1)) (sc (1 + 4 * k + 2)) (fun _ _ i j _ _ => (hI.dlx hk i j).2)) d_L_law_341 rfl rfl (by decide) fun Sm' hmr' hap'' => ?_
  exact ws_icmp_eq C d_L_law_344 (fun _ => hK _ _ _ hN.1 hxo' hmr' hap'') (fun h => absurd rfl h)
theorem lw_c_waiting (C : Cx F code "ChainVersionsLaw" 15 600000 7302250) (hX : va_X b L sc (xs F) (xs F).heap) (hbA : ¬ xA F b) (hL : L < 2 ^ 31) (hi : 1 + 4 * k + 3 < L) (hI : INV k G) (hk : k ≤ 511) (hxo : XO (xz F) ox G Sx) (hmr : MR om ad G Sm) (hap : Ap Sx Sm) (hK : LK F b ox om ad k) : WS F 349 (lvv b ox om (1 + 4 * k)) [] (mg Sx Sm) (CCn k G) (SSn k G) := by
  have hO := hI.1.1
  have hW := hI.1.wf
  have hN := NX.same hI
  refine ws_aload_n C d_L_law_349 rfl ?_
  refine ws_arg C hX hbA hL d_L_law_350 d_L_law_351 d_L_law_352 (j := 1) rfl d_L_law_353 d_L_law_354 (by omega) ?_
  refine ws_arg C hX hbA hL d_L_law_355 d_L_law_356 d_L_law_357 (j := 2) rfl d_L_law_358 d_L_law_359 (by omega) ?_
  refine ws_cx C hI hk hN (by have := hN.2; omega) (by have := hN.2; omega) w_L_52 hap hxo (c_X_waiting (V := vO F Sm) hxo hO hW (sc (1 + 4 * k + 1)) (sc (1 + 4 * k + 2))) d_L_law_360 rfl rfl (by decide) fun Sx' hxo' hap' => ?_
  refine ws_aload_n C d_L_law_363 rfl ?_
  refine ws_arg C hX hbA hL d_L_law_364 d_L_law_365 d_L_law_366 (j := 1) rfl d_L_law_367 d_L_law_368 (by omega) ?_
  refine ws_arg C hX hbA hL d_L_law_369 d_L_law_370 d_L_law_371 (j := 2) rfl d_L_law_372 d_L_law_373 (by omega) ?_
  refine ws_cm C (cc_le hN.1 hk).1 (cc_le hN.1 hk).2 w_L_55 hap' hmr (c_M_waiting hmr hO (sc (1 + 4 * k + 1)) (sc (1 + 4 * k + 2))) d_L_law_374 rfl rfl (by decide) fun Sm' hmr' hap'' => ?_
  exact ws_icmp_eq C d_L_law_377 (fun _ => hK _ _ _ hN.1 hxo' hmr' hap'') (fun h => absurd rfl h)
theorem lw_c_stop (C : Cx F code "ChainVersionsLaw" 15 600000 7302250) (hX : va_X b L sc (xs F) (xs F).heap) (hbA : ¬ xA F b) (hL : L < 2 ^ 31) (hi : 1 + 4 * k + 3 < L) (hI : INV k G) (hk : k ≤ 511) (hxo : XO (xz F) ox G Sx) (hmr : MR om ad G Sm) (hap : Ap Sx Sm) (hK : LK F b ox om ad k) : WS F 382 (lvv b ox om (1 + 4 * k)) [] (mg Sx Sm) (CCn k G) (SSn k G) := by
  have hO := hI.1.1
  have hW := hI.1.wf
  have hE : ∀ i, i < G.1 20 0 → G.1 24 i ≤ G.1 8 0 := fun i hi => hI.1.ep (MS_in hi)
  have hN := NX.stp hI (sc (1 + 4 * k + 1))
  refine ws_aload_n C d_L_law_382 rfl ?_
  refine ws_arg C hX hbA hL d_L_law_383 d_L_law_384 d_L_law_385 (j := 1) rfl d_L_law_386 d_L_law_387 (by omega) ?_
  refine ws_cx C hI hk hN (by have := hN.2; omega) (by have := hN.2; omega) w_L_56 hap hxo (c_X_stop (V := vO F Sm) hxo hO hW hE (sc (1 + 4 * k + 1))) d_L_law_388 rfl rfl (by decide) fun Sx' hxo' hap' => ?_
  refine ws_aload_n C d_L_law_391 rfl ?_
  refine ws_arg C hX hbA hL d_L_law_392 d_L_law_393 d_L_law_394 (j := 1) rfl d_L_law_395 d_L_law_396 (by omega) ?_
  refine ws_cm C (cc_le hN.1 hk).1 (cc_le hN.1 hk).2 w_L_60 hap' hmr (c_M_stop hmr hO (sc (1 + 4 * k + 1))) d_L_law_397 rfl rfl (by decide) fun Sm' hmr' hap'' => ?_
  exact ws_icmp_eq C d_L_law_400 (fun _ => hK _ _ _ hN.1 hxo' hmr' hap'') (fun h => absurd rfl h)
theorem lw_c_join (C : Cx F code "ChainVersionsLaw" 15 600000 7302250) (hX : va_X b L sc (xs F) (xs F).heap) (hbA : ¬ xA F b) (hL : L < 2 ^ 31) (hi : 1 + 4 * k + 3 < L) (hI : INV k G) (hk : k ≤ 511) (hxo : XO (xz F) ox G Sx) (hmr : MR om ad G Sm) (hap : Ap Sx Sm) (hK : LK F b ox om ad k) : WS F 405 (lvv b ox om (1 + 4 * k)) [] (mg Sx Sm) (CCn k G) (SSn k G) := by
  have hO := hI.1.1
  have hW := hI.1.wf
  have n2 := (hI.1.2.1.2.2.2.1 (G.1 0 0) (Nat.le_refl _)).2
  have n4 := hI.1.2.2.1.1 (G.1 0 0) (by rw [n2]; decide)
  have hU : G.1 2 (G.1 0 0) = 0 ∧ G.1 28 (G.1 0 0) = 0 ∧ G.1 4 (G.1 0 0) = 0 ∧ G.1 5 (G.1 0 0) = 0 := ⟨n2, (hI.2.1.2.2.2.2.1 _ (Nat.le_refl _)).1, n4.1, n4.2⟩
  have hN := NX.jn hI
  refine ws_aload_n C d_L_law_405 rfl ?_
  refine ws_cx C hI hk hN (by have := hN.2; omega) (by have := hN.2; omega) w_L_61 hap hxo (c_X_join (V := vO F Sm) hxo hO hW hU) d_L_law_406 rfl rfl (by decide) fun Sx' hxo' hap' => ?_
  refine ws_aload_n C d_L_law_409 rfl ?_
  refine ws_cm C (cc_le hN.1 hk).1 (cc_le hN.1 hk).2 w_L_65 hap' hmr (c_M_join hmr hO) d_L_law_410 rfl rfl (by decide) fun Sm' hmr' hap'' => ?_
  exact ws_icmp_eq C d_L_law_413 (fun _ => hK _ _ _ hN.1 hxo' hmr' hap'') (fun h => absurd rfl h)
theorem lw_c_tick (C : Cx F code "ChainVersionsLaw" 15 600000 7302250) (hX : va_X b L sc (xs F) (xs F).heap) (hbA : ¬ xA F b) (hL : L < 2 ^ 31) (hi : 1 + 4 * k + 3 < L) (hI : INV k G) (hk : k ≤ 511) (hxo : XO (xz F) ox G Sx) (hmr : MR om ad G Sm) (hap : Ap Sx Sm) (hK : LK F b ox om ad k) : WS F 418 (lvv b ox om (1 + 4 * k)) [] (mg Sx Sm) (CCn k G) (SSn k G) := by
  have hO := hI.1.1
  have hW := hI.1.wf
  have hcl : G.1 27 0 + 1 ≤ 600 := by have := hI.2.1.2.2.2.1; omega
  have hs6 : ∀ w, G.1 6 w + 1 ≤ 600 := fun w => by have := hI.2.1.2.2.1 w; omega
  have hN := NX.tck hI hk
  refine ws_aload_n C d_L_law_418 rfl ?_
  refine ws_cx C hI hk hN (by have := hN.2; omega) (by have := hN.2; omega) w_L_66 hap hxo (c_X_tick (V := vO F Sm) hxo hO hW hI.2.1.1 hcl) d_L_law_419 rfl rfl (by decide) fun Sx' hxo' hap' => ?_
  refine ws_aload_n C d_L_law_422 rfl ?_
  refine ws_cm C (cc_le hN.1 hk).1 (cc_le hN.1 hk).2 w_L_69 hap' hmr (c_M_tick hmr hO hs6) d_L_law_423 rfl rfl (by decide) fun Sm' hmr' hap'' => ?_
  exact ws_icmp_eq C d_L_law_426 (fun _ => hK _ _ _ hN.1 hxo' hmr' hap'') (fun h => absurd rfl h)
theorem lw_c_adopt (C : Cx F code "ChainVersionsLaw" 15 600000 7302250) (hX : va_X b L sc (xs F) (xs F).heap) (hbA : ¬ xA F b) (hL : L < 2 ^ 31) (hi : 1 + 4 * k + 3 < L) (hI : INV k G) (hk : k ≤ 511) (hxo : XO (xz F) ox G Sx) (hmr : MR om ad G Sm) (hap : Ap Sx Sm) (hK : LK F b ox om ad k) : WS F 431 (lvv b ox om (1 + 4 * k)) [] (mg Sx Sm) (CCn k G) (SSn k G) := by
  have hO := hI.1.1
  have hW := hI.1.wf
  have hIn := hI.1.2.1.2.2.2.2.2.1
  have hA := hI.1.2.2.2.1
  have hc : G.1 20 0 + 6 ≤ 1399 := by have := hI.c0; omega
  have hN := NX.adp hI hk (sc (1 + 4 * k + 1))
  refine ws_aload_n C d_L_law_431 rfl ?_
  refine ws_arg C hX hbA hL d_L_law_432 d_L_law_433 d_L_law_434 (j := 1) rfl d_L_law_435 d_L_law_436 (by omega) ?_
  refine ws_cx C hI hk hN (by have := hN.2; omega) (by have := hN.2; omega) w_L_70 hap hxo (c_X_adopt (V := vO F Sm) hxo hO hW hIn hA hc (sc (1 + 4 * k + 1))) d_L_law_437 rfl rfl (by decide) fun Sx' hxo' hap' => ?_
  refine ws_aload_n C d_L_law_440 rfl ?_
  refine ws_arg C hX hbA hL d_L_law_441 d_L_law_442 d_L_law_443 (j := 1) rfl d_L_law_444 d_L_law_445 (by omega) ?_
  refine ws_cm C (cc_le hN.1 hk).1 (cc_le hN.1 hk).2 w_L_73 hap' hmr (c_M_adopt hmr hO hc (sc (1 + 4 * k + 1))) d_L_law_446 rfl rfl (by decide) fun Sm' hmr' hap'' => ?_
  exact ws_icmp_eq C d_L_law_449 (fun _ => hK _ _ _ hN.1 hxo' hmr' hap'') (fun h => absurd rfl h)
theorem lw_c_member (C : Cx F code "ChainVersionsLaw" 15 600000 7302250) (hX : va_X b L sc (xs F) (xs F).heap) (hbA : ¬ xA F b) (hL : L < 2 ^ 31) (hi : 1 + 4 * k + 3 < L) (hI : INV k G) (hk : k ≤ 511) (hxo : XO (xz F) ox G Sx) (hmr : MR om ad G Sm) (hap : Ap Sx Sm) (hK : LK F b ox om ad k) : WS F 454 (lvv b ox om (1 + 4 * k)) [] (mg Sx Sm) (CCn k G) (SSn k G) := by
  have hO := hI.1.1
  have hW := hI.1.wf
  have hN := NX.same hI
  refine ws_aload_n C d_L_law_454 rfl ?_
  refine ws_arg C hX hbA hL d_L_law_455 d_L_law_456 d_L_law_457 (j := 1) rfl d_L_law_458 d_L_law_459 (by omega) ?_
  refine ws_cx C hI hk hN (by have := hN.2; omega) (by have := hN.2; omega) w_L_74 hap hxo (c_X_member (V := vO F Sm) hxo hO hW (sc (1 + 4 * k + 1))) d_L_law_460 rfl rfl (by decide) fun Sx' hxo' hap' => ?_
  refine ws_aload_n C d_L_law_463 rfl ?_
  refine ws_arg C hX hbA hL d_L_law_464 d_L_law_465 d_L_law_466 (j := 1) rfl d_L_law_467 d_L_law_468 (by omega) ?_
  refine ws_cm C (cc_le hN.1 hk).1 (cc_le hN.1 hk).2 w_L_77 hap' hmr (c_M_member hmr hO (sc (1 + 4 * k + 1))) d_L_law_469 rfl rfl (by decide) fun Sm' hmr' hap'' => ?_
  exact ws_icmp_eq C d_L_law_472 (fun _ => hK _ _ _ hN.1 hxo' hmr' hap'') (fun h => absurd rfl h)
theorem lw_c_epoch (C : Cx F code "ChainVersionsLaw" 15 600000 7302250) (hX : va_X b L sc (xs F) (xs F).heap) (hbA : ¬ xA F b) (hL : L < 2 ^ 31) (hi : 1 + 4 * k + 3 < L) (hI : INV k G) (hk : k ≤ 511) (hxo : XO (xz F) ox G Sx) (hmr : MR om ad G Sm) (hap : Ap Sx Sm) (hK : LK F b ox om ad k) : WS F 477 (lvv b ox om (1 + 4 * k)) [] (mg Sx Sm) (CCn k G) (SSn k G) := by
  have hO := hI.1.1
  have hW := hI.1.wf
  have hN := NX.same hI
  refine ws_aload_n C d_L_law_477 rfl ?_
  refine ws_arg C hX hbA hL d_L_law_478 d_L_law_479 d_L_law_480 (j := 1) rfl d_L_law_481 d_L_law_482 (by omega) ?_
  refine ws_cx C hI hk hN (by have := hN.2; omega) (by have := hN.2; omega) w_L_78 hap hxo (c_X_epoch (V := vO F Sm) hxo hO hW (sc (1 + 4 * k + 1))) d_L_law_483 rfl rfl (by decide) fun Sx' hxo' hap' => ?_
  refine ws_aload_n C d_L_law_486 rfl ?_
  refine ws_arg C hX hbA hL d_L_law_487 d_L_law_488 d_L_law_489 (j := 1) rfl d_L_law_490 d_L_law_491 (by omega) ?_
  refine ws_cm C (cc_le hN.1 hk).1 (cc_le hN.1 hk).2 w_L_81 hap' hmr (c_M_epoch hmr hO (sc (1 + 4 * k + 1))) d_L_law_492 rfl rfl (by decide) fun Sm' hmr' hap'' => ?_
  exact ws_icmp_eq C d_L_law_495 (fun _ => hK _ _ _ hN.1 hxo' hmr' hap'') (fun h => absurd rfl h)
theorem lw_c_length (C : Cx F code "ChainVersionsLaw" 15 600000 7302250) (hX : va_X b L sc (xs F) (xs F).heap) (hbA : ¬ xA F b) (hL : L < 2 ^ 31) (hi : 1 + 4 * k + 3 < L) (hI : INV k G) (hk : k ≤ 511) (hxo : XO (xz F) ox G Sx) (hmr : MR om ad G Sm) (hap : Ap Sx Sm) (hK : LK F b ox om ad k) : WS F 500 (lvv b ox om (1 + 4 * k)) [] (mg Sx Sm) (CCn k G) (SSn k G) := by
  have hO := hI.1.1
  have hW := hI.1.wf
  have hN := NX.same hI
  refine ws_aload_n C d_L_law_500 rfl ?_
  refine ws_arg C hX hbA hL d_L_law_501 d_L_law_502 d_L_law_503 (j := 1) rfl d_L_law_504 d_L_law_505 (by omega) ?_
  refine ws_cx C hI hk hN (by have := hN.2; omega) (by have := hN.2; omega) w_L_82 hap hxo (c_X_length (V := vO F Sm) hxo hO hW (sc (1 + 4 * k + 1))) d_L_law_506 rfl rfl (by decide) fun Sx' hxo' hap' => ?_
  refine ws_aload_n C d_L_law_509 rfl ?_
  refine ws_arg C hX hbA hL d_L_law_510 d_L_law_511 d_L_law_512 (j := 1) rfl d_L_law_513 d_L_law_514 (by omega) ?_
  refine ws_cm C (cc_le hN.1 hk).1 (cc_le hN.1 hk).2 w_L_85 hap' hmr (c_M_length hmr hO (sc (1 + 4 * k + 1))) d_L_law_515 rfl rfl (by decide) fun Sm' hmr' hap'' => ?_
  exact ws_icmp_eq C d_L_law_518 (fun _ => hK _ _ _ hN.1 hxo' hmr' hap'') (fun h => absurd rfl h)
theorem lw_c_settled (C : Cx F code "ChainVersionsLaw" 15 600000 7302250) (hX : va_X b L sc (xs F) (xs F).heap) (hbA : ¬ xA F b) (hL : L < 2 ^ 31) (hi : 1 + 4 * k + 3 < L) (hI : INV k G) (hk : k ≤ 511) (hxo : XO (xz F) ox G Sx) (hmr : MR om ad G Sm) (hap : Ap Sx Sm) (hK : LK F b ox om ad k) : WS F 523 (lvv b ox om (1 + 4 * k)) [] (mg Sx Sm) (CCn k G) (SSn k G) := by
  have hO := hI.1.1
  have hW := hI.1.wf
  have hN := NX.same hI
  refine ws_aload_n C d_L_law_523 rfl ?_
  refine ws_arg C hX hbA hL d_L_law_524 d_L_law_525 d_L_law_526 (j := 1) rfl d_L_law_527 d_L_law_528 (by omega) ?_
  refine ws_cx C hI hk hN (by have := hN.2; omega) (by have := hN.2; omega) w_L_86 hap hxo (c_X_settled (V := vO F Sm) hxo hO hW (sc (1 + 4 * k + 1))) d_L_law_529 rfl rfl (by decide) fun Sx' hxo' hap' => ?_
  refine ws_aload_n C d_L_law_532 rfl ?_
  refine ws_arg C hX hbA hL d_L_law_533 d_L_law_534 d_L_law_535 (j := 1) rfl d_L_law_536 d_L_law_537 (by omega) ?_
  refine ws_cm C (cc_le hN.1 hk).1 (cc_le hN.1 hk).2 w_L_89 hap' hmr (c_M_settled hmr hO (sc (1 + 4 * k + 1))) d_L_law_538 rfl rfl (by decide) fun Sm' hmr' hap'' => ?_
  exact ws_icmp_eq C d_L_law_541 (fun _ => hK _ _ _ hN.1 hxo' hmr' hap'') (fun h => absurd rfl h)
theorem lw_c_version (C : Cx F code "ChainVersionsLaw" 15 600000 7302250) (hX : va_X b L sc (xs F) (xs F).heap) (hbA : ¬ xA F b) (hL : L < 2 ^ 31) (hi : 1 + 4 * k + 3 < L) (hI : INV k G) (hk : k ≤ 511) (hxo : XO (xz F) ox G Sx) (hmr : MR om ad G Sm) (hap : Ap Sx Sm) (hK : LK F b ox om ad k) : WS F 546 (lvv b ox om (1 + 4 * k)) [] (mg Sx Sm) (CCn k G) (SSn k G) := by
  have hO := hI.1.1
  have hW := hI.1.wf
  have hse := hI.1.2.2.1.2.1
  have hN := NX.same hI
  refine ws_aload_n C d_L_law_546 rfl ?_
  refine ws_arg C hX hbA hL d_L_law_547 d_L_law_548 d_L_law_549 (j := 1) rfl d_L_law_550 d_L_law_551 (by omega) ?_
  refine ws_arg C hX hbA hL d_L_law_552 d_L_law_553 d_L_law_554 (j := 2) rfl d_L_law_555 d_L_law_556 (by omega) ?_
  refine ws_arg C hX hbA hL d_L_law_557 d_L_law_558 d_L_law_559 (j := 3) rfl d_L_law_560 d_L_law_561 (by omega) ?_
  refine ws_cx C hI hk hN (by have := hN.2; omega) (by have := hN.2; omega) w_L_90 hap hxo (c_X_version (V := vO F Sm) hxo hO hW (sc (1 + 4 * k + 1)) (sc (1 + 4 * k + 2)) (sc (1 + 4 * k + 3))) d_L_law_562 rfl rfl (by decide) fun Sx' hxo' hap' => ?_
  refine ws_aload_n C d_L_law_565 rfl ?_
  refine ws_arg C hX hbA hL d_L_law_566 d_L_law_567 d_L_law_568 (j := 1) rfl d_L_law_569 d_L_law_570 (by omega) ?_
  refine ws_arg C hX hbA hL d_L_law_571 d_L_law_572 d_L_law_573 (j := 2) rfl d_L_law_574 d_L_law_575 (by omega) ?_
  refine ws_arg C hX hbA hL d_L_law_576 d_L_law_577 d_L_law_578 (j := 3) rfl d_L_law_579 d_L_law_580 (by omega) ?_
  refine ws_cm C (cc_le hN.1 hk).1 (cc_le hN.1 hk).2 w_L_93 hap' hmr (c_M_version hmr hO hse (sc (1 + 4 * k + 1)) (sc (1 + 4 * k + 2)) (sc (1 + 4 * k + 3))) d_L_law_581 rfl rfl (by decide) fun Sm' hmr' hap'' => ?_
  exact ws_icmp_eq C d_L_law_584 (fun _ => hK _ _ _ hN.1 hxo' hmr' hap'') (fun h => absurd rfl h)
theorem lw_c_look (C : Cx F code "ChainVersionsLaw" 15 600000 7302250) (hX : va_X b L sc (xs F) (xs F).heap) (hbA : ¬ xA F b) (hL : L < 2 ^ 31) (hi : 1 + 4 * k + 3 < L) (hI : INV k G) (hk : k ≤ 511) (hxo : XO (xz F) ox G Sx) (hmr : MR om ad G Sm) (hap : Ap Sx Sm) (hK : LK F b ox om ad k) : WS F 589 (lvv b ox om (1 + 4 * k)) [] (mg Sx Sm) (CCn k G) (SSn k G) := by
  have hO := hI.1.1
  have hW := hI.1.wf
  have hse := hI.1.2.2.1.2.1
  have hN := NX.same hI
  refine ws_aload_n C d_L_law_589 rfl ?_
  refine ws_arg C hX hbA hL d_L_law_590 d_L_law_591 d_L_law_592 (j := 1) rfl d_L_law_593 d_L_law_594 (by omega) ?_
  refine ws_arg C hX hbA hL d_L_law_595 d_L_law_596 d_L_law_597 (j := 2) rfl d_L_law_598 d_L_law_599 (by omega) ?_
  refine ws_arg C hX hbA hL d_L_law_600 d_L_law_601 d_L_law_602 (j := 3) rfl d_L_law_603 d_L_law_604 (by omega) ?_
  refine ws_cx C hI hk hN (by have := hN.2; omega) (by have := hN.2; omega) w_L_94 hap hxo (c_X_look (V := vO F Sm) hxo hO hW (sc (1 + 4 * k + 1)) (sc (1 + 4 * k + 2)) (sc (1 + 4 * k + 3))) d_L_law_605 rfl rfl (by decide) fun Sx' hxo' hap' => ?_
  refine ws_aload_n C d_L_law_608 rfl ?_
  refine ws_arg C hX hbA hL d_L_law_609 d_L_law_610 d_L_law_611 (j := 1) rfl d_L_law_612 d_L_law_613 (by omega) ?_
  refine ws_arg C hX hbA hL d_L_law_614 d_L_law_615 d_L_law_616 (j := 2) rfl d_L_law_617 d_L_law_618 (by omega) ?_
  refine ws_arg C hX hbA hL d_L_law_619 d_L_law_620 d_L_law_621 (j := 3) rfl d_L_law_622 d_L_law_623 (by omega) ?_
  refine ws_cm C (cc_le hN.1 hk).1 (cc_le hN.1 hk).2 w_L_97 hap' hmr (c_M_look hmr hO hse (sc (1 + 4 * k + 1)) (sc (1 + 4 * k + 2)) (sc (1 + 4 * k + 3))) d_L_law_624 rfl rfl (by decide) fun Sm' hmr' hap'' => ?_
  exact ws_icmp_eq C d_L_law_627 (fun _ => hK _ _ _ hN.1 hxo' hmr' hap'') (fun h => absurd rfl h)
theorem and31 (x : Int32) : ∃ n, n < 32 ∧ x &&& 31 = nI n := by
  refine ⟨x.toBitVec.toNat % 32, Nat.mod_lt _ (by decide), ?_⟩
  apply Int32.toBitVec_inj.mp
  apply BitVec.eq_of_toNat_eq
  have h31 : (31 : Int32).toBitVec.toNat = 2 ^ 5 - 1 := by decide
  rw [Int32.toBitVec_and, BitVec.toNat_and, h31, Nat.and_two_pow_sub_one_eq_mod]
  show x.toBitVec.toNat % 2 ^ 5 = (nI (x.toBitVec.toNat % 32)).toBitVec.toNat
  unfold nI
  rw [Int32.toBitVec_ofNat', BitVec.toNat_ofNat]
  omega
theorem lw_case (C : Cx F code "ChainVersionsLaw" 15 600000 7302250) (hX : va_X b L sc (xs F) (xs F).heap) (hbA : ¬ xA F b) (hL : L < 2 ^ 31) (hi : 1 + 4 * k + 3 < L) (hI : INV k G) (hk : k ≤ 511) (hxo : XO (xz F) ox G Sx) (hmr : MR om ad G Sm) (hap : Ap Sx Sm) (hK : LK F b ox om ad k) (hD : WS F 632 (lvv b ox om (1 + 4 * k)) [] (mg Sx Sm) (CCn k G) (SSn k G)) (x : Int32) : WS F 42 (lvv b ox om (1 + 4 * k)) [.int (x &&& 31)] (mg Sx Sm) (CCn k G) (SSn k G) := by
  obtain ⟨n, hn, e⟩ := and31 x
  rw [e]
  rcases Nat.lt_or_ge n 18 with h | h
  · have hc : n = 0 ∨ n = 1 ∨ n = 2 ∨ n = 3 ∨ n = 4 ∨ n = 5 ∨ n = 6 ∨ n = 7 ∨ n = 8 ∨ n = 9 ∨ n = 10 ∨ n = 11 ∨ n = 12 ∨ n = 13 ∨ n = 14 ∨ n = 15 ∨ n = 16 ∨ n = 17 := by omega
    rcases hc with rfl | rfl | rfl | rfl | rfl | rfl | rfl | rfl | rfl | rfl | rfl | rfl | rfl | rfl | rfl | rfl | rfl | rfl
    · exact ws_tabIn C 86 d_L_law_42 (by decide) (by decide) rfl rfl (lw_c_put C hX hbA hL hi hI hk hxo hmr hap hK)
    · exact ws_tabIn C 129 d_L_law_42 (by decide) (by decide) rfl rfl (lw_c_get C hX hbA hL hi hI hk hxo hmr hap hK)
    · exact ws_tabIn C 172 d_L_law_42 (by decide) (by decide) rfl rfl (lw_c_retry C hX hbA hL hi hI hk hxo hmr hap hK)
    · exact ws_tabIn C 205 d_L_law_42 (by decide) (by decide) rfl rfl (lw_c_status C hX hbA hL hi hI hk hxo hmr hap hK)
    · exact ws_tabIn C 228 d_L_law_42 (by decide) (by decide) rfl rfl (lw_c_number C hX hbA hL hi hI hk hxo hmr hap hK)
    · exact ws_tabIn C 251 d_L_law_42 (by decide) (by decide) rfl rfl (lw_c_value C hX hbA hL hi hI hk hxo hmr hap hK)
    · exact ws_tabIn C 274 d_L_law_42 (by decide) (by decide) rfl rfl (lw_c_deliver C hX hbA hL hi hI hk hxo hmr hap hK)
    · exact ws_tabIn C 307 d_L_law_42 (by decide) (by decide) rfl rfl (lw_c_waiting C hX hbA hL hi hI hk hxo hmr hap hK)
    · exact ws_tabIn C 340 d_L_law_42 (by decide) (by decide) rfl rfl (lw_c_stop C hX hbA hL hi hI hk hxo hmr hap hK)
    · exact ws_tabIn C 363 d_L_law_42 (by decide) (by decide) rfl rfl (lw_c_join C hX hbA hL hi hI hk hxo hmr hap hK)
    · exact ws_tabIn C 376 d_L_law_42 (by decide) (by decide) rfl rfl (lw_c_tick C hX hbA hL hi hI hk hxo hmr hap hK)
    · exact ws_tabIn C 389 d_L_law_42 (by decide) (by decide) rfl rfl (lw_c_adopt C hX hbA hL hi hI hk hxo hmr hap hK)
    · exact ws_tabIn C 412 d_L_law_42 (by decide) (by decide) rfl rfl (lw_c_member C hX hbA hL hi hI hk hxo hmr hap hK)
    · exact ws_tabIn C 435 d_L_law_42 (by decide) (by decide) rfl rfl (lw_c_epoch C hX hbA hL hi hI hk hxo hmr hap hK)
    · exact ws_tabIn C 458 d_L_law_42 (by decide) (by decide) rfl rfl (lw_c_length C hX hbA hL hi hI hk hxo hmr hap hK)
    · exact ws_tabIn C 481 d_L_law_42 (by decide) (by decide) rfl rfl (lw_c_settled C hX hbA hL hi hI hk hxo hmr hap hK)
    · exact ws_tabIn C 504 d_L_law_42 (by decide) (by decide) rfl rfl (lw_c_version C hX hbA hL hi hI hk hxo hmr hap hK)
    · exact ws_tabIn C 547 d_L_law_42 (by decide) (by decide) rfl rfl (lw_c_look C hX hbA hL hi hI hk hxo hmr hap hK)
  · refine ws_tabOut C d_L_law_42 (Or.inr ?_) rfl hD
    have : n = 18 ∨ n = 19 ∨ n = 20 ∨ n = 21 ∨ n = 22 ∨ n = 23 ∨ n = 24 ∨ n = 25 ∨ n = 26 ∨ n = 27 ∨ n = 28 ∨ n = 29 ∨ n = 30 ∨ n = 31 := by omega
    rcases this with rfl | rfl | rfl | rfl | rfl | rfl | rfl | rfl | rfl | rfl | rfl | rfl | rfl | rfl <;> decide
end LAW
