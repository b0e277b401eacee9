/-! rows for the library's list: the shared empty array, references compared, copies -/
def cpyQ (S : Sto) (k a0 a sp dp n : Nat) : Sto := (sK S, sI S, sP S, sE S, fun k' a' i => if k' = k ∧ a' = a then va_cpy (sQ S k a0) (sQ S k a) sp dp n i else sQ S k' a' i, sZ S)
def cpyE (S : Sto) (k a0 a sp dp n : Nat) : Sto := (sK S, sI S, sP S, fun k' a' i => if k' = k ∧ a' = a then va_cpy (sE S k a0) (sE S k a) sp dp n i else sE S k' a' i, sQ S, sZ S)
theorem nat_ac : nativeFrameWords "java/lang/System" "arraycopy" 5 + 11 ≤ 30 := by decide
theorem sy_ini : Cond.initialized "java/lang/System" ∈ TB := by decide +kernel
theorem sy_nat : Cond.native arraycopyName ∈ TB := by decide +kernel
theorem sy_sta : Cond.static arraycopyName ∈ TB := by decide +kernel
theorem mx_sta : Cond.static Lib.Math.max.name ∈ TB := by decide +kernel
theorem mn_sta : Cond.static Lib.Math.min.name ∈ TB := by decide +kernel
theorem ma_ini : Cond.initialized "java/lang/Math" ∈ TB := by decide +kernel
theorem mx_cod : Cond.code Lib.Math.max.name Lib.Math.max.code 2 (some .int) ∈ TB := by decide +kernel
theorem mn_cod : Cond.code Lib.Math.min.name Lib.Math.min.code 2 (some .int) ∈ TB := by decide +kernel
section ROWS
variable {F : Fx} {cc : ByteArray} {own : String} {pc pc' tgt : Nat} {lv : List (Option Value)} {st : List Value} {S : Sto} {cs ss : Nat} {dF cF sF : Nat}
theorem ws_getZ (C : Cx F cc own dF cF sF) {idx : Nat} (d : At cc pc (.getstatic idx) 3 pc') (hl : Cond.fieldLink own idx "java/util/ArrayList" "DEFAULTCAPACITY_EMPTY_ELEMENTDATA" "[Ljava/lang/Object;" ∈ TB) (k : WS F pc' lv (.ref (xz F) :: st) S cs ss) : WS F pc lv st S cs ss := by
  obtain ⟨d, rfl⟩ := d
  intro ls H locs hl' hw hS
  exact va_gets C.x C.b C.z.1 hS C.o (C.t hl) (fun _ h => h) d (k ls H locs hl' hw hS)
theorem ws_alenZ (C : Cx F cc own dF cF sF) (d : At cc pc .arraylength 1 pc') (k : WS F pc' lv (.int (nI 0) :: st) S cs ss) : WS F pc lv (.ref (xz F) :: st) S cs ss := by
  obtain ⟨d, rfl⟩ := d
  intro ls H locs hl hw hS
  exact va_tlen C.x C.b C.z.2 hS rfl d (k ls H locs hl hw hS)
theorem ws_z0 (C : Cx F cc own dF cF sF) {a : Nat} (k : sK S (xz F) = 0 → WS F pc lv st S cs ss) : WS F pc lv st S cs ss := by
  intro ls H locs hl hw hS
  refine k ?_ ls H locs hl hw hS
  cases hc : cel (xY F) S (xz F) with
  | none => exact cel_n hc
  | some e => exact absurd (hw _ _ hc).2 C.z.2.out
theorem ws_acmp_eq (C : Cx F cc own dF cF sF) {x y : Nat} (d : AtC cc pc (.if_acmp .eq) tgt pc') (kt : x = y → WS F tgt lv st S cs ss) (kf : ¬ x = y → WS F pc' lv st S cs ss) : WS F pc lv (.ref y :: .ref x :: st) S cs ss := by
  obtain ⟨off, d, ht, rfl⟩ := d
  intro ls H locs hl hw hS
  exact lv_acmp_eq (rx := some x) (ry := some y) C.x C.b d ht (fun h => kt (Option.some.inj h) ls H locs hl hw hS) (fun h => kf (fun z => h (congrArg some z)) ls H locs hl hw hS)
theorem ws_acmp_ne (C : Cx F cc own dF cF sF) {x y : Nat} (d : AtC cc pc (.if_acmp .ne) tgt pc') (kt : ¬ x = y → WS F tgt lv st S cs ss) (kf : x = y → WS F pc' lv st S cs ss) : WS F pc lv (.ref y :: .ref x :: st) S cs ss := by
  obtain ⟨off, d, ht, rfl⟩ := d
  intro ls H locs hl hw hS
  exact lv_acmp_ne (rx := some x) (ry := some y) C.x C.b d ht (fun h => kt (fun z => h (congrArg some z)) ls H locs hl hw hS) (fun h => kf (Option.some.inj h) ls H locs hl hw hS)
theorem ws_ldc (C : Cx F cc own dF cF sF) {idx : Nat} {v : Int32} (d : At cc pc (.ldc idx) 2 pc') (hl : Cond.constant own idx v ∈ TB) (k : WS F pc' lv (.int v :: st) S cs ss) : WS F pc lv st S cs ss := by
  obtain ⟨d, rfl⟩ := d
  intro ls H locs hl' hw hS
  exact lv_ldc C.x C.b C.o (C.t hl) d (k ls H locs hl' hw hS)
theorem ws_ldcM (C : Cx F cc own dF cF sF) {idx : Nat} (d : At cc pc (.ldc idx) 2 pc') (hl : Cond.classLink own idx "[Ljava/lang/Object;" ∈ TB) (k : WS F pc' lv (.ref (xY F 20) :: st) S cs ss) : WS F pc lv st S cs ss := by
  obtain ⟨d, rfl⟩ := d
  intro ls H locs hl' hw hS
  exact va_ldcM C.x C.b C.o (C.t hl) C.E.2.2.2.2 d (k ls H locs hl' hw hS)
theorem ws_getC (C : Cx F cc own dF cF sF) {idx a : Nat} (hk : sK S a = 14) (d : At cc pc (.invokevirtual idx) 3 pc') (hl : Cond.methodLink own idx ⟨"java/lang/Object", "getClass", "()Ljava/lang/Class;"⟩ ∈ TB) (hs : Cond.selects "[Ljava/lang/Object;" ⟨"java/lang/Object", "getClass", "()Ljava/lang/Class;"⟩ ⟨"java/lang/Object", "getClass", "()Ljava/lang/Class;"⟩ ∈ TB) (hi : Cond.instanceMethod ⟨"java/lang/Object", "getClass", "()Ljava/lang/Class;"⟩ ∈ TB) (hn : Cond.native ⟨"java/lang/Object", "getClass", "()Ljava/lang/Class;"⟩ ∈ TB) (hd : 0 < dF) (hroom : (st.map fun v => v.category).sum ≤ 8) (k : WS F pc' lv (.ref (xY F 20) :: st) S cs ss) : WS F pc lv (.ref a :: st) S cs ss := by
  obtain ⟨d, rfl⟩ := d
  intro ls H locs hl' hw hS
  have hcel := (hw a _ (cel_q hk (by decide))).1
  refine va_getC C.x C.b (by rw [C.ml]; exact hl'.1.symm) C.o (C.t hl) (va_Nw.use rfl C.E.2.2.2.1) (C.t hs) (C.t hi) (C.t hn) C.E.2.2.2.2 ⟨_, hcel, rfl, ?_⟩ ?_ ?_ d (k ls H locs hl' hw hS)
  · exact va_nmO (C.k.2 5 _ rfl).2 rfl
  · have := C.1.1; omega
  · have := C.1.2.1; omega
/-- a copy between arrays of messages; only messages lie in the part that is copied -/
theorem ws_copyQ (C : Cx F cc own dF cF sF) {idx a0 a sp dp n : Nat} (hl : Cond.methodLink own idx arraycopyName ∈ TB) (d : At cc pc (.invokestatic idx) 3 pc') (hk0 : sK S a0 = 14) (hk : sK S a = 14) (h4 : sp + n ≤ sZ S a0) (h5 : dp + n ≤ sZ S a) (hz0 : sZ S a0 < 2 ^ 31) (hz : sZ S a < 2 ^ 31) (hel : ∀ i, i < n → ∀ y, sQ S 14 a0 (sp + i) = some y → sK S y = 7) (hd : 0 < dF) (hroom : (st.map fun v => v.category).sum ≤ 8) (k : WS F pc' lv st (cpyQ S 14 a0 a sp dp n) cs ss) : WS F pc lv (.int (nI n) :: .int (nI dp) :: .ref a :: .int (nI sp) :: .ref a0 :: st) S cs ss := by
  obtain ⟨d, rfl⟩ := d
  intro ls H locs hl' hw hS
  obtain ⟨q0, hq0⟩ := wl_get hw (cel_q hk0 (by decide))
  obtain ⟨q1, hq1⟩ := wl_get hw (cel_q hk (by decide))
  have cn : (nI n).toNatClampNeg = n := nI_clamp (by omega)
  have cp : (nI sp).toNatClampNeg = sp := nI_clamp (by omega)
  have cd : (nI dp).toNatClampNeg = dp := nI_clamp (by omega)
  refine va_copyq (E0 := "java/lang/Object") (E1 := "java/lang/Object") (C := "ChainVersions$Message") C.x C.b (by rw [C.ml]; exact hl'.1.symm) C.o (C.t hl) (C.t sy_nat) (C.t sy_sta) (C.t sy_ini) C.k (wl_P hw) (wl_D hw) hS q0 q1 5 5 hq0 hq1 rfl rfl (nI_pos (by omega)) (nI_pos (by omega)) (nI_pos (by omega)) (by rw [cn, cp]; exact h4) (by rw [cn, cd]; exact h5) ?_ (fun comp c0 e1 e2 => vb_asgC C.E.1 comp c0 e1 e2) ?_ ?_ d (fun H1 locs1 hP1 _ hS1 => k ls H1 locs1 hl' ?_ hS1)
  · intro i hi y hy
    rw [cn] at hi
    rw [cp] at hy
    have hy7 := hel i hi y hy
    obtain ⟨qy, hqy⟩ := wl_get hw (cel_o hy7 (by decide) (by decide))
    exact va_recv C.k (wl_P hw) (vCl_at (kd := 7) (by decide) (by decide)) hqy
  · have := C.1.1; omega
  · have := C.1.2.1; have := nat_ac; omega
  · rw [cn, cp, cd] at hP1
    refine wl_set hw hq1 hP1 ?_ (fun b hb => cel_congr rfl (fun _ => rfl) (fun _ => rfl) (fun _ => rfl) (fun k' => ?_) rfl)
    · have hk' : sK (cpyQ S 14 a0 a sp dp n) a = 14 := hk
      have e1 : sQ (cpyQ S 14 a0 a sp dp n) 14 a = va_cpy (sQ S 14 a0) (sQ S 14 a) sp dp n := by
        funext i
        simp [cpyQ, sQ]
      rw [cel_q hk' (by decide), e1]
      rfl
    · funext i
      have : ¬ (k' = 14 ∧ b = a) := fun z => hb z.2
      simp only [cpyQ, sQ, if_neg this]
theorem ws_copyI (C : Cx F cc own dF cF sF) {idx a0 a sp dp n : Nat} (hl : Cond.methodLink own idx arraycopyName ∈ TB) (d : At cc pc (.invokestatic idx) 3 pc') (hk0 : sK S a0 = 9) (hk : sK S a = 9) (h4 : sp + n ≤ sZ S a0) (h5 : dp + n ≤ sZ S a) (hz0 : sZ S a0 < 2 ^ 31) (hz : sZ S a < 2 ^ 31) (hd : 0 < dF) (hroom : (st.map fun v => v.category).sum ≤ 8) (k : WS F pc' lv st (cpyE S 9 a0 a sp dp n) cs ss) : WS F pc lv (.int (nI n) :: .int (nI dp) :: .ref a :: .int (nI sp) :: .ref a0 :: st) S cs ss := by
  obtain ⟨d, rfl⟩ := d
  intro ls H locs hl' hw hS
  obtain ⟨q0, hq0⟩ := wl_get hw (cel_i hk0 (by decide) (by decide))
  obtain ⟨q1, hq1⟩ := wl_get hw (cel_i hk (by decide) (by decide))
  have cn : (nI n).toNatClampNeg = n := nI_clamp (by omega)
  have cp : (nI sp).toNatClampNeg = sp := nI_clamp (by omega)
  have cd : (nI dp).toNatClampNeg = dp := nI_clamp (by omega)
  refine va_copyi (ty := .int) C.x C.b (by rw [C.ml]; exact hl'.1.symm) C.o (C.t hl) (C.t sy_nat) (C.t sy_sta) (C.t sy_ini) C.k (wl_P hw) (wl_D hw) hS q0 q1 0 0 hq0 hq1 rfl rfl rfl (nI_pos (by omega)) (nI_pos (by omega)) (nI_pos (by omega)) (by rw [cn, cp]; exact h4) (by rw [cn, cd]; exact h5) (fun _ _ => rfl) ?_ ?_ d (fun H1 locs1 hP1 _ hS1 => k ls H1 locs1 hl' ?_ hS1)
  · have := C.1.1; omega
  · have := C.1.2.1; have := nat_ac; omega
  · rw [cn, cp, cd] at hP1
    refine wl_set hw hq1 hP1 ?_ (fun b hb => cel_congr rfl (fun _ => rfl) (fun _ => rfl) (fun k' => ?_) (fun _ => rfl) rfl)
    · have hk' : sK (cpyE S 9 a0 a sp dp n) a = 9 := hk
      have e1 : sE (cpyE S 9 a0 a sp dp n) 9 a = va_cpy (sE S 9 a0) (sE S 9 a) sp dp n := by
        funext i
        simp [cpyE, sE]
      rw [cel_i hk' (by decide) (by decide), e1]
      rfl
    · funext i
      have : ¬ (k' = 9 ∧ b = a) := fun z => hb z.2
      simp only [cpyE, sE, if_neg this]
theorem ws_castM (C : Cx F cc own dF cF sF) {idx a : Nat} (hl : Cond.classLink own idx "ChainVersions$Message" ∈ TB) (d : At cc pc (.checkcast idx) 3 pc') (hk : sK S a = 7) (k : WS F pc' lv (.ref a :: st) S cs ss) : WS F pc lv (.ref a :: st) S cs ss := by
  obtain ⟨d, rfl⟩ := d
  intro ls H locs hl' hw hS
  obtain ⟨qy, hqy⟩ := wl_get hw (cel_o hk (by decide) (by decide))
  exact va_castS C.x C.b C.o (C.t hl) (C.k.1 6 _ (vCl_at (kd := 7) (by decide) (by decide))).2 (va_recv C.k (wl_P hw) (vCl_at (kd := 7) (by decide) (by decide)) hqy) d (k ls H locs hl' hw hS)
theorem ws_mmax (C : Cx F cc own dF cF sF) {idx : Nat} {x y : Int32} (hl : Cond.methodLink own idx Lib.Math.max.name ∈ TB) (d : At cc pc (.invokestatic idx) 3 pc') (hd : 0 < dF) (hc : cs ≤ cF) (hs : ss ≤ sF) (hroom : (st.map fun v => v.category).sum ≤ 8) (k : WS F pc' lv (.int (if x < y then y else x) :: st) S cs ss) : WS F pc lv (.int y :: .int x :: st) S cs ss := by
  obtain ⟨d, rfl⟩ := d
  intro ls H locs hl' hw hS
  refine va_mmax C.x C.b (by rw [C.ml]; exact hl'.1.symm) C.o (C.t hl) (C.t mx_sta) (C.t ma_ini) (C.t mx_cod) ?_ ?_ (by rw [C.1.2.2.1]; exact hc) (by rw [C.1.2.2.2]; exact hs) d (k ls H locs hl' hw hS)
  · have := C.1.1; omega
  · have := C.1.2.1; omega
theorem ws_mmin (C : Cx F cc own dF cF sF) {idx : Nat} {x y : Int32} (hl : Cond.methodLink own idx Lib.Math.min.name ∈ TB) (d : At cc pc (.invokestatic idx) 3 pc') (hd : 0 < dF) (hc : cs ≤ cF) (hs : ss ≤ sF) (hroom : (st.map fun v => v.category).sum ≤ 8) (k : WS F pc' lv (.int (if y < x then y else x) :: st) S cs ss) : WS F pc lv (.int y :: .int x :: st) S cs ss := by
  obtain ⟨d, rfl⟩ := d
  intro ls H locs hl' hw hS
  refine va_mmin C.x C.b (by rw [C.ml]; exact hl'.1.symm) C.o (C.t hl) (C.t mn_sta) (C.t ma_ini) (C.t mn_cod) ?_ ?_ (by rw [C.1.2.2.1]; exact hc) (by rw [C.1.2.2.2]; exact hs) d (k ls H locs hl' hw hS)
  · have := C.1.1; omega
  · have := C.1.2.1; omega
theorem max_n {a b : Nat} (ha : a < 2 ^ 31) (hb : b < 2 ^ 31) : (if nI a < nI b then nI b else nI a) = nI (max a b) := by
  by_cases h : a < b
  · rw [if_pos ((nI_ltI ha hb).mpr h), Nat.max_eq_right (by omega)]
  · rw [if_neg (fun z => h ((nI_ltI ha hb).mp z)), Nat.max_eq_left (by omega)]
theorem min_n {a b : Nat} (ha : a < 2 ^ 31) (hb : b < 2 ^ 31) : (if nI b < nI a then nI b else nI a) = nI (min a b) := by
  by_cases h : b < a
  · rw [if_pos ((nI_ltI hb ha).mpr h), Nat.min_eq_right (by omega)]
  · rw [if_neg (fun z => h ((nI_ltI hb ha).mp z)), Nat.min_eq_left (by omega)]
end ROWS
