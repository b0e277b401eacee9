/-! what pure steps keep; bounds -/
theorem gN_ne (G : GS) {j i v j' : Nat} (h : j' ≠ j) : (gN G j i v).1 j' = G.1 j' := by
  funext i'
  rw [gN_1, if_neg (fun z => h z.1)]
theorem gV_ne (G : GS) {j i : Nat} {v : Int32} {j' : Nat} (h : j' ≠ j) : (gV G j i v).2 j' = G.2 j' := by
  funext i'
  rw [gV_2, if_neg (fun z => h z.1)]
theorem gN_eq (G : GS) (j i v : Nat) : (gN G j i v).1 j i = v := by rw [gN_1, if_pos ⟨rfl, rfl⟩]
theorem gN_ni (G : GS) {j i v i' : Nat} (h : i' ≠ i) : (gN G j i v).1 j i' = G.1 j i' := by rw [gN_1, if_neg (fun z => h z.2)]
theorem isIn_c {G G' : GS} (h : G'.1 7 = G.1 7) (e w : Nat) : isIn G' e w = isIn G e w := by unfold isIn; rw [h]
theorem prdF_c {G G' : GS} (h : G'.1 7 = G.1 7) (e n : Nat) : prdF G' e n = prdF G e n := by
  induction n with
  | zero => rfl
  | succ n ih => rw [prdF, prdF, isIn_c h, ih]
theorem sucF_c {G G' : GS} (h : G'.1 7 = G.1 7) (e n : Nat) : sucF G' e n = sucF G e n := by
  induction n with
  | zero => rfl
  | succ n ih => rw [sucF, sucF, isIn_c h, ih]
theorem prd_c {G G' : GS} (h : G'.1 7 = G.1 7) (h3 : G'.1 3 = G.1 3) (v : Nat) : prd G' v = prd G v := by unfold prd; rw [h3, prdF_c h]
theorem suc_c {G G' : GS} (h : G'.1 7 = G.1 7) (h3 : G'.1 3 = G.1 3) (v : Nat) : suc G' v = suc G v := by unfold suc; rw [h3, sucF_c h]
theorem prdF_lt {G : GS} {e n x : Nat} (h : prdF G e n = some x) : x < n := by
  induction n with
  | zero => cases h
  | succ n ih =>
    rw [prdF] at h
    split at h
    · cases h; omega
    · have := ih h; omega
theorem sucF_le {G : GS} {e n x : Nat} (h : sucF G e n = some x) : x ≤ 5 ∧ 6 ≤ x + n := by
  induction n with
  | zero => cases h
  | succ n ih =>
    rw [sucF] at h
    split at h
    · cases h; omega
    · have := ih h; omega
theorem prd_le {G : GS} {v x : Nat} (hv : v ≤ 5) (h : prd G v = some x) : x ≤ 5 := by have := prdF_lt h; omega
theorem suc_le {G : GS} {v x : Nat} (h : suc G v = some x) : x ≤ 5 := (sucF_le h).1
theorem tlo_le {G : GS} {e x : Nat} (h : tlo G e = some x) : x ≤ 5 := by have := prdF_lt h; omega
theorem fin1_ne (G : GS) (v i : Nat) {j : Nat} (h1 : j ≠ 13) (h2 : j ≠ 18) : (fin1 G v i).1 j = G.1 j := by
  unfold fin1
  split
  · rw [gV_1, gN_ne _ h2, gN_ne _ h1]
  · rfl
theorem fin1_n2 (G : GS) (v i : Nat) {j : Nat} (h1 : j ≠ 19) : (fin1 G v i).2 j = G.2 j := by
  unfold fin1
  split
  · rw [gV_ne _ h1, gN_2, gN_2]
  · rfl
theorem stlF_ne (v n : Nat) {j : Nat} (h1 : j ≠ 13) (h2 : j ≠ 18) : ∀ (i : Nat) (G : GS), (stlF v n i G).1 j = G.1 j := by
  induction n with
  | zero => intro i G; rfl
  | succ n ih => intro i G; rw [stlF, ih, fin1_ne _ _ _ h1 h2]
theorem stlF_n2 (v n : Nat) {j : Nat} (h1 : j ≠ 19) : ∀ (i : Nat) (G : GS), (stlF v n i G).2 j = G.2 j := by
  induction n with
  | zero => intro i G; rfl
  | succ n ih => intro i G; rw [stlF, ih, fin1_n2 _ _ _ h1]
theorem stl_ne (G : GS) (v : Nat) {j : Nat} (h1 : j ≠ 13) (h2 : j ≠ 18) (h3 : j ≠ 5) : (stl G v).1 j = G.1 j := by
  unfold stl
  rw [gN_ne _ h3, stlF_ne _ _ h1 h2]
theorem stl_n2 (G : GS) (v : Nat) {j : Nat} (h1 : j ≠ 19) : (stl G v).2 j = G.2 j := by
  unfold stl
  rw [gN_2, stlF_n2 _ _ h1]
theorem stl_5 (G : GS) (v : Nat) : (stl G v).1 5 v = G.1 4 v := by unfold stl; rw [gN_eq]
theorem stl_5n (G : GS) {v u : Nat} (h : u ≠ v) : (stl G v).1 5 u = G.1 5 u := by unfold stl; rw [gN_ni _ h, stlF_ne _ _ (by decide) (by decide)]
theorem snd_ne (G : GS) (v : Nat) (w : Option Nat) (k a b : Nat) {j : Nat} (h : j < 20 ∨ 26 < j) : (snd G v w k a b).1 j = G.1 j := by
  unfold snd
  split
  · rfl
  · split
    · rfl
    · unfold pushM
      rw [gN_ne _ (by omega), gN_ne _ (by omega), gN_ne _ (by omega), gN_ne _ (by omega), gN_ne _ (by omega), gN_ne _ (by omega), gN_ne _ (by omega)]
theorem snd_2 (G : GS) (v : Nat) (w : Option Nat) (k a b : Nat) : (snd G v w k a b).2 = G.2 := by
  unfold snd
  split
  · rfl
  · split <;> rfl
theorem snd_20 (G : GS) (v : Nat) (w : Option Nat) (k a b : Nat) : G.1 20 0 ≤ (snd G v w k a b).1 20 0 ∧ (snd G v w k a b).1 20 0 ≤ G.1 20 0 + 1 := by
  unfold snd
  split
  · omega
  · split
    · omega
    · unfold pushM
      rw [gN_eq]; omega
theorem ok_fin1 {G : GS} {v i : Nat} (h : OK G) (hi : i ≤ 100) : OK (fin1 G v i) := by
  unfold fin1
  split
  · exact ok_gV (ok_gN (ok_gN h (by decide)) hi)
  · exact h
theorem ok_stlF {v n : Nat} : ∀ (i : Nat) (G : GS), OK G → i + n ≤ 101 → OK (stlF v n i G) := by
  induction n with
  | zero => intro i G h _; exact h
  | succ n ih => intro i G h hi; exact ih _ _ (ok_fin1 h (by omega)) (by omega)
theorem ok_stl {G : GS} {v : Nat} (h : OK G) : OK (stl G v) := by
  have h4 : G.1 4 v ≤ 100 := h 4 v
  unfold stl
  by_cases hle : G.1 5 v ≤ G.1 4 v
  · exact ok_gN (ok_stlF _ _ h (by omega)) h4
  · have : G.1 4 v - G.1 5 v = 0 := by omega
    rw [this]
    exact ok_gN h h4
theorem ok_snd {G : GS} {v k a b : Nat} {w : Option Nat} (h : OK G) (hv : v ≤ 5) (hw : ∀ x, w = some x → x ≤ 5) (hk : k ≤ 5) (ha : a ≤ 100) (hb : b ≤ 100) (hc : G.1 20 0 + 1 ≤ 1399) : OK (snd G v w k a b) := by
  unfold snd
  split
  · exact h
  · rename_i x
    split
    · exact h
    · exact ok_gN (ok_gN (ok_gN (ok_gN (ok_gN (ok_gN (ok_gN h hv) (hw x rfl)) hk) (h 3 v)) ha) hb) hc
theorem ok_hol {G : GS} {v k c r : Nat} {x : Int32} (h : OK G) (hl : G.1 4 v + 1 ≤ 100) (hk : k ≤ 3) (hc : c ≤ 2) (hr : r ≤ 600) : OK (hol G v k x c r) := ok_gN (ok_gN (ok_gV (ok_gN (ok_gN h hl) hk)) hc) hr
theorem hol_ne (G : GS) (v k : Nat) (x : Int32) (c r : Nat) {j : Nat} (h4 : j ≠ 4) (h9 : j ≠ 9) (h11 : j ≠ 11) (h12 : j ≠ 12) : (hol G v k x c r).1 j = G.1 j := by
  unfold hol
  rw [gN_ne _ h12, gN_ne _ h11, gV_1, gN_ne _ h9, gN_ne _ h4]
theorem hol_4 (G : GS) (v k : Nat) (x : Int32) (c r : Nat) : (hol G v k x c r).1 4 v = G.1 4 v + 1 := by
  unfold hol
  rw [gN_ne _ (by decide), gN_ne _ (by decide), gV_1, gN_ne _ (by decide), gN_eq]
theorem hol_4n (G : GS) {v u : Nat} (k : Nat) (x : Int32) (c r : Nat) (hu : u ≠ v) : (hol G v k x c r).1 4 u = G.1 4 u := by
  unfold hol
  rw [gN_ne _ (by decide), gN_ne _ (by decide), gV_1, gN_ne _ (by decide), gN_ni _ hu]
theorem tol_ne (G : GS) (v : Nat) {j : Nat} (h1 : j ≠ 13) (h2 : j ≠ 18) (h3 : j ≠ 5) (h : j < 20 ∨ 26 < j) : (tol G v).1 j = G.1 j := by
  unfold tol
  split
  · rw [snd_ne _ _ _ _ _ _ h, stl_ne _ _ h1 h2 h3]
  · rw [snd_ne _ _ _ _ _ _ h]
theorem tol_20 (G : GS) (v : Nat) : G.1 20 0 ≤ (tol G v).1 20 0 ∧ (tol G v).1 20 0 ≤ G.1 20 0 + 1 := by
  unfold tol
  split
  · have := snd_20 (stl G v) v (prd G v) 2 (G.1 4 v) 0
    rw [stl_ne _ _ (by decide) (by decide) (by decide)] at this
    exact this
  · exact snd_20 _ _ _ _ _ _
theorem ok_tol {G : GS} {v : Nat} (h : OK G) (hv : v ≤ 5) (hc : G.1 20 0 + 1 ≤ 1399) : OK (tol G v) := by
  have h4 : G.1 4 v ≤ 100 := h 4 v
  unfold tol
  split
  · exact ok_snd (ok_stl h) hv (fun x hx => prd_le hv hx) (by decide) h4 (by decide) (by rw [stl_ne _ _ (by decide) (by decide) (by decide)]; exact hc)
  · exact ok_snd h hv (fun x hx => suc_le hx) (by decide) h4 (by decide) hc
theorem ok_tak {G : GS} {v k c r : Nat} {x : Int32} (h : OK G) (hv : v ≤ 5) (hl : G.1 4 v + 1 ≤ 100) (hk : k ≤ 3) (hc : c ≤ 2) (hr : r ≤ 600) (hn : G.1 20 0 + 1 ≤ 1399) : OK (tak G v k x c r) :=
  ok_tol (ok_hol h hl hk hc hr) hv (by rw [hol_ne _ _ _ _ _ _ (by decide) (by decide) (by decide) (by decide)]; exact hn)
theorem tak_4 (G : GS) (v k : Nat) (x : Int32) (c r : Nat) : (tak G v k x c r).1 4 v = G.1 4 v + 1 := by
  unfold tak
  rw [tol_ne _ _ (by decide) (by decide) (by decide) (by decide), hol_4]
theorem tak_20 (G : GS) (v k : Nat) (x : Int32) (c r : Nat) : G.1 20 0 ≤ (tak G v k x c r).1 20 0 ∧ (tak G v k x c r).1 20 0 ≤ G.1 20 0 + 1 := by
  have := tol_20 (hol G v k x c r) v
  rw [hol_ne _ _ _ _ _ _ (by decide) (by decide) (by decide) (by decide)] at this
  exact this
theorem ok_takF {G : GS} {v u i : Nat} (h : OK G) (hv : v ≤ 5) (hl : G.1 4 v + 1 ≤ 100) (hn : G.1 20 0 + 1 ≤ 1399) : OK (takF G v u i) := ok_tak h hv hl (h 9 _) (h 11 _) (h 12 _) hn
theorem ok_don {G : GS} {c v i : Nat} (h : OK G) (hi : i ≤ 100) : OK (don G c v i) := ok_gV (ok_gN (ok_gN h (by decide)) hi)
theorem cnF_le (G : GS) (v k : Nat) : ∀ i, cnF G v k i ≤ i
  | 0 => Nat.le_refl 0
  | i + 1 => by
    rw [cnF]
    split
    · exact Nat.le_refl _
    · exact Nat.le_trans (cnF_le G v k i) (Nat.le_succ _)
theorem clN_le {G : GS} (h : OK G) (v k : Nat) : clN G v k ≤ 100 := Nat.le_trans (cnF_le G v k _) (h 5 v)
theorem ok_stk {G : GS} {m k : Nat} (h : OK G) : OK (stkT G m k) := by
  intro j i
  have h0 := h 20 0
  have hh := h j i
  simp only [stkT]
  split
  · exact h j (i + 1)
  · split
    · rename_i hj
      obtain ⟨rfl, rfl⟩ := hj
      show G.1 20 0 - 1 ≤ _
      omega
    · exact hh
theorem stkT_0 (G : GS) (m : Nat) : gN G 20 0 (G.1 20 0 - 1) = stkT G m m := by
  refine Prod.ext ?_ rfl
  funext j i
  simp only [gN, up2, stkT]
  have : ¬ (21 ≤ j ∧ j ≤ 26 ∧ m ≤ i ∧ i < m) := by omega
  rw [if_neg this]
theorem stkT_20 (G : GS) (m k : Nat) : (stkT G m k).1 20 0 = G.1 20 0 - 1 := by simp [stkT]
theorem stkT_at (G : GS) {m k i j : Nat} (h1 : 21 ≤ j) (h : k ≤ i) : (stkT G m k).1 j i = G.1 j i := by
  have h2 : ¬ (21 ≤ j ∧ j ≤ 26 ∧ m ≤ i ∧ i < k) := by omega
  have h3 : ¬ (j = 20 ∧ i = 0) := by omega
  simp only [stkT]
  rw [if_neg h2, if_neg h3]
theorem stkT_s {G : GS} {m k : Nat} (h : m ≤ k) : gN (gN (gN (gN (gN (gN (stkT G m k) 21 k (G.1 21 (k + 1))) 22 k (G.1 22 (k + 1))) 23 k (G.1 23 (k + 1))) 24 k (G.1 24 (k + 1))) 25 k (G.1 25 (k + 1))) 26 k (G.1 26 (k + 1)) = stkT G m (k + 1) := by
  refine Prod.ext ?_ rfl
  funext j i
  simp only [gN_1]
  by_cases hi : i = k
  · subst hi
    by_cases hj : 21 ≤ j ∧ j ≤ 26
    · have : j = 21 ∨ j = 22 ∨ j = 23 ∨ j = 24 ∨ j = 25 ∨ j = 26 := by omega
      rcases this with rfl | rfl | rfl | rfl | rfl | rfl <;> simp [stkT, h]
    · have n1 : ¬ j = 21 := by omega
      have n2 : ¬ j = 22 := by omega
      have n3 : ¬ j = 23 := by omega
      have n4 : ¬ j = 24 := by omega
      have n5 : ¬ j = 25 := by omega
      have n6 : ¬ j = 26 := by omega
      have e1 : ¬ (21 ≤ j ∧ j ≤ 26 ∧ m ≤ i ∧ i < i) := by omega
      have e2 : ¬ (21 ≤ j ∧ j ≤ 26 ∧ m ≤ i ∧ i < i + 1) := by omega
      simp only [n1, n2, n3, n4, n5, n6, false_and, if_false, stkT, if_neg e1, if_neg e2]
  · have e1 : (21 ≤ j ∧ j ≤ 26 ∧ m ≤ i ∧ i < k) ↔ (21 ≤ j ∧ j ≤ 26 ∧ m ≤ i ∧ i < k + 1) := by omega
    simp only [hi, and_false, if_false, stkT, e1]
theorem ok_losF {w e : Nat} : ∀ (n : Nat) (G : GS), OK G → OK (losF w e n G)
  | 0, _, h => h
  | m + 1, G, h => by
    rw [losF]
    split
    · exact ok_losF m _ (ok_stk h)
    · exact ok_losF m _ h
section ROWS
variable {F : Fx} {cc : ByteArray} {own : String} {pc pc' tgt : Nat} {lv : List (Option Value)} {st : List Value} {S : Sto} {cs ss : Nat} {dF cF sF : Nat}
theorem ws_if_geO (C : Cx F cc own dF cF sF) {x : Option Nat} (d : AtC cc pc (.ifCond .ge) tgt pc') (hx : ∀ n, x = some n → n < 2 ^ 31) (kt : ¬ x = none → WS F tgt lv st S cs ss) (kf : x = none → WS F pc' lv st S cs ss) : WS F pc lv (.int (oI x) :: st) S cs ss := by
  cases x with
  | none => exact ws_if_geM C d (kf rfl)
  | some n => exact ws_if_geN C d (hx n rfl) (kt (fun z => by cases z))
theorem ws_if_ltO (C : Cx F cc own dF cF sF) {x : Option Nat} (d : AtC cc pc (.ifCond .lt) tgt pc') (hx : ∀ n, x = some n → n < 2 ^ 31) (kt : x = none → WS F tgt lv st S cs ss) (kf : ¬ x = none → WS F pc' lv st S cs ss) : WS F pc lv (.int (oI x) :: st) S cs ss := by
  cases x with
  | none => exact ws_if_ltM C d (kt rfl)
  | some n => exact ws_if_ltN C d (hx n rfl) (kf (fun z => by cases z))
end ROWS
