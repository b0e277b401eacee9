/-! more of what is kept -/
theorem XR.fr {z : Nat} {h : Nat → Nat → Nat} {t : Nat → Nat} {r : Rg} {G : GS} {S : Sto} (H : XR z h t r G S) {j i n : Nat} (hj : j = 17 ∨ j = 6) : XR z h t r (gN G j i n) S := by
  refine H.congr (fun j' hs => gN_ne _ (fun e => by subst e; rcases hj with rfl | rfl <;> cases hs)) rfl (fun _ _ => rfl) (fun _ _ _ => rfl) (fun _ _ _ => rfl) (fun _ _ _ => rfl) (fun _ _ => rfl) (fun _ _ _ _ => rfl) (fun f k hd => ?_)
  have hd0 : dm G f k := by
    unfold dm at hd ⊢
    rw [gN_ne _ (by omega), gN_ne _ (by omega)] at hd
    exact hd
  rw [H.2.1 f k hd0]
  unfold xv
  by_cases c1 : f = 96 ∨ f = 128
  · rw [if_pos c1, if_pos c1]
  · rw [if_neg c1, if_neg c1]
    by_cases c2 : f = 67 ∨ f = 68 ∨ f = 70
    · rw [if_pos c2, if_pos c2]; rfl
    · rw [if_neg c2, if_neg c2, gN_ne]
      have h9 : f = 64 ∨ f = 65 ∨ f = 66 ∨ f = 69 ∨ f = 131 ∨ f = 132 ∨ f = 133 ∨ f = 134 ∨ f = 135 ∨ f = 196 ∨ f = 197 ∨ f = 34 := by unfold dm at hd0; omega
      rcases h9 with rfl | rfl | rfl | rfl | rfl | rfl | rfl | rfl | rfl | rfl | rfl | rfl <;> rcases hj with rfl | rfl <;> decide
theorem XE.fr {z : Nat} {h : Nat → Nat → Nat} {t : Nat → Nat} {G : GS} {S : Sto} (H : XE z h t G S) {j i n : Nat} (hj : j = 17 ∨ j = 6) : XE z h t (gN G j i n) S := by
  obtain ⟨r, H⟩ := H
  exact ⟨r, H.fr hj⟩
theorem tak_4a (G : GS) (v k : Nat) (x : Int32) (c r u : Nat) : G.1 4 u ≤ (tak G v k x c r).1 4 u := by
  unfold tak
  rw [tol_ne _ _ (by decide) (by decide) (by decide) (by decide)]
  exact hol_4a _ _ _ _ _ _ _
theorem tak_ne (G : GS) (v k : Nat) (x : Int32) (c r : Nat) {j : Nat} (h4 : j ≠ 4) (h9 : j ≠ 9) (h11 : j ≠ 11) (h12 : j ≠ 12) (h1 : j ≠ 13) (h2 : j ≠ 18) (h3 : j ≠ 5) (h : j < 20 ∨ 26 < j) : (tak G v k x c r).1 j = G.1 j := by
  unfold tak
  rw [tol_ne _ _ h1 h2 h3 h, hol_ne _ _ _ _ _ _ h4 h9 h11 h12]
/-- a log filled from another's, without word to neighbours -/
def hlF (w u : Nat) : Nat → Nat → GS → GS
  | 0, _, G => G
  | n + 1, i, G => hlF w u n (i + 1) (hol G w (G.1 9 (128 * u + i)) (G.2 10 (128 * u + i)) (G.1 11 (128 * u + i)) (G.1 12 (128 * u + i)))
theorem gs_ext {A B : GS} (h1 : ∀ j i, A.1 j i = B.1 j i) (h2 : ∀ j i, A.2 j i = B.2 j i) : A = B := Prod.ext (funext fun j => funext fun i => h1 j i) (funext fun j => funext fun i => h2 j i)
theorem hol_cp1 (G : GS) (w u i : Nat) (hi : G.1 4 w + 1 = i) : hol G w (G.1 9 (128 * u + i)) (G.2 10 (128 * u + i)) (G.1 11 (128 * u + i)) (G.1 12 (128 * u + i)) = gN (cp1 G w u i) 4 w i := by
  subst hi
  refine gs_ext (fun j i => ?_) (fun j i => rfl)
  simp only [hol, cp1, gN_1, gV_1]
  by_cases c4 : j = 4
  · subst c4; simp
  · simp [c4]
theorem cp1_4 (G : GS) (w u i x : Nat) : cp1 (gN G 4 w x) w u i = gN (cp1 G w u i) 4 w x := by
  refine gs_ext (fun j i => ?_) (fun j i => rfl)
  simp only [cp1, gN_1, gV_1, gN_2]
  by_cases c4 : j = 4
  · subst c4; simp
  · simp [c4]
theorem cpL_4 (w u n : Nat) : ∀ (i x : Nat) (G : GS), cpL w u n i (gN G 4 w x) = gN (cpL w u n i G) 4 w x := by
  induction n with
  | zero => intro i x G; rfl
  | succ n ih => intro i x G; rw [cpL, cpL, cp1_4, ih]
theorem gN_gN (G : GS) (j i x y : Nat) : gN (gN G j i x) j i y = gN G j i y := by
  refine gs_ext (fun j' i' => ?_) (fun j' i' => rfl)
  rw [gN_1, gN_1, gN_1]
  split <;> rfl
theorem gN_id (G : GS) (j i : Nat) : gN G j i (G.1 j i) = G := by
  refine gs_ext (fun j' i' => ?_) (fun j' i' => rfl)
  rw [gN_1]
  split
  · rename_i h; rw [h.1, h.2]
  · rfl
theorem hlF_cpL (w u n : Nat) : ∀ (i : Nat) (G : GS), G.1 4 w + 1 = i → hlF w u n i G = gN (cpL w u n i G) 4 w (i + n - 1) := by
  induction n with
  | zero =>
    intro i G hi
    rw [hlF, cpL]
    have : i + 0 - 1 = G.1 4 w := by omega
    rw [this, gN_id]
  | succ n ih =>
    intro i G hi
    rw [hlF, hol_cp1 G w u i hi, ih (i + 1) _ (by rw [gN_eq]), cpL_4, gN_gN, cpL]
    congr 1
    omega
def hdM (m : Nat) : Nat → Nat
  | 0 => 5
  | n + 1 => if m.testBit (4 - n) = true then 4 - n else hdM m n
theorem hdF_hdM (G : GS) (e n : Nat) : hdF G e n = hdM (G.1 7 e) n := by
  induction n with
  | zero => rfl
  | succ n ih => rw [hdF, hdM, isIn, ih]
theorem mk_7 : ∀ m, m < 64 → m.testBit (hdM m 5) = true → sucM m 6 = some (hdM m 5) := by decide +kernel
theorem hd_suc {G : GS} (hO : OK G) (hH : isIn G (G.1 8 0) (hdo G) = true) : mAt G (G.1 8 0) (nI 0) = nI (hdo G) := by
  have h7 : G.1 7 (G.1 8 0) ≤ 63 := hO 7 _
  have hH' : (G.1 7 (G.1 8 0)).testBit (hdM (G.1 7 (G.1 8 0)) 5) = true := by
    have := hH
    unfold isIn hdo at this
    rw [hdF_hdM] at this
    exact this
  rw [mAt_hd hO, sucF_M, mk_7 _ (by omega) hH']
  show nI _ = nI _
  unfold hdo
  rw [hdF_hdM]
theorem srv_c (G : GS) (c v : Nat) {c' j : Nat} (h : c' ≠ c) (hj : j = 13 ∨ j = 17 ∨ j = 15 ∨ j = 18) : (srv G c v).2.1 j c' = G.1 j c' := by
  unfold srv
  split
  · show (don _ _ _ _).1 j c' = _
    unfold don
    rw [gV_1, gN_1, gN_1, gN_1, if_neg (by omega), if_neg (by omega), if_neg (by omega)]
  · rw [snd_ne _ _ _ _ _ _ (by omega), gV_1, gN_1, if_neg (by omega)]
theorem srv_c29 (G : GS) (c v : Nat) {c' : Nat} (h : c' ≠ c) : (srv G c v).2.2 29 c' = G.2 29 c' := by
  unfold srv
  split
  · show (don _ _ _ _).2 29 c' = _
    unfold don
    rw [gV_2, if_neg (by omega), gN_2, gN_2, gN_2]
  · rw [snd_2, gV_2, if_neg (by omega), gN_2]
theorem srv_ne (G : GS) (c v : Nat) {j : Nat} (h1 : j ≠ 13) (h2 : j ≠ 18) (h3 : j ≠ 17) (h : j < 20 ∨ 26 < j) : (srv G c v).2.1 j = G.1 j := by
  unfold srv
  split
  · show (don _ _ _ _).1 j = _
    unfold don
    rw [gV_1, gN_ne _ h2, gN_ne _ h1, gN_ne _ h3]
  · rw [snd_ne _ _ _ _ _ _ h, gV_1, gN_ne _ h3]
