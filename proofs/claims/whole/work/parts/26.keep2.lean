/-! what pure steps keep, more -/
theorem clF_c {G G' : GS} (h : G'.1 9 = G.1 9) (v k n : Nat) : ∀ i, clF G' v k n i = clF G v k n i := by
  induction n with
  | zero => intro i; rfl
  | succ n ih => intro i; rw [clF, clF, h, ih]
theorem isCl_c {G G' : GS} (h9 : G'.1 9 = G.1 9) (h4 : G'.1 4 = G.1 4) (h5 : G'.1 5 = G.1 5) (v k : Nat) : isCl G' v k = isCl G v k := by unfold isCl; rw [h4, h5, clF_c h9]
theorem cnF_c {G G' : GS} (h : G'.1 9 = G.1 9) (v k n : Nat) : cnF G' v k n = cnF G v k n := by
  induction n with
  | zero => rfl
  | succ n ih => rw [cnF, cnF, h, ih]
theorem clN_c {G G' : GS} (h9 : G'.1 9 = G.1 9) (h5 : G'.1 5 = G.1 5) (v k : Nat) : clN G' v k = clN G v k := by unfold clN; rw [h5, cnF_c h9]
theorem tlo_c {G G' : GS} (h : G'.1 7 = G.1 7) (e : Nat) : tlo G' e = tlo G e := prdF_c h e 6
theorem snd_gV1 (G : GS) (c : Nat) (x : Int32) (v : Nat) (w : Option Nat) (k a b : Nat) : (snd (gV G 29 c x) v w k a b).1 = (snd G v w k a b).1 := by
  unfold snd
  cases w with
  | none => rfl
  | some w =>
    by_cases h : G.1 1 w = 0 ∨ G.1 3 v < G.1 3 w
    · have h' : (gV G 29 c x).1 1 w = 0 ∨ (gV G 29 c x).1 3 v < (gV G 29 c x).1 3 w := h
      simp only [if_pos h, if_pos h']
      rfl
    · have h' : ¬ ((gV G 29 c x).1 1 w = 0 ∨ (gV G 29 c x).1 3 v < (gV G 29 c x).1 3 w) := h
      simp only [if_neg h, if_neg h']
      rfl
theorem MR.snd29 {o : Nat} {ad : Nat → Nat} {G : GS} {S : Sto} {c : Nat} {x : Int32} {v : Nat} {w : Option Nat} {k a b : Nat} (h : MR o ad (snd G v w k a b) S) : MR o ad (snd (gV G 29 c x) v w k a b) S :=
  h.same (fun j _ => by rw [snd_gV1]) (fun j hj => by rw [snd_2, snd_2, gV_ne _ (by omega)])
theorem hdF_le (G : GS) (e : Nat) : ∀ n, n ≤ 5 → hdF G e n ≤ 5
  | 0, _ => Nat.le_refl _
  | n + 1, h => by
    rw [hdF]
    split
    · omega
    · exact hdF_le G e n (by omega)
theorem hdo_le (G : GS) : hdo G ≤ 5 := hdF_le G _ 5 (by decide)
theorem fwF_le {G : GS} {h c n : Nat} : ∀ {i x : Nat}, fwF G h c n i = some x → i ≤ x ∧ x < i + n := by
  induction n with
  | zero => intro i x hx; cases hx
  | succ n ih =>
    intro i x hx
    rw [fwF] at hx
    split at hx
    · cases hx; omega
    · have := ih hx; omega
theorem takF_20 (G : GS) (v u i : Nat) : G.1 20 0 ≤ (takF G v u i).1 20 0 ∧ (takF G v u i).1 20 0 ≤ G.1 20 0 + 1 := tak_20 _ _ _ _ _ _
theorem takF_4 (G : GS) (v u i : Nat) : (takF G v u i).1 4 v = G.1 4 v + 1 := tak_4 _ _ _ _ _ _
theorem ok_cp1 {G : GS} {w u i : Nat} (h : OK G) : OK (cp1 G w u i) := ok_gN (ok_gN (ok_gV (ok_gN h (h 9 _))) (h 11 _)) (h 12 _)
theorem ok_cpL {w u n : Nat} : ∀ (i : Nat) (G : GS), OK G → OK (cpL w u n i G) := by
  induction n with
  | zero => intro i G h; exact h
  | succ n ih => intro i G h; exact ih _ _ (ok_cp1 h)
theorem cp1_ne (G : GS) (w u i : Nat) {j : Nat} (h9 : j ≠ 9) (h11 : j ≠ 11) (h12 : j ≠ 12) : (cp1 G w u i).1 j = G.1 j := by
  unfold cp1
  rw [gN_ne _ h12, gN_ne _ h11, gV_1, gN_ne _ h9]
theorem cpL_ne (w u n : Nat) {j : Nat} (h9 : j ≠ 9) (h11 : j ≠ 11) (h12 : j ≠ 12) : ∀ (i : Nat) (G : GS), (cpL w u n i G).1 j = G.1 j := by
  induction n with
  | zero => intro i G; rfl
  | succ n ih => intro i G; rw [cpL, ih, cp1_ne _ _ _ _ h9 h11 h12]
theorem ok_srv {G : GS} {c v : Nat} (h : OK G) (hc : c ≤ 2) (hv : v ≤ 5) (hn : G.1 20 0 + 1 ≤ 1399) : OK (srv G c v).2 := by
  unfold srv
  split
  · exact ok_don (ok_gN h hv) (clN_le h _ _)
  · refine ok_snd (ok_gV (ok_gN h hv)) hv (fun x hx => tlo_le hx) (by decide) ?_ ?_ hn
    · have := h 15 c
      exact Nat.le_trans this (by decide)
    · omega
theorem srv_20 (G : GS) (c v : Nat) : G.1 20 0 ≤ (srv G c v).2.1 20 0 ∧ (srv G c v).2.1 20 0 ≤ G.1 20 0 + 1 := by
  unfold srv
  split
  · show G.1 20 0 ≤ (don _ _ _ _).1 20 0 ∧ _
    unfold don
    rw [gV_1, gN_ne _ (by decide), gN_ne _ (by decide), gN_ne _ (by decide)]
    omega
  · have := snd_20 (gV (gN G 17 c v) 29 c (nI v)) v (tlo G (G.1 3 v)) 3 (G.1 15 c) c
    rw [gV_1, gN_ne _ (by decide)] at this
    exact this
theorem tel_20 (G : GS) (w : Nat) : G.1 20 0 ≤ (tel G w).1 20 0 ∧ (tel G w).1 20 0 ≤ G.1 20 0 + 2 := by
  unfold tel
  split
  · have := snd_20 (stl G w) w (prd G w) 2 (G.1 4 w) 0
    rw [stl_ne _ _ (by decide) (by decide) (by decide)] at this
    omega
  · have h1 := snd_20 G w (suc G w) 5 (G.1 4 w) (G.1 5 w)
    have h2 := snd_20 (snd G w (suc G w) 5 (G.1 4 w) (G.1 5 w)) w (prd G w) 2 (G.1 5 w) 0
    omega
theorem ok_tel {G : GS} {w : Nat} (h : OK G) (hw : w ≤ 5) (hn : G.1 20 0 + 2 ≤ 1399) : OK (tel G w) := by
  have h4 : G.1 4 w ≤ 100 := h 4 w
  have h5 : G.1 5 w ≤ 100 := h 5 w
  unfold tel
  split
  · exact ok_snd (ok_stl h) hw (fun x hx => prd_le hw hx) (by decide) h4 (by decide) (by rw [stl_ne _ _ (by decide) (by decide) (by decide)]; omega)
  · have h1 := snd_20 G w (suc G w) 5 (G.1 4 w) (G.1 5 w)
    exact ok_snd (ok_snd h hw (fun x hx => suc_le hx) (by decide) h4 h5 (by omega)) hw (fun x hx => prd_le hw hx) (by decide) h5 (by decide) (by omega)
theorem ok_cpF {v u n : Nat} (hv : v ≤ 5) : ∀ (i : Nat) (G : GS), OK G → G.1 4 v + n ≤ 100 → G.1 20 0 + n ≤ 1399 → OK (cpF v u n i G) := by
  induction n with
  | zero => intro i G h _ _; exact h
  | succ n ih =>
    intro i G h h4 hc
    refine ih _ _ (ok_takF h hv (by omega) (by omega)) ?_ ?_
    · rw [takF_4]; omega
    · have := (takF_20 G v u i).2
      omega
