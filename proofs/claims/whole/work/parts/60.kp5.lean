/-! the class between calls; views, the message in hand, losing -/
def XO (z o : Nat) (G : GS) (S : Sto) : Prop := ∃ h, h 6 0 = o ∧ XE z h (fun _ => 0) G S
theorem XE.out {z : Nat} {h : Nat → Nat → Nat} {t : Nat → Nat} {G : GS} {S : Sto} (H : XE z h t G S) : XO z (h 6 0) G S := by
  obtain ⟨r, hK, hI, hP, hA, hU, hL, hH, hV⟩ := H
  exact ⟨h, rfl, r, hK, hI, hP, hA, hU, hL, fun z => absurd rfl z, hV.1, fun z => absurd z (by decide)⟩
theorem jn_3 (f : Nat) : jn f ≠ 3 := by
  unfold jn
  split <;> decide
theorem XR.view {z : Nat} {h : Nat → Nat → Nat} {t : Nat → Nat} {r : Rg} {G : GS} {S : Sto} (H : XR z h t r G S) {v : Nat} (hv : v < G.1 0 0) : XR z h t r (gN G 3 v (G.1 8 0)) (setP S 130 (h 4 v) (some (h 3 (G.1 8 0)))) := by
  have gg : ∀ j, j ≠ 3 → (gN G 3 v (G.1 8 0)).1 j = G.1 j := fun j hj => gN_ne _ hj
  obtain ⟨hK, hI, hP, hA, hU, hL, hH, hV⟩ := H
  have pn : ∀ f a, f ≠ 130 → sP (setP S 130 (h 4 v) (some (h 3 (G.1 8 0)))) f a = sP S f a := fun f a hf => by
    show up2 (sP S) 130 (h 4 v) _ f a = _
    rw [up2, if_neg (fun z => hf z.1)]
  have edk : ∀ kd k, dk (gN G 3 v (G.1 8 0)) kd k = dk G kd k := fun kd k => by unfold dk; rw [gg 0 (by decide), gg 8 (by decide)]
  have mf : ∀ q u k v' w e a b, MsgF S q u k v' w e a b → MsgF (setP S 130 (h 4 v) (some (h 3 (G.1 8 0)))) q u k v' w e a b := fun q u k v' w e a b hm => by
    obtain ⟨m0, m1, m2, m3, m4, m5, m6⟩ := hm
    exact ⟨m0, m1, m2, m3, m4, fun z => by rw [pn 228 q (by decide)]; exact m5 z, m6⟩
  refine ⟨⟨fun kd k hd => hK.1 kd k (edk kd k ▸ hd), fun kd k k' hk hd hd' => hK.2 kd k k' hk (edk kd k ▸ hd) (edk kd k' ▸ hd')⟩, fun f k hd => ?_, fun f k hd => ?_, ?_, fun v' i hv' h1 h2 => ?_, ⟨?_, ?_, fun i hi => ?_⟩, fun ht => mf _ _ _ _ _ _ _ _ (hH ht), ?_⟩
  · have hd' : dm G f k := by unfold dm at hd ⊢; rw [gg 0 (by decide), gg 8 (by decide)] at hd; exact hd
    rw [show xv (gN G 3 v (G.1 8 0)) f k = xv G f k from by unfold xv; rw [gg _ (jn_3 f)]; rfl]
    exact hI f k hd'
  · have hd' : dp G f k := by unfold dp at hd ⊢; rw [gg 0 (by decide), gg 8 (by decide)] at hd; exact hd
    by_cases hf : f = 130
    · subst hf
      have hk : k < G.1 0 0 := by unfold dp at hd'; omega
      show up2 (sP S) 130 (h 4 v) _ 130 (h 4 k) = some (h 3 ((gN G 3 v (G.1 8 0)).1 3 k))
      rw [gN_1]
      by_cases hkv : k = v
      · subst hkv
        rw [up2, if_pos ⟨rfl, rfl⟩, if_pos ⟨rfl, rfl⟩]
      · rw [up2, if_neg (fun z => hkv (hK.2 4 k v (Or.inr (Or.inl rfl)) (dkN hk) (dkN hv) z.2)), if_neg (fun z => hkv z.2)]
        exact hP 130 k hd'
    · rw [pn f _ hf, show xq h (gN G 3 v (G.1 8 0)) f k = xq h G f k from by unfold xq; rw [if_neg hf, if_neg hf, gg 8 (by decide)]]
      exact hP f k hd'
  · unfold XA at hA ⊢
    rw [gg 0 (by decide), gg 8 (by decide), gg 7 (by decide)]
    exact hA
  · rw [gg 0 (by decide)] at hv'
    rw [gg 4 (by decide)] at h2
    rw [gg 9 (by decide), gg 11 (by decide), gg 12 (by decide)]
    exact hU v' i hv' h1 h2
  · rw [pn 33 _ (by decide)]
    exact hL.1
  · rw [gg 20 (by decide)]
    exact hL.2.1
  · rw [gg 20 (by decide)] at hi
    rw [gg 21 (by decide), gg 22 (by decide), gg 23 (by decide), gg 24 (by decide), gg 25 (by decide), gg 26 (by decide)]
    obtain ⟨q1, q2⟩ := hL.2.2 i hi
    exact ⟨q1, mf _ _ _ _ _ _ _ _ q2⟩
  · unfold UV at hV ⊢
    rw [gg 20 (by decide), gg 21 (by decide), gg 23 (by decide), gg 25 (by decide), gg 4 (by decide)]
    exact hV
theorem WF.w_vw {G : GS} (h : WF G) {v : Nat} (hi : isIn G (G.1 8 0) v = true) : WF (gN G 3 v (G.1 8 0)) := by
  have gg : ∀ j, j ≠ 3 → (gN G 3 v (G.1 8 0)).1 j = G.1 j := fun j hj => gN_ne _ hj
  obtain ⟨h0, h8, h3, h1, h7, h5⟩ := h
  have ei : ∀ e w, isIn (gN G 3 v (G.1 8 0)) e w = isIn G e w := fun e w => isIn_c (gg 7 (by decide)) e w
  unfold WF
  rw [gg 0 (by decide), gg 8 (by decide), gg 1 (by decide), gg 5 (by decide), gg 4 (by decide)]
  refine ⟨h0, h8, fun u hu => ?_, h1, fun e w he hw => h7 e w he (ei e w ▸ hw), h5⟩
  rw [gN_1, ei]
  by_cases huv : u = v
  · subst huv
    rw [if_pos ⟨rfl, rfl⟩]
    exact ⟨h8.1, Nat.le_refl _, hi⟩
  · rw [if_neg (fun z => huv z.2)]
    exact h3 u hu
theorem XR.hand {z : Nat} {h : Nat → Nat → Nat} {t : Nat → Nat} {r : Rg} {G : GS} {S : Sto} (H : XR z h t r G S) {m : Nat} (hm : m < G.1 20 0) : ∃ (h' : Nat → Nat → Nat) (t' : Nat → Nat), (∀ kd k, kd ≠ 15 → h' kd k = h kd k) ∧ h' 15 0 = r.1 m ∧ (t' 0 = G.1 23 m ∧ t' 1 = G.1 21 m ∧ t' 2 = G.1 22 m ∧ t' 3 = G.1 24 m ∧ t' 4 = G.1 25 m ∧ t' 5 = G.1 26 m) ∧ XR z h' t' r G S := by
  obtain ⟨hK, hI, hP, hA, hU, hL, hH, hV⟩ := H
  have e : ∀ kd k, kd ≠ 15 → (up2 h 15 0 (r.1 m)) kd k = h kd k := fun kd k hk => by rw [up2, if_neg (fun z => hk z.1)]
  refine ⟨up2 h 15 0 (r.1 m), fun i => if i = 0 then G.1 23 m else if i = 1 then G.1 21 m else if i = 2 then G.1 22 m else if i = 3 then G.1 24 m else if i = 4 then G.1 25 m else G.1 26 m, e, by rw [up2, if_pos ⟨rfl, rfl⟩], ⟨rfl, rfl, rfl, rfl, rfl, rfl⟩, ?_⟩
  have dk15 : ∀ kd k, dk G kd k → kd ≠ 15 := fun kd k hd => by unfold dk at hd; omega
  refine ⟨⟨fun kd k hd => by rw [e kd k (dk15 kd k hd)]; exact hK.1 kd k hd, fun kd k k' hk hd hd' => by rw [e kd k (dk15 kd k hd), e kd k' (dk15 kd k' hd')]; exact hK.2 kd k k' hk hd hd'⟩, fun f k hd => ?_, fun f k hd => ?_, ?_, fun v i hv h1 h2 => ?_, ?_, fun _ => ?_, hV.1, fun h1 => hV.1 m hm h1⟩
  · rw [e (f / 32) k (by unfold dm at hd; omega)]
    exact hI f k hd
  · rw [e (f / 32) k (by unfold dp at hd; omega), hP f k hd]
    unfold xq
    simp only [e 9 _ (by decide), e 13 _ (by decide), e 3 _ (by decide), e 11 _ (by decide), e 12 _ (by decide), e 1 _ (by decide)]
  · unfold XA at hA ⊢
    simp only [e 9 _ (by decide), e 13 _ (by decide), e 4 _ (by decide), e 11 _ (by decide), e 12 _ (by decide), e 2 _ (by decide)]
    exact hA
  · rw [e 13 _ (by decide)]
    exact hU v i hv h1 h2
  · unfold XL at hL ⊢
    rw [e 1 _ (by decide)]
    exact hL
  · rw [show up2 h 15 0 (r.1 m) 15 0 = r.1 m from by rw [up2, if_pos ⟨rfl, rfl⟩]]
    exact (hL.2.2 m hm).2
theorem losF_big (w e e' : Nat) : ∀ (m : Nat) (G : GS), m ≤ G.1 20 0 → (∀ i, i < G.1 20 0 → G.1 24 i < e ∧ G.1 24 i < e') → losF w e m G = losF w e' m G
  | 0, _, _, _ => rfl
  | m + 1, G, hm, h => by
    have h1 := h m (by omega)
    rw [losF, losF]
    by_cases hw : G.1 22 m = w
    · rw [if_pos ⟨hw, h1.1⟩, if_pos ⟨hw, h1.2⟩]
      refine losF_big w e e' m (stk G m) (by rw [stk_20]; omega) (fun i hi => ?_)
      rw [stk_20] at hi
      rw [stk_at G m (by decide) hi]
      split
      · exact h i (by omega)
      · exact h (i + 1) (by omega)
    · rw [if_neg (fun z => hw z.1), if_neg (fun z => hw z.1)]
      exact losF_big w e e' m G (by omega) h
theorem los_big {G : GS} {w e e' : Nat} (h : ∀ i, i < G.1 20 0 → G.1 24 i < e ∧ G.1 24 i < e') : los G w e = los G w e' := losF_big w e e' _ G (Nat.le_refl _) h
def HH (G : GS) : Prop := isIn G (G.1 8 0) (hdo G) = true
theorem HH.c {G G' : GS} (h : HH G) (h7 : G'.1 7 = G.1 7) (h8 : G'.1 8 = G.1 8) : HH G' := by
  unfold HH hdo at h ⊢
  rw [hdF_hdM, h8, h7, isIn_c h7]
  rw [hdF_hdM] at h
  exact h
theorem fin1_13 (G : GS) (v i c : Nat) : (fin1 G v i).1 13 c = G.1 13 c ∨ (fin1 G v i).1 13 c = 2 ∧ G.1 13 c = 1 := by
  unfold fin1
  split
  · rename_i hh
    rw [gV_1, gN_ne _ (by decide), gN_1]
    split
    · rename_i h2
      exact Or.inr ⟨rfl, by rw [h2.2]; exact hh.1⟩
    · exact Or.inl rfl
  · exact Or.inl rfl
theorem stlF_13 (v n : Nat) : ∀ (i : Nat) (G : GS) (c : Nat), (stlF v n i G).1 13 c = G.1 13 c ∨ (stlF v n i G).1 13 c = 2 ∧ G.1 13 c = 1 := by
  induction n with
  | zero => intro i G c; exact Or.inl rfl
  | succ n ih =>
    intro i G c
    rw [stlF]
    have h1 := ih (i + 1) (fin1 G v i) c
    have h2 := fin1_13 G v i c
    omega
theorem stl_13 (G : GS) (v c : Nat) : (stl G v).1 13 c = G.1 13 c ∨ (stl G v).1 13 c = 2 ∧ G.1 13 c = 1 := by
  unfold stl
  rw [gN_ne _ (by decide)]
  exact stlF_13 _ _ _ _ _
theorem tel_ne (G : GS) (v : Nat) {j : Nat} (h1 : j ≠ 13) (h2 : j ≠ 18) (h3 : j ≠ 5) (h : j < 20 ∨ 26 < j) : (tel G v).1 j = G.1 j := by
  unfold tel
  split
  · rw [snd_ne _ _ _ _ _ _ h, stl_ne _ _ h1 h2 h3]
  · rw [snd_ne _ _ _ _ _ _ h, snd_ne _ _ _ _ _ _ h]
theorem tel_n2 (G : GS) (v : Nat) {j : Nat} (h1 : j ≠ 19) : (tel G v).2 j = G.2 j := by
  unfold tel
  split
  · rw [snd_2, stl_n2 _ _ h1]
  · rw [snd_2, snd_2]
theorem tel_13 (G : GS) (v c : Nat) : (tel G v).1 13 c = G.1 13 c ∨ (tel G v).1 13 c = 2 ∧ G.1 13 c = 1 := by
  unfold tel
  split
  · rw [snd_ne _ _ _ _ _ _ (by decide)]
    exact stl_13 G v c
  · rw [snd_ne _ _ _ _ _ _ (by decide), snd_ne _ _ _ _ _ _ (by decide)]
    exact Or.inl rfl
theorem WF.w_los {G : GS} (h : WF G) (w e : Nat) : WF (los G w e) := h.c (los_ne _ _ _ (by decide)) (los_ne _ _ _ (by decide)) (los_ne _ _ _ (by decide)) (los_ne _ _ _ (by decide)) (los_ne _ _ _ (by decide)) (by rw [los_ne _ _ _ (by decide), los_ne _ _ _ (by decide)]; exact h.2.2.2.2.2)
