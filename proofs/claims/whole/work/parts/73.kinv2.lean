/-! reads served, deliveries -/
theorem snd_MS {G : GS} {v k a b : Nat} {w : Option Nat} : ∀ m ∈ MS (snd G v w k a b), m ∈ MS G ∨ (mF m = v ∧ mK m = k ∧ mB m = b) := by
  intro m hm
  cases w with
  | none => exact Or.inl hm
  | some x =>
    by_cases hx : G.1 1 x = 0 ∨ G.1 3 v < G.1 3 x
    · rw [show snd G v (some x) k a b = G from if_pos hx] at hm
      exact Or.inl hm
    · rw [show snd G v (some x) k a b = pushM G v x k (G.1 3 v) a b from if_neg hx, MS_push, List.mem_append] at hm
      rcases hm with hm | hm
      · exact Or.inl hm
      · rw [List.mem_singleton.mp hm]; exact Or.inr ⟨rfl, rfl, rfl⟩
theorem stl_MS (G : GS) (v : Nat) : MS (stl G v) = MS G := MS_c (fun j h1 h2 => stl_ne _ _ (by omega) (by omega) (by omega))
theorem tak_MS {G : GS} {v k c r : Nat} {x : Int32} : ∀ m ∈ MS (tak G v k x c r), m ∈ MS G ∨ (mF m = v ∧ (mK m = 1 ∨ mK m = 2)) := by
  intro m hm
  have hs : MS (hol G v k x c r) = MS G := MS_c (fun j h1 h2 => hol_ne _ _ _ _ _ _ (by omega) (by omega) (by omega) (by omega))
  unfold tak tol at hm
  split at hm
  · rcases snd_MS m hm with h | h
    · rw [stl_MS, hs] at h; exact Or.inl h
    · exact Or.inr ⟨h.1, Or.inr h.2.1⟩
  · rcases snd_MS m hm with h | h
    · rw [hs] at h; exact Or.inl h
    · exact Or.inr ⟨h.1, Or.inl h.2.1⟩
theorem tel_MS {G : GS} {v : Nat} : ∀ m ∈ MS (tel G v), m ∈ MS G ∨ (mF m = v ∧ (mK m = 5 ∨ mK m = 2)) := by
  intro m hm
  unfold tel at hm
  split at hm
  · rcases snd_MS m hm with h | h
    · rw [stl_MS] at h; exact Or.inl h
    · exact Or.inr ⟨h.1, Or.inr h.2.1⟩
  · rcases snd_MS m hm with h | h
    · rcases snd_MS m h with h | h
      · exact Or.inl h
      · exact Or.inr ⟨h.1, Or.inl h.2.1⟩
    · exact Or.inr ⟨h.1, Or.inr h.2.1⟩
theorem K_srv {G : GS} (hO : OK G) (hA : JA G) (hN : JN G) (hM : JM G) {c v : Nat} (hc : c < 3) (hC : ∀ d, d < 3 → d ≠ c → G.1 13 d = 3 → G.2 29 d = nI (G.1 17 d)) (hl : G.1 1 v = 1) (h3 : G.1 13 c = 3) (hno : ∀ m ∈ MS G, cur G m → mB m ≠ c) (hcn : G.1 20 0 + 1 ≤ 1399) : KI (srv G c v).2 := by
  have hv := hA.mk hl
  have hv5 : v ≤ 5 := by have := hA.m6 hv; omega
  have hO' := ok_srv (v := v) hO (show c ≤ 2 by omega) hv5 hcn
  have ne : ∀ j, j ≠ 13 → j ≠ 18 → j ≠ 17 → j < 20 ∨ 26 < j → (srv G c v).2.1 j = G.1 j := fun j a b c' d => srv_ne _ _ _ a b c' d
  have c13 : ∀ d, d ≠ c → (srv G c v).2.1 13 d = G.1 13 d := fun d hd => srv_c _ _ _ hd (Or.inl rfl)
  have c17 : ∀ d, d ≠ c → (srv G c v).2.1 17 d = G.1 17 d := fun d hd => srv_c _ _ _ hd (Or.inr (Or.inl rfl))
  have c29 : ∀ d, d ≠ c → (srv G c v).2.2 29 d = G.2 29 d := fun d hd => srv_c29 _ _ _ hd
  by_cases hcl : isCl G v (G.1 15 c) = true
  · have hs : srv G c v = (5, don (gN G 17 c v) c v (clN G v (G.1 15 c))) := if_pos hcl
    rw [hs] at hO' ne c13 c17 c29 ⊢
    have hm : MS (don (gN G 17 c v) c v (clN G v (G.1 15 c))) = MS G := MS_c (fun j h1 h2 => by unfold don; rw [gV_1, gN_ne _ (by omega), gN_ne _ (by omega), gN_ne _ (by omega)])
    have e13 : (don (gN G 17 c v) c v (clN G v (G.1 15 c))).1 13 c = 4 := by unfold don; rw [gV_1, gN_ne _ (by decide), gN_eq]
    simp only [] at hO' ne c13 c17 c29 ⊢
    generalize don (gN G 17 c v) c v (clN G v (G.1 15 c)) = G' at *
    have n0 := ne 0 (by decide) (by decide) (by decide) (by decide)
    have n1 := ne 1 (by decide) (by decide) (by decide) (by decide)
    have n2 := ne 2 (by decide) (by decide) (by decide) (by decide)
    have n3 := ne 3 (by decide) (by decide) (by decide) (by decide)
    have n4 := ne 4 (by decide) (by decide) (by decide) (by decide)
    have n5 := ne 5 (by decide) (by decide) (by decide) (by decide)
    have n7 := ne 7 (by decide) (by decide) (by decide) (by decide)
    have n8 := ne 8 (by decide) (by decide) (by decide) (by decide)
    refine ⟨hO', hA.c n0 n1 n2 n3 n7 n8, hN.c n1 n2 n4 n5, fun d hd hd3 => ?_, ?_⟩
    · by_cases hdc : d = c
      · rw [hdc, e13] at hd3; cases hd3
      · rw [c29 d hdc, c17 d hdc]
        rw [c13 d hdc] at hd3
        exact hC d hd hdc hd3
    · exact hM.same (hm ▸ List.Sublist.refl _) n0 n1 n3 n7 (fun u hu => by rw [n2]; exact hu) (fun x => by rw [n4]; exact Nat.le_refl _) (fun m hm' => (hM.1 m (hm ▸ hm')).b4 n4) (fun m hm' hcu q => ⟨by rw [c13 _ (hno m (hm ▸ hm') hcu)]; exact q, c17 _ (hno m (hm ▸ hm') hcu)⟩)
  · have hs : srv G c v = (6, snd (gV (gN G 17 c v) 29 c (nI v)) v (tlo G (G.1 3 v)) 3 (G.1 15 c) c) := if_neg hcl
    rw [hs]
    have K1 : KI (gV (gN G 17 c v) 29 c (nI v)) := by
      have ne : ∀ j, j ≠ 17 → (gV (gN G 17 c v) 29 c (nI v)).1 j = G.1 j := fun j hj => by rw [gV_1, gN_ne _ hj]
      have hm : MS (gV (gN G 17 c v) 29 c (nI v)) = MS G := MS_c (fun j h1 h2 => ne j (by omega))
      refine ⟨ok_gV (ok_gN hO hv5), hA.c (ne 0 (by decide)) (ne 1 (by decide)) (ne 2 (by decide)) (ne 3 (by decide)) (ne 7 (by decide)) (ne 8 (by decide)), hN.c (ne 1 (by decide)) (ne 2 (by decide)) (ne 4 (by decide)) (ne 5 (by decide)), fun d hd hd3 => ?_, ?_⟩
      · rw [gV_2, gV_1, gN_1]
        by_cases hdc : d = c
        · rw [if_pos ⟨rfl, hdc⟩, if_pos ⟨rfl, hdc⟩]
        · rw [if_neg (fun z => hdc z.2), if_neg (fun z => hdc z.2)]
          rw [ne 13 (by decide)] at hd3
          exact hC d hd hdc hd3
      · refine hM.same (hm ▸ List.Sublist.refl _) (ne 0 (by decide)) (ne 1 (by decide)) (ne 3 (by decide)) (ne 7 (by decide)) (fun u hu => by rw [ne 2 (by decide)]; exact hu) (fun x => by rw [ne 4 (by decide)]; exact Nat.le_refl _) (fun m hm' => (hM.1 m (hm ▸ hm')).b4 (ne 4 (by decide))) (fun m hm' hcu q => ⟨by rw [ne 13 (by decide)]; exact q, ?_⟩)
        rw [gV_1, gN_1, if_neg (fun z => hno m (hm ▸ hm') hcu z.2)]
    have ne : ∀ j, j ≠ 17 → (gV (gN G 17 c v) 29 c (nI v)).1 j = G.1 j := fun j hj => by rw [gV_1, gN_ne _ hj]
    have e17 : (gV (gN G 17 c v) 29 c (nI v)).1 17 c = v := by rw [gV_1, gN_eq]
    have hm : MS (gV (gN G 17 c v) 29 c (nI v)) = MS G := MS_c (fun j h1 h2 => ne j (by omega))
    have h15 : G.1 15 c ≤ 3 := hO 15 c
    have ht5 : ∀ x, tlo G (G.1 3 v) = some x → x ≤ 5 := fun x hx => by
      have := prdF_lt hx
      omega
    show KI (snd (gV (gN G 17 c v) 29 c (nI v)) v (tlo G (G.1 3 v)) 3 (G.1 15 c) c)
    generalize gV (gN G 17 c v) 29 c (nI v) = G1 at *
    refine K1.k_snd hv5 ht5 (by decide) (by omega) (by omega) (by rw [ne 20 (by decide)]; exact hcn) (fun y hy hy1 hy3 => ⟨⟨⟨by show 1 ≤ 3; decide, by show 3 ≤ 5; decide⟩, ⟨by show v < _; rw [ne 0 (by decide)]; exact hv, K1.2.1.mk hy1, hy1⟩, ⟨hy3, Nat.le_refl _⟩, fun z => absurd (show 3 = 1 ∨ 3 = 5 from z) (by decide), fun z => absurd (show 3 = 2 from z) (by decide), fun _ => ⟨h15, by show c ≤ 2; omega⟩, fun z => absurd (show 3 = 4 from z) (by decide), fun _ _ _ => ⟨by show G1.1 13 c = 3; rw [ne 13 (by decide)]; exact h3, e17⟩⟩, fun m hm' => ⟨fun _ z => absurd (show 3 = 1 ∨ 3 = 5 from z) (by decide), fun z => ?_⟩⟩)
    rw [hm] at hm'
    refine hno m hm' ?_ z.2.2
    have := z.1
    rw [cur_c (ne 1 (by decide)) (ne 3 (by decide))] at this
    exact this
theorem KI.k_cpF {v u A : Nat} : ∀ (n i : Nat) (G : GS), KI G → G.1 1 v = 1 → G.1 2 v = 1 → G.1 4 v + n = A → (∀ m ∈ MS G, mK m = 1 ∨ mK m = 5 → mF m < v → v ≤ mT m → A + dU (mK m) ≤ mA m) → (∀ x, G.1 1 x = 1 → x < v → A ≤ G.1 4 x) → A ≤ 100 → G.1 20 0 + n ≤ 1399 → KI (cpF v u n i G)
  | 0, _, _, h, _, _, _, _, _, _, _ => h
  | n + 1, i, G, h, hl, hr, hn, hT, hM, hA, hc => by
    rw [cpF]
    have ne : ∀ j, j ≠ 4 → j ≠ 9 → j ≠ 11 → j ≠ 12 → j ≠ 13 → j ≠ 18 → j ≠ 5 → j < 20 ∨ 26 < j → (takF G v u i).1 j = G.1 j := fun j a b c d e f g k => tak_ne _ _ _ _ _ _ a b c d e f g k
    have n1 := ne 1 (by decide) (by decide) (by decide) (by decide) (by decide) (by decide) (by decide) (by decide)
    have n2 := ne 2 (by decide) (by decide) (by decide) (by decide) (by decide) (by decide) (by decide) (by decide)
    have t4 := takF_4 G v u i
    have t20 := (takF_20 G v u i).2
    have h1 : KI (takF G v u i) := h.k_tak hl hr (h.1 9 _) (h.1 11 _) (h.1 12 _) (by omega) (by omega) (fun m hm hk h1 h2 => by have := hT m hm hk h1 h2; omega) (fun x hx hxv => by have := hM x hx hxv; omega)
    refine KI.k_cpF n (i + 1) _ h1 (by rw [n1]; exact hl) (by rw [n2]; exact hr) (by omega) (fun m hm hk q1 q2 => ?_) (fun x hx hxv => ?_) hA (by omega)
    · rcases tak_MS m hm with hm | hm
      · exact hT m hm hk q1 q2
      · omega
    · rw [n1] at hx
      exact Nat.le_trans (hM x hx hxv) (tak_4a _ _ _ _ _ _ _)
/-- messages on the way to a node whose first update or copy is m0: they hold more -/
theorem KI.ahead {G : GS} (h : KI G) {v w i : Nat} (hf : frs G v w = some i) (hk : G.1 23 i = 1 ∨ G.1 23 i = 5) (he : G.1 24 i = G.1 3 w) : (∀ m ∈ MS (stk G i), mK m = 1 ∨ mK m = 5 → mF m < w → w ≤ mT m → G.1 25 i + dU (mK m) ≤ mA m) ∧ ∀ x, G.1 1 x = 1 → x < w → G.1 25 i ≤ G.1 4 x := by
  obtain ⟨hi, e1, e2⟩ := frs_lt hf
  obtain ⟨hO, hA, hN, hC, hM⟩ := h
  have hm0 := hM.1 _ (MS_in hi)
  have f0 : mF (msAt G i) = v := e1
  have t0 : mT (msAt G i) = w := e2
  obtain ⟨-, ⟨a1, a2, a3⟩, ⟨b1, b2⟩, hu, -⟩ := hm0
  obtain ⟨⟨u1, u2, u3⟩, ⟨u4, u5⟩, u6⟩ := hu hk
  rw [f0] at u1 u2 u3 u4 a1
  rw [t0] at u1 a2 a3
  have he' : mE (msAt G i) = G.1 3 w := he
  rw [he'] at u1 u2
  have hw8 : G.1 3 w ≤ G.1 8 0 := (hA.2.2.1 w a2).2.1
  obtain ⟨s1, s2, s3, s4⟩ := suc_sp hO (hA.m6 a1) u1
  have hbelow : ∀ x, x < w → isIn G (G.1 3 w) x = true → x ≤ v := fun x hx hix => by
    rcases Nat.lt_or_ge v x with hl | hl
    · rw [s4 x hl hx] at hix; cases hix
    · exact hl
  refine ⟨fun m hm hkm q1 q2 => ?_, fun x hx hxw => ?_⟩
  · have hmG := (MS_stk_sub hi).subset hm
    obtain ⟨-, ⟨m1, m2, m3⟩, ⟨m4, m5⟩, hum, -⟩ := hM.1 m hmG
    obtain ⟨⟨y1, y2, y3⟩, ⟨y4, y5⟩, y6⟩ := hum hkm
    obtain ⟨z1, z2, z3, z4⟩ := suc_sp hO (hA.m6 m1) y1
    have hme : mE m ≤ G.1 8 0 := Nat.le_trans m5 (hA.2.2.1 _ m1).2.1
    have hmt : mT m = w := by
      rcases Nat.lt_or_ge w (mT m) with hl | hl
      · have := hA.2.2.2.2.2.2.1 w (mT m) (mE m) a3 hl hme z3
        rw [z4 w q1 hl] at this; cases this
      · omega
    by_cases hmf : mF m = v
    · -- the same link: it stands behind
      rw [MS_stk hi] at hm
      rcases List.mem_append.mp hm with hm1 | hm1
      · exact absurd ⟨hmf, hmt⟩ (frs_first hf m hm1)
      · have hp := hM.2
        rw [MS_split hi, List.pairwise_append] at hp
        have := (List.pairwise_cons.mp hp.2.1).1 m hm1
        exact this.1 hk hkm (by rw [f0, hmf]) (by rw [t0, hmt])
    · rw [hmt] at m4 z3 q2
      have hin : isIn G (G.1 3 w) (mF m) = true := hA.2.2.2.2.2.2.2.1 (G.1 3 w) (mE m) (mF m) w m4 hme q1 s3 y2
      have := hbelow (mF m) q1 hin
      have h2 := y6 v (by omega) (by omega)
      have : mA (msAt G i) ≤ G.1 4 v := u4
      show mA (msAt G i) + dU (mK m) ≤ mA m
      omega
  · have hin := hA.2.2.2.2.2.2.1 x w (G.1 3 w) hx hxw hw8 s3
    have hxv := hbelow x hxw hin
    have hu4 : mA (msAt G i) ≤ G.1 4 v := u4
    show mA (msAt G i) ≤ G.1 4 x
    by_cases hxe : x = v
    · rw [hxe]; exact hu4
    · exact Nat.le_trans hu4 (hN.2.2 x v hx (by omega))
/-- the others are no current messages of its client -/
theorem JM.alone {G : GS} (hM : JM G) {i : Nat} (hi : i < G.1 20 0) (hc : cur G (msAt G i)) : ∀ m ∈ MS (stk G i), cur G m → mB m ≠ G.1 26 i := by
  intro m hm hcm hb
  have hp := hM.2
  rw [MS_split hi, List.pairwise_append] at hp
  rw [MS_stk hi] at hm
  rcases List.mem_append.mp hm with hm1 | hm1
  · exact (hp.2.2 m hm1 (msAt G i) List.mem_cons_self).2 ⟨hcm, hc, hb⟩
  · exact ((List.pairwise_cons.mp hp.2.1).1 m hm1).2 ⟨hc, hcm, hb.symm⟩
