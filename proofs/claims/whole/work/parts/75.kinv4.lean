/-! adopt, stop, join, tick keep the invariant -/
theorem KI.c {G G' : GS} (h : KI G) (hO : OK G') (hs : MS G' = MS G) (n0 : G'.1 0 = G.1 0) (n1 : G'.1 1 = G.1 1) (n2 : G'.1 2 = G.1 2) (n3 : G'.1 3 = G.1 3) (n4 : G'.1 4 = G.1 4) (n5 : G'.1 5 = G.1 5) (n7 : G'.1 7 = G.1 7) (n8 : G'.1 8 = G.1 8) (n13 : G'.1 13 = G.1 13) (n17 : G'.1 17 = G.1 17) (n29 : G'.2 29 = G.2 29) : KI G' := by
  obtain ⟨-, hA, hN, hC, hM⟩ := h
  refine ⟨hO, hA.c n0 n1 n2 n3 n7 n8, hN.c n1 n2 n4 n5, ?_, ?_⟩
  · unfold JC at hC ⊢
    rw [n13, n17, n29]
    exact hC
  · exact hM.same (hs ▸ List.Sublist.refl _) n0 n1 n3 n7 (fun u hu => by rw [n2]; exact hu) (fun x => by rw [n4]; exact Nat.le_refl _) (fun m hm' => (hM.1 m (hs ▸ hm')).b4 n4) (fun m _ _ h3 => ⟨by rw [n13]; exact h3, by rw [n17]⟩)
theorem KI.k_adp {G : GS} (h : KI G) {v : Nat} (hl : G.1 1 v = 1) (hne : ¬ G.1 3 v = G.1 8 0) : KI (los (gN G 3 v (G.1 8 0)) v (G.1 8 0)) ∧ ∀ m ∈ MS (los (gN G 3 v (G.1 8 0)) v (G.1 8 0)), cur (los (gN G 3 v (G.1 8 0)) v (G.1 8 0)) m → G.1 17 (mB m) ≠ v := by
  have hv := h.2.1.mk hl
  have hO' : OK (los (gN G 3 v (G.1 8 0)) v (G.1 8 0)) := ok_los (ok_gN h.1 (h.1 8 0))
  have ne : ∀ j, j ≠ 3 → j < 20 ∨ 26 < j → (los (gN G 3 v (G.1 8 0)) v (G.1 8 0)).1 j = G.1 j := fun j h3 hj => by rw [los_ne _ _ _ hj, gN_ne _ h3]
  have e3 : ∀ u, (los (gN G 3 v (G.1 8 0)) v (G.1 8 0)).1 3 u = if u = v then G.1 8 0 else G.1 3 u := fun u => by
    rw [los_ne _ _ _ (by decide), gN_1]
    by_cases hu : u = v
    · rw [if_pos ⟨rfl, hu⟩, if_pos hu]
    · rw [if_neg (fun z => hu z.2), if_neg hu]
  have e29 : (los (gN G 3 v (G.1 8 0)) v (G.1 8 0)).2 = G.2 := losF_2 _ _ _ _
  have hs : MS (los (gN G 3 v (G.1 8 0)) v (G.1 8 0)) = (MS G).filter (fun m => !lst v (G.1 8 0) m) := by
    rw [MS_los, MS_c (G := G) (fun j h1 h2 => gN_ne _ (by omega))]
  obtain ⟨hO, hA, hN, hC, hM⟩ := h
  generalize los (gN G 3 v (G.1 8 0)) v (G.1 8 0) = G' at *
  have n0 := ne 0 (by decide) (by decide)
  have n1 := ne 1 (by decide) (by decide)
  have n2 := ne 2 (by decide) (by decide)
  have n4 := ne 4 (by decide) (by decide)
  have n5 := ne 5 (by decide) (by decide)
  have n7 := ne 7 (by decide) (by decide)
  have n8 := ne 8 (by decide) (by decide)
  have n13 := ne 13 (by decide) (by decide)
  have n17 := ne 17 (by decide) (by decide)
  have hvw := hA.2.2.1 v hv
  have hin : ∀ m ∈ MS G', m ∈ MS G ∧ ¬ (mT m = v ∧ mE m < G.1 8 0) := fun m hm => by
    rw [hs, List.mem_filter] at hm
    refine ⟨hm.1, fun z => ?_⟩
    have := hm.2
    rw [show lst v (G.1 8 0) m = true from decide_eq_true z] at this
    cases this
  have hcu : ∀ m ∈ MS G', cur G' m → cur G m ∧ ¬ (mK m = 3 ∧ mF m = v) := fun m hm hc => by
    obtain ⟨hmG, -⟩ := hin m hm
    obtain ⟨-, ⟨m1, m2, m3⟩, ⟨m4, m5⟩, -⟩ := hM.1 m hmG
    rcases hc with ⟨k3, l1, x3⟩ | k4
    · rw [e3] at x3
      rw [n1] at l1
      by_cases hf : mF m = v
      · rw [if_pos hf] at x3
        rw [hf] at m5
        omega
      · rw [if_neg hf] at x3
        exact ⟨Or.inl ⟨k3, l1, x3⟩, fun z => hf z.2⟩
    · exact ⟨Or.inr k4, fun z => by omega⟩
  have hmo : ∀ m ∈ MS G', MO G' m := fun m hm => by
    obtain ⟨hmG, hnl⟩ := hin m hm
    obtain ⟨k15, ⟨m1, m2, m3⟩, ⟨m4, m5⟩, hu, ha, hq, hans, hcq⟩ := hM.1 m hmG
    unfold MO
    rw [n0, n1, n13, n17, n4, n2]
    refine ⟨k15, ⟨m1, m2, m3⟩, ⟨?_, ?_⟩, fun hk => ?_, ha, hq, fun hk => ?_, fun hk h1 h3 => ?_⟩
    · rw [e3]
      split
      · rename_i ht
        rcases Nat.lt_or_ge (mE m) (G.1 8 0) with hlt | hge
        · exact absurd ⟨ht, hlt⟩ hnl
        · exact hge
      · exact m4
    · rw [e3]
      split
      · rename_i hf
        rw [hf] at m5
        omega
      · exact m5
    · obtain ⟨⟨d1, d2, d3⟩, d4, d6⟩ := hu hk
      refine ⟨⟨?_, ?_, d3⟩, d4, d6⟩
      · rw [sucF_cc (G := G) (G' := G') (by rw [n7])]; exact d1
      · rw [isIn_c n7]; exact d2
    · obtain ⟨g1, g2, g3, g4⟩ := hans hk
      refine ⟨g1, ?_, g3, g4⟩
      rw [e3]
      split
      · rename_i ht
        rw [ht] at g2
        exfalso
        refine hnl ⟨ht, ?_⟩
        have := hvw.2.1
        omega
      · exact g2
    · have hc := hcu m hm (Or.inl ⟨hk, by rw [n1]; exact h1, h3⟩)
      rcases hc.1 with ⟨-, x1, x2⟩ | x
      · exact hcq hk x1 x2
      · omega
  refine ⟨⟨hO', ?_, hN.c n1 n2 n4 n5, ?_, hmo, ?_⟩, fun m hm hc => ?_⟩
  · obtain ⟨x1, x2, x3, x4, x5, x6, x7, x8, x9, x10⟩ := hA
    unfold JA isIn
    rw [n0, n1, n2, n7, n8]
    refine ⟨x1, x2, fun u hu => ?_, x4, x5, x6, x7, x8, x9, x10⟩
    rw [e3]
    split
    · rename_i huv; subst huv
      exact ⟨x2.1, Nat.le_refl _, x6 u hl⟩
    · exact x3 u hu
  · unfold JC at hC ⊢
    rw [n13, n17, e29]
    exact hC
  · have hp : (MS G').Pairwise (MP G) := by rw [hs]; exact hM.2.sublist List.filter_sublist
    refine List.Pairwise.imp_of_mem (fun {a b} ha hb hab => ⟨hab.1, fun z => hab.2 ⟨(hcu a ha z.1).1, (hcu b hb z.2.1).1, z.2.2⟩⟩) hp
  · obtain ⟨hcG, hnf⟩ := hcu m hm hc
    have hmm := hmo m hm
    obtain ⟨hmG, hnl⟩ := hin m hm
    obtain ⟨-, -, -, -, -, -, hans, hcq⟩ := hM.1 m hmG
    rcases hcG with ⟨k3, l1, x3⟩ | k4
    · rw [(hcq k3 l1 x3).2]
      exact fun z => hnf ⟨k3, z⟩
    · obtain ⟨-, g2, -, g4⟩ := hans k4
      rw [g4]
      intro z
      rw [z] at g2
      refine hnl ⟨z, ?_⟩
      have := hvw.2.1
      omega
theorem KI.ep {G : GS} (h : KI G) {m : Ms} (hm : m ∈ MS G) : mE m ≤ G.1 8 0 := by
  obtain ⟨-, ⟨m1, -, -⟩, ⟨-, m5⟩, -⟩ := h.2.2.2.2.1 m hm
  exact Nat.le_trans m5 (h.2.1.2.2.1 _ m1).2.1
theorem KI.k_stp {G : GS} (h : KI G) {v : Nat} (hot : ∃ u, u ≠ v ∧ G.1 1 u = 1 ∧ G.1 2 u = 1) : KI (los (gN (gN G 1 v 0) 28 v (G.1 27 0)) v (G.1 8 0 + 1)) := by
  have hO' : OK (los (gN (gN G 1 v 0) 28 v (G.1 27 0)) v (G.1 8 0 + 1)) := ok_los (ok_gN (ok_gN h.1 (by decide)) (h.1 27 0))
  have ne : ∀ j, j ≠ 1 → j ≠ 28 → j < 20 ∨ 26 < j → (los (gN (gN G 1 v 0) 28 v (G.1 27 0)) v (G.1 8 0 + 1)).1 j = G.1 j := fun j h1 h28 hj => by rw [los_ne _ _ _ hj, gN_ne _ h28, gN_ne _ h1]
  have e1 : ∀ u, (los (gN (gN G 1 v 0) 28 v (G.1 27 0)) v (G.1 8 0 + 1)).1 1 u = if u = v then 0 else G.1 1 u := fun u => by
    rw [los_ne _ _ _ (by decide), gN_ne _ (by decide), gN_1]
    by_cases hu : u = v
    · rw [if_pos ⟨rfl, hu⟩, if_pos hu]
    · rw [if_neg (fun z => hu z.2), if_neg hu]
  have e29 : (los (gN (gN G 1 v 0) 28 v (G.1 27 0)) v (G.1 8 0 + 1)).2 = G.2 := losF_2 _ _ _ _
  have hs : MS (los (gN (gN G 1 v 0) 28 v (G.1 27 0)) v (G.1 8 0 + 1)) = (MS G).filter (fun m => !lst v (G.1 8 0 + 1) m) := by
    rw [MS_los, MS_c (G := G) (fun j h1 h2 => by rw [gN_ne _ (by omega), gN_ne _ (by omega)])]
  have hep := fun m hm => h.ep (m := m) hm
  obtain ⟨hO, hA, hN, hC, hM⟩ := h
  generalize los (gN (gN G 1 v 0) 28 v (G.1 27 0)) v (G.1 8 0 + 1) = G' at *
  have n0 := ne 0 (by decide) (by decide) (by decide)
  have n2 := ne 2 (by decide) (by decide) (by decide)
  have n3 := ne 3 (by decide) (by decide) (by decide)
  have n4 := ne 4 (by decide) (by decide) (by decide)
  have n5 := ne 5 (by decide) (by decide) (by decide)
  have n7 := ne 7 (by decide) (by decide) (by decide)
  have n8 := ne 8 (by decide) (by decide) (by decide)
  have n13 := ne 13 (by decide) (by decide) (by decide)
  have n17 := ne 17 (by decide) (by decide) (by decide)
  have l1 : ∀ u, G'.1 1 u = 1 → u ≠ v ∧ G.1 1 u = 1 := fun u hu => by
    rw [e1] at hu
    by_cases huv : u = v
    · rw [if_pos huv] at hu; cases hu
    · rw [if_neg huv] at hu; exact ⟨huv, hu⟩
  have hin : ∀ m ∈ MS G', m ∈ MS G ∧ mT m ≠ v := fun m hm => by
    rw [hs, List.mem_filter] at hm
    refine ⟨hm.1, fun z => ?_⟩
    have h2 := hm.2
    have h3 := hep m hm.1
    rw [show lst v (G.1 8 0 + 1) m = true from decide_eq_true ⟨z, by omega⟩] at h2
    cases h2
  have hcu : ∀ m, cur G' m → cur G m := fun m hc => by
    rcases hc with ⟨k3, x1, x3⟩ | k4
    · rw [n3] at x3
      exact Or.inl ⟨k3, (l1 _ x1).2, x3⟩
    · exact Or.inr k4
  refine ⟨hO', ?_, ⟨?_, ?_, fun u w h1 huw => ?_⟩, ?_, fun m hm => ?_, ?_⟩
  · obtain ⟨x1, x2, x3, x4, x5, x6, x7, x8, x9, x10⟩ := hA
    unfold JA isIn
    rw [n0, n2, n3, n7, n8]
    refine ⟨x1, x2, x3, fun u hu => ⟨?_, (x4 u hu).2⟩, x5, fun u hu => x6 u (l1 u hu).2, fun u w e hu => x7 u w e (l1 u hu).2, x8, ?_, fun u w hu => x10 u w (l1 u hu).2⟩
    · rw [e1]
      split
      · rfl
      · exact (x4 u hu).1
    · obtain ⟨u, y1, y2, y3⟩ := hot
      exact ⟨u, by rw [e1, if_neg y1]; exact y2, y3⟩
  · rw [n2, n4, n5]; exact hN.1
  · rw [n4, n5]; exact hN.2.1
  · rw [n4]; exact hN.2.2 u w (l1 u h1).2 huw
  · unfold JC at hC ⊢
    rw [n13, n17, e29]
    exact hC
  · obtain ⟨hmG, hnv⟩ := hin m hm
    obtain ⟨k15, ⟨m1, m2, m3⟩, ⟨m4, m5⟩, hu, ha, hq, hans, hcq⟩ := hM.1 m hmG
    unfold MO
    rw [n0, n3, n13, n17, n4, n2]
    refine ⟨k15, ⟨m1, m2, ?_⟩, ⟨m4, m5⟩, fun hk => ?_, ha, hq, hans, fun hk x1 x3 => hcq hk (l1 _ x1).2 x3⟩
    · rw [e1, if_neg hnv]; exact m3
    · obtain ⟨⟨d1, d2, d3⟩, d4, d6⟩ := hu hk
      refine ⟨⟨?_, ?_, d3⟩, d4, d6⟩
      · rw [sucF_cc (G := G) (G' := G') (by rw [n7])]; exact d1
      · rw [isIn_c n7]; exact d2
  · have hp : (MS G').Pairwise (MP G) := by rw [hs]; exact hM.2.sublist List.filter_sublist
    exact hp.imp (fun {a b} hab => ⟨hab.1, fun z => hab.2 ⟨hcu a z.1, hcu b z.2.1, z.2.2⟩⟩)
/-- a new configuration behind the newest -/
theorem MO.conf {G G' : GS} {m : Ms} (h : MO G m) (he : mE m ≤ G.1 8 0) (hA : JA G) (h0 : G.1 0 0 ≤ G'.1 0 0) (h1 : ∀ v, v < G.1 0 0 → G'.1 1 v = G.1 1 v) (h3 : ∀ v, v < G.1 0 0 → G'.1 3 v = G.1 3 v) (h7 : ∀ e, e ≤ G.1 8 0 → G'.1 7 e = G.1 7 e) (h2 : G'.1 2 = G.1 2) (h4 : G'.1 4 = G.1 4) (h13 : G'.1 13 = G.1 13) (h17 : G'.1 17 = G.1 17) : MO G' m := by
  obtain ⟨a, ⟨b1, b2, b3⟩, c, d, e, f, g, i⟩ := h
  unfold MO
  rw [h2, h4, h13, h17, h1 _ b1, h1 _ b2, h3 _ b1, h3 _ b2]
  refine ⟨a, ⟨by omega, by omega, b3⟩, c, fun hk => ?_, e, f, g, i⟩
  obtain ⟨⟨d1, d2, d3⟩, d4, d6⟩ := d hk
  refine ⟨⟨?_, ?_, d3⟩, d4, d6⟩
  · rw [sucF_cc (G := G) (G' := G') (h7 _ he)]; exact d1
  · unfold isIn at d2 ⊢
    rw [h7 _ he]; exact d2
theorem KI.k_jn {G : GS} (h : KI G) (h6 : ¬ G.1 0 0 = 6) : KI (jnF G).2 := by
  have hn11 := h.n11
  have hs0 : (jnF G).2 = gN (gN (gN (gN (gN G 0 0 (G.1 0 0 + 1)) 8 0 (G.1 8 0 + 1)) 7 (G.1 8 0 + 1) (G.1 7 (G.1 8 0) ||| 1 <<< G.1 0 0)) 1 (G.1 0 0) 1) 3 (G.1 0 0) (G.1 8 0 + 1) := by rw [jnF, if_neg h6]
  rw [hs0]
  have hwf := h.wf
  have hep := fun m hm => h.ep (m := m) hm
  obtain ⟨hO, hA, hN, hC, hM⟩ := h
  have hm6 : G.1 0 0 < 6 := by have := hA.1.2; omega
  have hb7 : G.1 7 (G.1 8 0) ≤ 63 := hO 7 _
  have hlt := mask_lt hwf (Nat.le_refl (G.1 8 0))
  have hmem := mk_8 (G.1 0 0) hm6 (G.1 7 (G.1 8 0)) (by omega) hlt
  have hM63 : G.1 7 (G.1 8 0) ||| 1 <<< G.1 0 0 ≤ 63 := by
    have : G.1 7 (G.1 8 0) ||| 1 <<< G.1 0 0 < 2 ^ 6 := Nat.or_lt_two_pow (by omega) (by rw [Nat.one_shiftLeft]; exact Nat.pow_lt_pow_right (by decide) hm6)
    omega
  have hbit : ∀ w, (G.1 7 (G.1 8 0) ||| 1 <<< G.1 0 0).testBit w = true ↔ isIn G (G.1 8 0) w = true ∨ w = G.1 0 0 := fun w => by
    rw [Nat.testBit_or, Nat.one_shiftLeft, Nat.testBit_two_pow]
    unfold isIn
    simp
    constructor
    · rintro (a | a)
      · exact Or.inl a
      · exact Or.inr a.symm
    · rintro (a | a)
      · exact Or.inl a
      · exact Or.inr a.symm
  have ne : ∀ j, j ≠ 0 → j ≠ 1 → j ≠ 3 → j ≠ 7 → j ≠ 8 → (gN (gN (gN (gN (gN G 0 0 (G.1 0 0 + 1)) 8 0 (G.1 8 0 + 1)) 7 (G.1 8 0 + 1) (G.1 7 (G.1 8 0) ||| 1 <<< G.1 0 0)) 1 (G.1 0 0) 1) 3 (G.1 0 0) (G.1 8 0 + 1)).1 j = G.1 j := fun j a0 a1 a3 a7 a8 => by rw [gN_ne _ a3, gN_ne _ a1, gN_ne _ a7, gN_ne _ a8, gN_ne _ a0]
  have e0 : (gN (gN (gN (gN (gN G 0 0 (G.1 0 0 + 1)) 8 0 (G.1 8 0 + 1)) 7 (G.1 8 0 + 1) (G.1 7 (G.1 8 0) ||| 1 <<< G.1 0 0)) 1 (G.1 0 0) 1) 3 (G.1 0 0) (G.1 8 0 + 1)).1 0 0 = G.1 0 0 + 1 := by rw [gN_ne _ (by decide), gN_ne _ (by decide), gN_ne _ (by decide), gN_ne _ (by decide), gN_eq]
  have e8 : (gN (gN (gN (gN (gN G 0 0 (G.1 0 0 + 1)) 8 0 (G.1 8 0 + 1)) 7 (G.1 8 0 + 1) (G.1 7 (G.1 8 0) ||| 1 <<< G.1 0 0)) 1 (G.1 0 0) 1) 3 (G.1 0 0) (G.1 8 0 + 1)).1 8 0 = G.1 8 0 + 1 := by rw [gN_ne _ (by decide), gN_ne _ (by decide), gN_ne _ (by decide), gN_eq]
  have e1 : ∀ u, (gN (gN (gN (gN (gN G 0 0 (G.1 0 0 + 1)) 8 0 (G.1 8 0 + 1)) 7 (G.1 8 0 + 1) (G.1 7 (G.1 8 0) ||| 1 <<< G.1 0 0)) 1 (G.1 0 0) 1) 3 (G.1 0 0) (G.1 8 0 + 1)).1 1 u = if u = G.1 0 0 then 1 else G.1 1 u := fun u => by
    rw [gN_ne _ (by decide), gN_1]
    by_cases hu : u = G.1 0 0
    · rw [if_pos ⟨rfl, hu⟩, if_pos hu]
    · rw [if_neg (fun z => hu z.2), if_neg hu, gN_ne _ (by decide), gN_ne _ (by decide), gN_ne _ (by decide)]
  have e3 : ∀ u, (gN (gN (gN (gN (gN G 0 0 (G.1 0 0 + 1)) 8 0 (G.1 8 0 + 1)) 7 (G.1 8 0 + 1) (G.1 7 (G.1 8 0) ||| 1 <<< G.1 0 0)) 1 (G.1 0 0) 1) 3 (G.1 0 0) (G.1 8 0 + 1)).1 3 u = if u = G.1 0 0 then G.1 8 0 + 1 else G.1 3 u := fun u => by
    rw [gN_1]
    by_cases hu : u = G.1 0 0
    · rw [if_pos ⟨rfl, hu⟩, if_pos hu]
    · rw [if_neg (fun z => hu z.2), if_neg hu, gN_ne _ (by decide), gN_ne _ (by decide), gN_ne _ (by decide), gN_ne _ (by decide)]
  have e7 : ∀ e, (gN (gN (gN (gN (gN G 0 0 (G.1 0 0 + 1)) 8 0 (G.1 8 0 + 1)) 7 (G.1 8 0 + 1) (G.1 7 (G.1 8 0) ||| 1 <<< G.1 0 0)) 1 (G.1 0 0) 1) 3 (G.1 0 0) (G.1 8 0 + 1)).1 7 e = if e = G.1 8 0 + 1 then G.1 7 (G.1 8 0) ||| 1 <<< G.1 0 0 else G.1 7 e := fun e => by
    rw [gN_ne _ (by decide), gN_ne _ (by decide), gN_1]
    by_cases hu : e = G.1 8 0 + 1
    · rw [if_pos ⟨rfl, hu⟩, if_pos hu]
    · rw [if_neg (fun z => hu z.2), if_neg hu, gN_ne _ (by decide), gN_ne _ (by decide)]
  have hO' : OK (gN (gN (gN (gN (gN G 0 0 (G.1 0 0 + 1)) 8 0 (G.1 8 0 + 1)) 7 (G.1 8 0 + 1) (G.1 7 (G.1 8 0) ||| 1 <<< G.1 0 0)) 1 (G.1 0 0) 1) 3 (G.1 0 0) (G.1 8 0 + 1)) := ok_gN (ok_gN (ok_gN (ok_gN (ok_gN hO (by show _ ≤ 6; omega)) (by show _ ≤ 12; omega)) hM63) (by decide)) (by show _ ≤ 12; omega)
  have e29 : (gN (gN (gN (gN (gN G 0 0 (G.1 0 0 + 1)) 8 0 (G.1 8 0 + 1)) 7 (G.1 8 0 + 1) (G.1 7 (G.1 8 0) ||| 1 <<< G.1 0 0)) 1 (G.1 0 0) 1) 3 (G.1 0 0) (G.1 8 0 + 1)).2 = G.2 := rfl
  generalize gN (gN (gN (gN (gN G 0 0 (G.1 0 0 + 1)) 8 0 (G.1 8 0 + 1)) 7 (G.1 8 0 + 1) (G.1 7 (G.1 8 0) ||| 1 <<< G.1 0 0)) 1 (G.1 0 0) 1) 3 (G.1 0 0) (G.1 8 0 + 1) = G' at *
  have hi1 : ∀ e w, e ≤ G.1 8 0 → (isIn G' e w = true ↔ isIn G e w = true) := fun e w he => by
    unfold isIn
    rw [e7, if_neg (by omega)]
  have hi2 : ∀ w, isIn G' (G.1 8 0 + 1) w = true ↔ isIn G (G.1 8 0) w = true ∨ w = G.1 0 0 := fun w => by
    unfold isIn
    rw [e7, if_pos rfl]
    exact hbit w
  have n2 := ne 2 (by decide) (by decide) (by decide) (by decide) (by decide)
  have n4 := ne 4 (by decide) (by decide) (by decide) (by decide) (by decide)
  have n5 := ne 5 (by decide) (by decide) (by decide) (by decide) (by decide)
  have n13 := ne 13 (by decide) (by decide) (by decide) (by decide) (by decide)
  have n17 := ne 17 (by decide) (by decide) (by decide) (by decide) (by decide)
  have hs : MS G' = MS G := MS_c (fun j h1 h2 => ne j (by omega) (by omega) (by omega) (by omega) (by omega))
  have hl0 : G.1 4 (G.1 0 0) = 0 := (hN.1 _ (by rw [(hA.2.2.2.1 _ (Nat.le_refl _)).2]; decide)).1
  have hcu : ∀ m ∈ MS G, cur G' m → cur G m := fun m hm hc => by
    obtain ⟨-, ⟨m1, -, -⟩, -⟩ := hM.1 m hm
    rcases hc with ⟨k3, x1, x3⟩ | k4
    · rw [e1, if_neg (by omega)] at x1
      rw [e3, if_neg (by omega)] at x3
      exact Or.inl ⟨k3, x1, x3⟩
    · exact Or.inr k4
  refine ⟨hO', ?_, ⟨by rw [n2, n4, n5]; exact hN.1, by rw [n4, n5]; exact hN.2.1, fun u w h1 huw => ?_⟩, ?_, fun m hm => ?_, ?_⟩
  · obtain ⟨x1, x2, x3, x4, x5, x6, x7, x8, x9, x10⟩ := hA
    have hold : ∀ v, G'.1 1 v = 1 → v = G.1 0 0 ∨ G.1 1 v = 1 := fun v hv => by
      rw [e1] at hv
      by_cases hvn : v = G.1 0 0
      · exact Or.inl hvn
      · rw [if_neg hvn] at hv; exact Or.inr hv
    unfold JA
    rw [e0, e8, n2]
    refine ⟨by omega, ⟨by omega, ?_⟩, fun u hu => ?_, fun u hu => ⟨?_, (x4 u (by omega)).2⟩, fun e w he hw => ?_, fun v hv => ?_, fun v w e hv hvw he hw => ?_, fun a e u w hae he huw hw hu => ?_, ?_, fun v w hv hvw hr => ?_⟩
    · rw [e7, if_pos rfl, hmem, List.length_append]
      simp
      omega
    · rw [e3]
      split
      · rename_i hun
        refine ⟨by omega, Nat.le_refl _, (hi2 u).mpr (Or.inr hun)⟩
      · have := x3 u (by omega)
        exact ⟨this.1, by omega, (hi1 _ _ this.2.1).mpr this.2.2⟩
    · rw [e1, if_neg (by omega)]; exact (x4 u (by omega)).1
    · by_cases hee : e = G.1 8 0 + 1
      · subst hee
        rcases (hi2 w).mp hw with a | a
        · have := x5 _ w (Nat.le_refl _) a; omega
        · omega
      · have := x5 e w (by omega) ((hi1 e w (by omega)).mp hw)
        omega
    · rcases hold v hv with a | a
      · exact (hi2 v).mpr (Or.inr a)
      · exact (hi2 v).mpr (Or.inl (x6 v a))
    · by_cases hee : e = G.1 8 0 + 1
      · subst hee
        rcases hold v hv with a | a
        · exact (hi2 v).mpr (Or.inr a)
        · exact (hi2 v).mpr (Or.inl (x6 v a))
      · have hw' := (hi1 e w (by omega)).mp hw
        rcases hold v hv with b | b
        · have := x5 e w (by omega) hw'; omega
        · exact (hi1 e v (by omega)).mpr (x7 v w e b hvw (by omega) hw')
    · by_cases hae' : a = G.1 8 0 + 1
      · have : e = a := by omega
        rw [← this]; exact hu
      · have hw' := (hi1 a w (by omega)).mp hw
        have hwl := x5 a w (by omega) hw'
        by_cases hee : e = G.1 8 0 + 1
        · subst hee
          rcases (hi2 u).mp hu with b | b
          · exact (hi1 a u (by omega)).mpr (x8 a _ u w (by omega) (Nat.le_refl _) huw hw' b)
          · omega
        · exact (hi1 a u (by omega)).mpr (x8 a e u w hae (by omega) huw hw' ((hi1 e u (by omega)).mp hu))
    · obtain ⟨u, y1, y2⟩ := x9
      refine ⟨u, ?_, y2⟩
      rw [e1]
      split
      · rfl
      · exact y1
    · rcases hold v hv with a | a
      · have : ¬ G.1 0 0 ≤ w := fun hw => by rw [(x4 w hw).2] at hr; cases hr
        omega
      · exact x10 v w a hvw hr
  · rw [n4]
    rw [e1] at h1
    by_cases hun : u = G.1 0 0
    · have := (hN.1 w (by rw [(hA.2.2.2.1 w (by omega)).2]; decide)).1
      omega
    · rw [if_neg hun] at h1
      exact hN.2.2 u w h1 huw
  · unfold JC at hC ⊢
    rw [n13, n17, e29]
    exact hC
  · rw [hs] at hm
    exact (hM.1 m hm).conf (hep m hm) hA (by omega) (fun v hv => by rw [e1, if_neg (by omega)]) (fun v hv => by rw [e3, if_neg (by omega)]) (fun e he => by rw [e7, if_neg (by omega)]) n2 n4 n13 n17
  · rw [hs]
    exact List.Pairwise.imp_of_mem (fun {a b} ha hb hab => ⟨hab.1, fun z => hab.2 ⟨hcu a ha z.1, hcu b hb z.2.1, z.2.2⟩⟩) hM.2
