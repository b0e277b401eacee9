/-! every call keeps the invariant -/
theorem INV.b3 {k : Nat} {G : GS} (h : INV k G) (v : Nat) : G.1 3 v ≤ 11 := by
  have hn := h.1.n11
  rcases Nat.lt_or_ge v (G.1 0 0) with hv | hv
  · exact Nat.le_trans (h.1.2.1.2.2.1 v hv).2.1 hn
  · rw [(h.2.1.2.2.2.2.1 v hv).2]; omega
theorem INV.cnt {k : Nat} {G : GS} (h : INV k G) {w A : Nat} (hw : w < 6) (hA : A ≤ 100) : G.1 20 0 + (A - G.1 4 w) ≤ k + 864 := by
  have hB := h.2.2
  unfold JB sm at hB
  have a0 := h.b3 0
  have a1 := h.b3 1
  have a2 := h.b3 2
  have a3 := h.b3 3
  have a4 := h.b3 4
  have a5 := h.b3 5
  have b0 : G.1 4 0 ≤ 100 := h.1.1 4 0
  have b1 : G.1 4 1 ≤ 100 := h.1.1 4 1
  have b2 : G.1 4 2 ≤ 100 := h.1.1 4 2
  have b3 : G.1 4 3 ≤ 100 := h.1.1 4 3
  have b4 : G.1 4 4 ≤ 100 := h.1.1 4 4
  have b5 : G.1 4 5 ≤ 100 := h.1.1 4 5
  have hc : w = 0 ∨ w = 1 ∨ w = 2 ∨ w = 3 ∨ w = 4 ∨ w = 5 := by omega
  rcases hc with rfl | rfl | rfl | rfl | rfl | rfl <;> omega
theorem INV.c0 {k : Nat} {G : GS} (h : INV k G) : G.1 20 0 ≤ k + 864 := by
  have := h.cnt (w := 0) (A := 0) (by decide) (by decide)
  omega
theorem sm_c {G G' : GS} {j : Nat} (h : G'.1 j = G.1 j) : sm G' j = sm G j := by unfold sm; rw [h]
theorem sm_le {G G' : GS} {j : Nat} (h : ∀ u, G.1 j u ≤ G'.1 j u) : sm G j ≤ sm G' j := by
  unfold sm
  have := h 0
  have := h 1
  have := h 2
  have := h 3
  have := h 4
  have := h 5
  omega
theorem sm_up {G G' : GS} {j w n : Nat} (hw : w < 6) (h : ∀ u, G.1 j u ≤ G'.1 j u) (hn : G.1 j w + n ≤ G'.1 j w) : sm G j + n ≤ sm G' j := by
  unfold sm
  have := h 0
  have := h 1
  have := h 2
  have := h 3
  have := h 4
  have := h 5
  have hc : w = 0 ∨ w = 1 ∨ w = 2 ∨ w = 3 ∨ w = 4 ∨ w = 5 := by omega
  rcases hc with rfl | rfl | rfl | rfl | rfl | rfl <;> omega
theorem JT.c {k : Nat} {G G' : GS} (h : JT k G) (n0 : G'.1 0 = G.1 0) (n1 : G'.1 1 = G.1 1) (n3 : ∀ v, G.1 0 0 ≤ v → G'.1 3 v = G.1 3 v) (n6 : G'.1 6 = G.1 6) (n7 : G'.1 7 = G.1 7) (n8 : G'.1 8 = G.1 8) (n27 : G'.1 27 = G.1 27) (n28 : G'.1 28 = G.1 28) (n14 : ∀ c, G'.1 14 c ≤ k + 1) : JT (k + 1) G' := by
  obtain ⟨a, b, c, d, e, f⟩ := h
  unfold JT isIn
  rw [n0, n1, n6, n7, n8, n27, n28]
  exact ⟨a, b, c, by omega, fun v hv => ⟨(e v hv).1, by rw [n3 v hv]; exact (e v hv).2⟩, n14⟩
theorem INV.mono {k : Nat} {G : GS} (h : INV k G) : INV (k + 1) G :=
  ⟨h.1, h.2.1.c rfl rfl (fun _ _ => rfl) rfl rfl rfl rfl rfl (fun c => Nat.le_succ_of_le (h.2.1.2.2.2.2.2 c)), by have := h.2.2; unfold JB at this ⊢; omega⟩
/-- a step: the invariant, lengths only grow -/
def NX (k : Nat) (G G' : GS) : Prop := INV (k + 1) G' ∧ sm G 4 ≤ sm G' 4
theorem NX.same {k : Nat} {G : GS} (h : INV k G) : NX k G G := ⟨h.mono, Nat.le_refl _⟩
theorem NX.of {k : Nat} {G G' : GS} (h : INV k G) (hK : KI G') (ne : ∀ j, j = 0 ∨ j = 1 ∨ j = 3 ∨ j = 6 ∨ j = 7 ∨ j = 8 ∨ j = 27 ∨ j = 28 → G'.1 j = G.1 j) (h14 : ∀ c, G'.1 14 c ≤ k + 1) (h4 : ∀ u, G.1 4 u ≤ G'.1 4 u) {n : Nat} (hn : sm G 4 + n ≤ sm G' 4) (h20 : G'.1 20 0 ≤ G.1 20 0 + 1 + n) : NX k G G' := by
  refine ⟨⟨hK, h.2.1.c (ne 0 (by decide)) (ne 1 (by decide)) (fun v _ => by rw [ne 3 (by decide)]) (ne 6 (by decide)) (ne 7 (by decide)) (ne 8 (by decide)) (ne 27 (by decide)) (ne 28 (by decide)) h14, ?_⟩, by omega⟩
  have hB := h.2.2
  unfold JB at hB ⊢
  rw [sm_c (ne 3 (by decide))]
  omega
theorem KI.noc {G : GS} (h : KI G) {c : Nat} (h3 : ¬ G.1 13 c = 3) : ∀ m ∈ MS G, cur G m → mB m ≠ c := by
  intro m hm hc z
  obtain ⟨-, -, -, -, -, -, hans, hcq⟩ := h.2.2.2.2.1 m hm
  rcases hc with ⟨k3, l1, x3⟩ | k4
  · have := (hcq k3 l1 x3).1
    rw [z] at this; exact h3 this
  · have := (hans k4).2.2.1
    rw [z] at this; exact h3 this
theorem JM.st {G : GS} (hM : JM G) {c s : Nat} (hno : ∀ m ∈ MS G, cur G m → mB m ≠ c) : JM (gN G 13 c s) := by
  have ne : ∀ j, j ≠ 13 → (gN G 13 c s).1 j = G.1 j := fun j hj => gN_ne _ hj
  have hs : MS (gN G 13 c s) = MS G := MS_c (fun j h1 h2 => ne j (by omega))
  exact hM.same (hs ▸ List.Sublist.refl _) (ne 0 (by decide)) (ne 1 (by decide)) (ne 3 (by decide)) (ne 7 (by decide)) (fun u hu => by rw [ne 2 (by decide)]; exact hu) (fun x => by rw [ne 4 (by decide)]; exact Nat.le_refl _) (fun m hm' => (hM.1 m (hs ▸ hm')).b4 (ne 4 (by decide))) (fun m hm' hcu q => ⟨by rw [gN_ni _ (hno m (hs ▸ hm') hcu)]; exact q, by rw [ne 17 (by decide)]⟩)
theorem NX.put {k : Nat} {G : GS} (h : INV k G) (hk : k ≤ 511) (c y x : Int32) : NX k G (putF G c y x).2 := by
  unfold putF
  by_cases hb : (inN c 2 && inN y 3) = true
  · rw [if_pos hb]
    by_cases h2 : G.1 13 (ix c) % 2 = 1
    · rw [if_pos h2]; exact NX.same h
    · rw [if_neg h2]
      have hc : ix c < 3 := by
        have : inN c 2 = true := (Bool.and_eq_true_iff.mp hb).1
        obtain ⟨j, hj, e⟩ := inN_of this (by decide)
        rw [e, ix_n (by omega)]; omega
      have hy : ix y ≤ 3 := by
        have : inN y 3 = true := (Bool.and_eq_true_iff.mp hb).2
        obtain ⟨j, hj, e⟩ := inN_of this (by decide)
        rw [e, ix_n (by omega)]; omega
      have h3 : ¬ G.1 13 (ix c) = 3 := by omega
      have h14 := h.2.1.2.2.2.2.2
      have c0 := h.c0
      generalize ix c = c1 at *
      generalize ix y = y1 at *
      show NX k G (swr (gV (gN (gN (gN G 13 c1 1) 14 c1 (G.1 14 c1 + 1)) 15 c1 y1) 16 c1 x) c1).2
      have ne : ∀ j, j ≠ 13 → j ≠ 14 → j ≠ 15 → (gV (gN (gN (gN G 13 c1 1) 14 c1 (G.1 14 c1 + 1)) 15 c1 y1) 16 c1 x).1 j = G.1 j := fun j a b d => by rw [gV_1, gN_ne _ d, gN_ne _ b, gN_ne _ a]
      have e14 : ∀ d, (gV (gN (gN (gN G 13 c1 1) 14 c1 (G.1 14 c1 + 1)) 15 c1 y1) 16 c1 x).1 14 d ≤ k + 1 := fun d => by
        rw [gV_1, gN_ne _ (by decide), gN_1]
        split
        · have := h14 c1; omega
        · rw [gN_ne _ (by decide)]; have := h14 d; omega
      have K0 : KI (gN G 13 c1 1) := by
        have ne0 : ∀ j, j ≠ 13 → (gN G 13 c1 1).1 j = G.1 j := fun j hj => gN_ne _ hj
        refine ⟨ok_gN h.1.1 (by decide), h.1.2.1.c (ne0 0 (by decide)) (ne0 1 (by decide)) (ne0 2 (by decide)) (ne0 3 (by decide)) (ne0 7 (by decide)) (ne0 8 (by decide)), h.1.2.2.1.c (ne0 1 (by decide)) (ne0 2 (by decide)) (ne0 4 (by decide)) (ne0 5 (by decide)), fun d hd hd3 => ?_, h.1.2.2.2.2.st (h.1.noc h3)⟩
        rw [gN_1] at hd3
        rw [ne0 17 (by decide)]
        by_cases hdc : d = c1
        · rw [if_pos ⟨rfl, hdc⟩] at hd3; cases hd3
        · rw [if_neg (fun z => hdc z.2)] at hd3
          exact h.1.2.2.2.1 d hd hd3
      have K1 : KI (gV (gN (gN (gN G 13 c1 1) 14 c1 (G.1 14 c1 + 1)) 15 c1 y1) 16 c1 x) := by
        have ne1 : ∀ j, j ≠ 14 → j ≠ 15 → (gV (gN (gN (gN G 13 c1 1) 14 c1 (G.1 14 c1 + 1)) 15 c1 y1) 16 c1 x).1 j = (gN G 13 c1 1).1 j := fun j b d => by rw [gV_1, gN_ne _ d, gN_ne _ b]
        refine K0.c (ok_gV (ok_gN (ok_gN K0.1 (by have := h14 c1; show _ ≤ 600; omega)) hy)) (MS_c (fun j a b => ne1 j (by omega) (by omega))) (ne1 0 (by decide) (by decide)) (ne1 1 (by decide) (by decide)) (ne1 2 (by decide) (by decide)) (ne1 3 (by decide) (by decide)) (ne1 4 (by decide) (by decide)) (ne1 5 (by decide) (by decide)) (ne1 7 (by decide) (by decide)) (ne1 8 (by decide) (by decide)) (ne1 13 (by decide) (by decide)) (ne1 17 (by decide) (by decide)) ?_
        exact gV_ne _ (by decide)
      generalize gV (gN (gN (gN G 13 c1 1) 14 c1 (G.1 14 c1 + 1)) 15 c1 y1) 16 c1 x = G1 at *
      obtain ⟨f1, f2, f3⟩ := swr_fr G1 c1
      have e20 : G1.1 20 = G.1 20 := ne 20 (by decide) (by decide) (by decide)
      have e4 : G1.1 4 = G.1 4 := ne 4 (by decide) (by decide) (by decide)
      rw [e4] at f2
      rw [e20] at f3
      refine NX.of h (K1.k_swr hc (by rw [e20]; omega)) (fun j hj => ?_) (fun d => by rw [f1 14 (by decide) (by decide) (by decide) (by decide) (by decide) (by decide) (by decide) (by decide)]; exact e14 d) f2 (n := 0) (sm_le f2) f3
      rcases hj with rfl | rfl | rfl | rfl | rfl | rfl | rfl | rfl
      all_goals rw [f1 _ (by decide) (by decide) (by decide) (by decide) (by decide) (by decide) (by decide) (by decide), ne _ (by decide) (by decide) (by decide)]
  · rw [if_neg hb]; exact NX.same h
theorem NX.n_srv {k : Nat} {G G1 : GS} (h : INV k G) (hk : k ≤ 511) {c v : Nat} (hc : c < 3) (hl : G.1 1 v = 1) (hO1 : OK G1) (ne : ∀ j, j ≠ 13 → j ≠ 15 → G1.1 j = G.1 j) (hM1 : JM G1) (hC : ∀ d, d < 3 → d ≠ c → G1.1 13 d = 3 → G1.2 29 d = nI (G1.1 17 d)) (h3 : G1.1 13 c = 3) (hno : ∀ m ∈ MS G1, cur G1 m → mB m ≠ c) : NX k G (srv G1 c v).2 := by
  have c0 := h.c0
  have n20 : G1.1 20 = G.1 20 := ne 20 (by decide) (by decide)
  have s20 := (srv_20 G1 c v).2
  rw [n20] at s20
  have sn : ∀ j, j ≠ 13 → j ≠ 15 → j ≠ 18 → j ≠ 17 → j < 20 ∨ 26 < j → (srv G1 c v).2.1 j = G.1 j := fun j a b c' d e => (srv_ne _ _ _ a c' d e).trans (ne j a b)
  have s4 := sn 4 (by decide) (by decide) (by decide) (by decide) (by decide)
  refine NX.of h (K_srv hO1 (h.1.2.1.c (ne 0 (by decide) (by decide)) (ne 1 (by decide) (by decide)) (ne 2 (by decide) (by decide)) (ne 3 (by decide) (by decide)) (ne 7 (by decide) (by decide)) (ne 8 (by decide) (by decide))) (h.1.2.2.1.c (ne 1 (by decide) (by decide)) (ne 2 (by decide) (by decide)) (ne 4 (by decide) (by decide)) (ne 5 (by decide) (by decide))) hM1 hc hC (by rw [ne 1 (by decide) (by decide)]; exact hl) h3 hno (by rw [n20]; omega)) (fun j hj => ?_) (fun d => ?_) (fun u => by rw [s4]; exact Nat.le_refl _) (n := 0) (by rw [sm_c s4]; exact Nat.le_refl _) s20
  · rcases hj with rfl | rfl | rfl | rfl | rfl | rfl | rfl | rfl
    all_goals exact sn _ (by decide) (by decide) (by decide) (by decide) (by decide)
  · rw [sn 14 (by decide) (by decide) (by decide) (by decide) (by decide)]
    exact Nat.le_succ_of_le (h.2.1.2.2.2.2.2 d)
theorem svs_l {G : GS} {v : Int32} (h : svs G v = true) : G.1 1 (ix v) = 1 ∧ G.1 2 (ix v) = 1 := by
  unfold svs at h
  simp at h
  exact h.2
theorem NX.get {k : Nat} {G : GS} (h : INV k G) (hk : k ≤ 511) (c v y : Int32) : NX k G (getF G c v y).2 := by
  unfold getF
  by_cases hb : (inN c 2 && (inN y 3 && inN v 5)) = true
  · rw [if_pos hb]
    by_cases h2 : G.1 13 (ix c) % 2 = 1
    · rw [if_pos h2]; exact NX.same h
    · rw [if_neg h2]
      by_cases hs : svs G v = true
      · rw [if_pos hs]
        have hb1 := Bool.and_eq_true_iff.mp hb
        have hb2 := Bool.and_eq_true_iff.mp hb1.2
        have hc : ix c < 3 := by
          obtain ⟨j, hj, e⟩ := inN_of hb1.1 (by decide)
          rw [e, ix_n (by omega)]; omega
        have hy : ix y ≤ 3 := by
          obtain ⟨j, hj, e⟩ := inN_of hb2.1 (by decide)
          rw [e, ix_n (by omega)]; omega
        have h3 : ¬ G.1 13 (ix c) = 3 := by omega
        have hl := (svs_l hs).1
        generalize ix c = c1 at *
        generalize ix y = y1 at *
        generalize ix v = v1 at *
        show NX k G (srv (gV (gN (gN G 13 c1 3) 15 c1 y1) 29 c1 (-1)) c1 v1).2
        have hno := h.1.noc h3
        have hM0 : JM (gN G 13 c1 3) := h.1.2.2.2.2.st hno
        have ne1 : ∀ j, j ≠ 15 → (gV (gN (gN G 13 c1 3) 15 c1 y1) 29 c1 (-1)).1 j = (gN G 13 c1 3).1 j := fun j b => by rw [gV_1, gN_ne _ b]
        have hs1 : MS (gV (gN (gN G 13 c1 3) 15 c1 y1) 29 c1 (-1)) = MS (gN G 13 c1 3) := MS_c (fun j a b => ne1 j (by omega))
        have hs0 : MS (gN G 13 c1 3) = MS G := MS_c (fun j a b => gN_ne _ (by omega))
        refine NX.n_srv h hk hc hl (ok_gV (ok_gN (ok_gN h.1.1 (by decide)) hy)) (fun j a b => by rw [ne1 j b, gN_ne _ a]) ?_ (fun d hd hdc hd3 => ?_) ?_ (fun m hm hcm => ?_)
        · exact hM0.same (hs1 ▸ List.Sublist.refl _) (ne1 0 (by decide)) (ne1 1 (by decide)) (ne1 3 (by decide)) (ne1 7 (by decide)) (fun u hu => by rw [ne1 2 (by decide)]; exact hu) (fun x => by rw [ne1 4 (by decide)]; exact Nat.le_refl _) (fun m hm' => (hM0.1 m (hs1 ▸ hm')).b4 (ne1 4 (by decide))) (fun m _ _ q => ⟨by rw [ne1 13 (by decide)]; exact q, by rw [ne1 17 (by decide)]⟩)
        · rw [gV_2, if_neg (fun z => hdc z.2), ne1 17 (by decide), gN_ne _ (by decide)]
          rw [ne1 13 (by decide), gN_ni _ hdc] at hd3
          exact h.1.2.2.2.1 d hd hd3
        · rw [ne1 13 (by decide), gN_eq]
        · rw [hs1, hs0] at hm
          rw [cur_c (G := G) (by rw [ne1 1 (by decide), gN_ne _ (by decide)]) (by rw [ne1 3 (by decide), gN_ne _ (by decide)])] at hcm
          exact hno m hm hcm
      · rw [if_neg hs]; exact NX.same h
  · rw [if_neg hb]; exact NX.same h
theorem NX.rty {k : Nat} {G : GS} (h : INV k G) (hk : k ≤ 511) (c v : Int32) : NX k G (rtyF G c v).2 := by
  unfold rtyF
  by_cases hb : inN c 2 = true
  · rw [if_pos hb]
    have hc : ix c < 3 := by
      obtain ⟨j, hj, e⟩ := inN_of hb (by decide)
      rw [e, ix_n (by omega)]; omega
    have hb13 : G.1 13 (ix c) ≤ 4 := h.1.1 13 _
    have c0 := h.c0
    generalize ix c = c1 at *
    by_cases h1 : G.1 13 c1 = 0 ∨ G.1 13 c1 = 4
    · rw [if_pos h1]; exact NX.same h
    · rw [if_neg h1]
      by_cases h2 : G.1 13 c1 < 3
      · rw [if_pos h2]
        obtain ⟨f1, f2, f3⟩ := swr_fr G c1
        refine NX.of h (h.1.k_swr hc (by omega)) (fun j hj => ?_) (fun d => by rw [f1 14 (by decide) (by decide) (by decide) (by decide) (by decide) (by decide) (by decide) (by decide)]; exact Nat.le_succ_of_le (h.2.1.2.2.2.2.2 d)) f2 (n := 0) (sm_le f2) f3
        rcases hj with rfl | rfl | rfl | rfl | rfl | rfl | rfl | rfl
        all_goals exact f1 _ (by decide) (by decide) (by decide) (by decide) (by decide) (by decide) (by decide) (by decide)
      · rw [if_neg h2]
        by_cases h3 : G.1 1 (G.1 17 c1) = 1
        · rw [if_pos h3]; exact NX.same h
        · rw [if_neg h3]
          by_cases h4 : inN v 5 = true
          · rw [if_pos h4]
            by_cases h5 : svs G v = true
            · rw [if_pos h5]
              refine NX.n_srv h hk hc (svs_l h5).1 h.1.1 (fun _ _ _ => rfl) h.1.2.2.2.2 (fun d hd _ hd3 => h.1.2.2.2.1 d hd hd3) (by omega) (fun m hm hcm z => ?_)
              obtain ⟨-, ⟨-, -, m3⟩, -, -, -, -, hans, hcq⟩ := h.1.2.2.2.2.1 m hm
              rcases hcm with ⟨k3, l1, x3⟩ | k4
              · have := (hcq k3 l1 x3).2
                rw [z] at this
                rw [this] at h3; exact h3 l1
              · have := (hans k4).2.2.2
                rw [z] at this
                rw [this] at h3; exact h3 m3
            · rw [if_neg h5]; exact NX.same h
          · rw [if_neg h4]; exact NX.same h
  · rw [if_neg hb]; exact NX.same h
