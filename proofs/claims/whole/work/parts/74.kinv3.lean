/-! a delivery keeps the invariant -/
theorem KI.set5 {G : GS} (h : KI G) {w a : Nat} (hr : G.1 2 w = 1) (ha : a ≤ G.1 4 w) : KI (gN G 5 w a) := by
  have ne : ∀ j, j ≠ 5 → (gN G 5 w a).1 j = G.1 j := fun j hj => gN_ne _ hj
  obtain ⟨hO, hA, hN, hC, hM⟩ := h
  have hb : G.1 4 w ≤ 100 := hO 4 w
  have hs : MS (gN G 5 w a) = MS G := MS_c (fun j h1 h2 => ne j (by omega))
  refine ⟨ok_gN hO (by show a ≤ 100; omega), hA.c (ne 0 (by decide)) (ne 1 (by decide)) (ne 2 (by decide)) (ne 3 (by decide)) (ne 7 (by decide)) (ne 8 (by decide)), ⟨fun u hu => ?_, fun u => ?_, ?_⟩, ?_, ?_⟩
  · rw [ne 2 (by decide)] at hu
    have huw : u ≠ w := fun z => hu (z ▸ hr)
    rw [ne 4 (by decide), gN_ni _ huw]
    exact hN.1 u hu
  · rw [ne 4 (by decide), gN_1]
    split
    · rename_i hh; rw [hh.2]; exact ha
    · exact hN.2.1 u
  · rw [ne 4 (by decide), ne 1 (by decide)]
    exact hN.2.2
  · unfold JC at hC ⊢
    rw [ne 13 (by decide), ne 17 (by decide)]
    exact hC
  · exact hM.same (hs ▸ List.Sublist.refl _) (ne 0 (by decide)) (ne 1 (by decide)) (ne 3 (by decide)) (ne 7 (by decide)) (fun u hu => by rw [ne 2 (by decide)]; exact hu) (fun x => by rw [ne 4 (by decide)]; exact Nat.le_refl _) (fun m hm' => (hM.1 m (hs ▸ hm')).b4 (ne 4 (by decide))) (fun m _ _ h3 => ⟨by rw [ne 13 (by decide)]; exact h3, by rw [ne 17 (by decide)]⟩)
theorem KI.k_don {G : GS} (h : KI G) {c v i : Nat} (hi : i ≤ 100) (hno : ∀ m ∈ MS G, cur G m → mB m ≠ c) : KI (don G c v i) := by
  have ne : ∀ j, j ≠ 13 → j ≠ 18 → (don G c v i).1 j = G.1 j := fun j h1 h2 => by unfold don; rw [gV_1, gN_ne _ h2, gN_ne _ h1]
  have c13 : ∀ d, d ≠ c → (don G c v i).1 13 d = G.1 13 d := fun d hd => by unfold don; rw [gV_1, gN_ne _ (by decide), gN_ni _ hd]
  have e13 : (don G c v i).1 13 c = 4 := by unfold don; rw [gV_1, gN_ne _ (by decide), gN_eq]
  have e29 : (don G c v i).2 29 = G.2 29 := by unfold don; exact gV_ne _ (by decide)
  obtain ⟨hO, hA, hN, hC, hM⟩ := h
  have hO' := ok_don (c := c) (v := v) hO hi
  have hs : MS (don G c v i) = MS G := MS_c (fun j h1 h2 => ne j (by omega) (by omega))
  generalize don G c v i = G' at *
  have n0 := ne 0 (by decide) (by decide)
  have n1 := ne 1 (by decide) (by decide)
  have n2 := ne 2 (by decide) (by decide)
  have n3 := ne 3 (by decide) (by decide)
  have n4 := ne 4 (by decide) (by decide)
  have n5 := ne 5 (by decide) (by decide)
  have n7 := ne 7 (by decide) (by decide)
  have n8 := ne 8 (by decide) (by decide)
  have n17 := ne 17 (by decide) (by decide)
  refine ⟨hO', hA.c n0 n1 n2 n3 n7 n8, hN.c n1 n2 n4 n5, fun d hd hd3 => ?_, ?_⟩
  · by_cases hdc : d = c
    · rw [hdc, e13] at hd3; cases hd3
    · rw [e29, n17]
      rw [c13 d hdc] at hd3
      exact hC d hd hd3
  · exact hM.same (hs ▸ List.Sublist.refl _) n0 n1 n3 n7 (fun u hu => by rw [n2]; exact hu) (fun x => by rw [n4]; exact Nat.le_refl _) (fun m hm' => (hM.1 m (hs ▸ hm')).b4 n4) (fun m hm' hcu q => ⟨by rw [c13 _ (hno m (hs ▸ hm') hcu)]; exact q, by rw [n17]⟩)
theorem KI.k_act {G : GS} (h : KI G) {v w i : Nat} (hf : frs G v w = some i) (he : G.1 24 i = G.1 3 w) (hr : G.1 2 w = 1) (hcn : G.1 20 0 - 1 + (1 + (G.1 25 i - G.1 4 w)) ≤ 1399) : KI (act (stk G i) w v (G.1 23 i) (G.1 25 i) (G.1 26 i)) := by
  obtain ⟨hi, e1, e2⟩ := frs_lt hf
  have hK := h.k_stk hi
  have ne : ∀ j, j < 20 ∨ 26 < j → (stk G i).1 j = G.1 j := fun j hj => stk_ne G i hj
  have s20 := stk_20 G i
  have hm0 := h.2.2.2.2.1 _ (MS_in hi)
  have f0 : mF (msAt G i) = v := e1
  have t0 : mT (msAt G i) = w := e2
  have hal := fun hk => h.ahead hf hk he
  obtain ⟨k15, ⟨a1, a2, a3⟩, ⟨b1, b2⟩, hu, hack, hq, hans, hcq⟩ := hm0
  rw [t0] at a2 a3 b1
  rw [f0] at a1 b2
  have hw5 : w ≤ 5 := by have := h.2.1.m6 a2; omega
  have hv5 : v ≤ 5 := by have := h.2.1.m6 a1; omega
  have hl' : (stk G i).1 1 w = 1 := by rw [ne 1 (by decide)]; exact a3
  have hr' : (stk G i).1 2 w = 1 := by rw [ne 2 (by decide)]; exact hr
  have hw' : w < (stk G i).1 0 0 := by rw [ne 0 (by decide)]; exact a2
  have hb4 : ∀ u, G.1 4 u ≤ 100 := fun u => h.1 4 u
  unfold act
  by_cases k1 : G.1 23 i = 1
  · rw [if_pos k1]
    obtain ⟨q1, q2⟩ := hal (Or.inl k1)
    have hu1 := hu (Or.inl k1)
    have hlen : G.1 4 w + 1 ≤ G.1 25 i := by
      obtain ⟨s1, -⟩ := suc_sp h.1 (by rw [f0]; omega) hu1.1.1
      have := hu1.2.2 (mT (msAt G i)) s1 (Nat.le_refl _)
      rw [t0, show mK (msAt G i) = 1 from k1] at this
      exact this
    have ha : G.1 25 i ≤ G.1 4 v := by have := hu1.2.1.1; rw [f0] at this; exact this
    have := hb4 v
    refine hK.k_tak hl' hr' (hK.1 9 _) (hK.1 11 _) (hK.1 12 _) (by rw [ne 4 (by decide)]; omega) (by omega) (fun m hm hk p1 p2 => ?_) (fun x hx hxw => ?_)
    · have := q1 m hm hk p1 p2
      rw [ne 4 (by decide)]
      omega
    · rw [ne 1 (by decide)] at hx
      have := q2 x hx hxw
      rw [ne 4 (by decide)]
      omega
  · rw [if_neg k1]
    by_cases k2 : G.1 23 i = 2
    · rw [if_pos k2]
      have ha : G.1 25 i ≤ G.1 4 w := by have := hack k2; rw [t0] at this; exact this
      split
      · have h5 := hK.set5 (a := G.1 25 i) hr' (by rw [ne 4 (by decide)]; exact ha)
        have hp : prd (gN (stk G i) 5 w (G.1 25 i)) w = prd (stk G i) w := prd_c (gN_ne _ (by decide)) (gN_ne _ (by decide)) w
        rw [← hp]
        refine h5.ack (by rw [gN_ne _ (by decide)]; exact hw') (fun x hx hx1 => ?_) (by have := hb4 w; omega) (by rw [gN_ne _ (by decide)]; omega)
        rw [hp] at hx
        rw [gN_ne _ (by decide)] at hx1 ⊢
        have := hK.prdl hw' hx hx1
        rw [ne 4 (by decide)] at this ⊢
        omega
      · exact hK
    · rw [if_neg k2]
      by_cases k3 : G.1 23 i = 3
      · rw [if_pos k3]
        have hqb := hq k3
        refine hK.k_snd hw5 (fun x hx => by cases hx; exact hv5) (by decide) (clN_le hK.1 _ _) (by have := hqb.2; show G.1 26 i ≤ 100; have h2 : mB (msAt G i) ≤ 2 := hqb.2; have h3 : G.1 26 i ≤ 2 := h2; omega) (by omega) (fun x hx hx1 hx3 => ?_)
        cases hx
        rw [ne 1 (by decide)] at hx1
        rw [ne 3 (by decide)] at hx3
        have hev : G.1 3 w = G.1 3 v := by
          have h2 : G.1 24 i ≤ G.1 3 v := b2
          omega
        have hcur : cur G (msAt G i) := Or.inl ⟨k3, by rw [f0]; exact hx1, by rw [f0]; show G.1 24 i = _; omega⟩
        obtain ⟨c1, c2⟩ := hcq k3 (by rw [f0]; exact hx1) (by rw [f0]; show G.1 24 i = _; omega)
        refine ⟨⟨⟨by show 1 ≤ 4; decide, by show 4 ≤ 5; decide⟩, ⟨hw', by show v < _; rw [ne 0 (by decide)]; exact a1, by show (stk G i).1 1 v = 1; rw [ne 1 (by decide)]; exact hx1⟩, ⟨by show (stk G i).1 3 v ≤ (stk G i).1 3 w; rw [ne 3 (by decide)]; omega, Nat.le_refl _⟩, fun z => absurd (show 4 = 1 ∨ 4 = 5 from z) (by decide), fun z => absurd (show 4 = 2 from z) (by decide), fun z => absurd (show 4 = 3 from z) (by decide), fun _ => ⟨hqb.2, by show (stk G i).1 3 w = (stk G i).1 3 v; rw [ne 3 (by decide)]; exact hev, by show (stk G i).1 13 (G.1 26 i) = 3; rw [ne 13 (by decide)]; exact c1, by show (stk G i).1 17 (G.1 26 i) = v; rw [ne 17 (by decide)]; exact c2.trans f0⟩, fun z => absurd (show 4 = 3 from z) (by decide)⟩, fun m hm => ⟨fun _ z => absurd (show 4 = 1 ∨ 4 = 5 from z) (by decide), fun z => ?_⟩⟩
        have z1 := z.1
        rw [cur_c (ne 1 (by decide)) (ne 3 (by decide))] at z1
        exact h.2.2.2.2.alone hi hcur m hm z1 z.2.2
      · rw [if_neg k3]
        by_cases k4 : G.1 23 i = 4
        · rw [if_pos k4]
          have hcur : cur G (msAt G i) := Or.inr k4
          unfold ans
          refine hK.k_don ?_ (fun m hm hcm => ?_)
          · split
            · rename_i hh; have := hK.1 4 w; have h4 : (stk G i).1 4 w ≤ 100 := this; omega
            · exact clN_le hK.1 _ _
          · rw [cur_c (ne 1 (by decide)) (ne 3 (by decide))] at hcm
            exact h.2.2.2.2.alone hi hcur m hm hcm
        · rw [if_neg k4]
          have k5 : G.1 23 i = 5 := by
            have h1 : 1 ≤ G.1 23 i ∧ G.1 23 i ≤ 5 := k15
            omega
          obtain ⟨q1, q2⟩ := hal (Or.inr k5)
          have hu1 := hu (Or.inr k5)
          have hlen : G.1 4 w ≤ G.1 25 i := by
            obtain ⟨s1, -⟩ := suc_sp h.1 (by rw [f0]; omega) hu1.1.1
            have := hu1.2.2 (mT (msAt G i)) s1 (Nat.le_refl _)
            rw [t0, show mK (msAt G i) = 5 from k5] at this
            exact this
          have ha : G.1 25 i ≤ G.1 4 v := by have := hu1.2.1.1; rw [f0] at this; exact this
          have := hb4 v
          refine KI.k_cpF (A := G.1 25 i) _ _ _ hK hl' hr' (by rw [ne 4 (by decide)]; omega) q1 (fun x hx hxw => ?_) (by omega) (by rw [ne 4 (by decide)]; omega)
          rw [ne 1 (by decide)] at hx
          rw [ne 4 (by decide)]
          exact q2 x hx hxw
theorem cpL_n2 (w u n : Nat) : ∀ (i : Nat) (G : GS), (cpL w u n i G).2 29 = G.2 29 := by
  induction n with
  | zero => intro i G; rfl
  | succ n ih =>
    intro i G
    rw [cpL, ih]
    exact gV_ne (i := 128 * w + i) (v := G.2 10 (128 * u + i)) (gN G 9 (128 * w + i) (G.1 9 (128 * u + i))) (show (29 : Nat) ≠ 10 by decide)
theorem KI.k_arv {G : GS} (h : KI G) {v w i : Nat} (hf : frs G v w = some i) (he : G.1 24 i = G.1 3 w) (hr : G.1 2 w = 0) (hk : G.1 23 i = 5) (hcn : G.1 20 0 - 1 + 2 ≤ 1399) : KI (arv (stk G i) w v (G.1 25 i) (G.1 26 i)) := by
  obtain ⟨hi, e1, e2⟩ := frs_lt hf
  have hK := h.k_stk hi
  have sne : ∀ j, j < 20 ∨ 26 < j → (stk G i).1 j = G.1 j := fun j hj => stk_ne G i hj
  have s20 := stk_20 G i
  have hm0 := h.2.2.2.2.1 _ (MS_in hi)
  have f0 : mF (msAt G i) = v := e1
  have t0 : mT (msAt G i) = w := e2
  obtain ⟨q1, q2⟩ := h.ahead hf (Or.inr hk) he
  obtain ⟨k15, ⟨a1, a2, a3⟩, ⟨b1, b2⟩, hu, -⟩ := hm0
  rw [t0] at a2 a3 b1
  rw [f0] at a1 b2
  obtain ⟨⟨u1, u2, u3⟩, ⟨u4, u5⟩, u6⟩ := hu (Or.inr hk)
  rw [f0] at u1 u2 u3 u4
  rw [t0, show mE (msAt G i) = G.1 3 w from he] at u1
  rw [show mE (msAt G i) = G.1 3 w from he] at u2
  obtain ⟨p1, p2, p3, p4⟩ := suc_sp h.1 (h.2.1.m6 a1) u1
  have ha : G.1 25 i ≤ G.1 4 v := u4
  have hb : G.1 26 i ≤ G.1 25 i := u5
  have hv4 : G.1 4 v ≤ 100 := h.1 4 v
  have hw4 : G.1 4 w = 0 := (h.2.2.1.1 w (by omega)).1
  have hw8 : G.1 3 w ≤ G.1 8 0 := (h.2.1.2.2.1 w a2).2.1
  have ne : ∀ j, j ≠ 9 → j ≠ 11 → j ≠ 12 → j ≠ 4 → j ≠ 5 → j ≠ 2 → (gN (gN (gN (cpL w v (G.1 25 i) 1 (stk G i)) 4 w (G.1 25 i)) 5 w (G.1 26 i)) 2 w 1).1 j = (stk G i).1 j := fun j h9 h11 h12 h4 h5 h2 => by rw [gN_ne _ h2, gN_ne _ h5, gN_ne _ h4, cpL_ne _ _ _ h9 h11 h12]
  have e4 : ∀ u, (gN (gN (gN (cpL w v (G.1 25 i) 1 (stk G i)) 4 w (G.1 25 i)) 5 w (G.1 26 i)) 2 w 1).1 4 u = if u = w then G.1 25 i else G.1 4 u := fun u => by
    rw [gN_ne _ (by decide), gN_ne _ (by decide), gN_1, cpL_ne _ _ _ (by decide) (by decide) (by decide), sne 4 (by decide)]
    by_cases hu : u = w
    · rw [if_pos ⟨rfl, hu⟩, if_pos hu]
    · rw [if_neg (fun z => hu z.2), if_neg hu]
  have e5 : ∀ u, (gN (gN (gN (cpL w v (G.1 25 i) 1 (stk G i)) 4 w (G.1 25 i)) 5 w (G.1 26 i)) 2 w 1).1 5 u = if u = w then G.1 26 i else G.1 5 u := fun u => by
    rw [gN_ne _ (by decide), gN_1, gN_ne _ (by decide), cpL_ne _ _ _ (by decide) (by decide) (by decide), sne 5 (by decide)]
    by_cases hu : u = w
    · rw [if_pos ⟨rfl, hu⟩, if_pos hu]
    · rw [if_neg (fun z => hu z.2), if_neg hu]
  have e2' : ∀ u, (gN (gN (gN (cpL w v (G.1 25 i) 1 (stk G i)) 4 w (G.1 25 i)) 5 w (G.1 26 i)) 2 w 1).1 2 u = if u = w then 1 else G.1 2 u := fun u => by
    rw [gN_1, gN_ne _ (by decide), gN_ne _ (by decide), cpL_ne _ _ _ (by decide) (by decide) (by decide), sne 2 (by decide)]
    by_cases hu : u = w
    · rw [if_pos ⟨rfl, hu⟩, if_pos hu]
    · rw [if_neg (fun z => hu z.2), if_neg hu]
  have e29 : (gN (gN (gN (cpL w v (G.1 25 i) 1 (stk G i)) 4 w (G.1 25 i)) 5 w (G.1 26 i)) 2 w 1).2 29 = G.2 29 := by
    rw [gN_2, gN_2, gN_2, cpL_n2]
    rfl
  have hO1 : OK (gN (gN (gN (cpL w v (G.1 25 i) 1 (stk G i)) 4 w (G.1 25 i)) 5 w (G.1 26 i)) 2 w 1) := ok_gN (ok_gN (ok_gN (ok_cpL _ _ hK.1) (by show G.1 25 i ≤ 100; omega)) (by show G.1 26 i ≤ 100; omega)) (by decide)
  unfold arv
  generalize gN (gN (gN (cpL w v (G.1 25 i) 1 (stk G i)) 4 w (G.1 25 i)) 5 w (G.1 26 i)) 2 w 1 = G1 at *
  have n0 : G1.1 0 = G.1 0 := (ne 0 (by decide) (by decide) (by decide) (by decide) (by decide) (by decide)).trans (sne 0 (by decide))
  have n1 : G1.1 1 = G.1 1 := (ne 1 (by decide) (by decide) (by decide) (by decide) (by decide) (by decide)).trans (sne 1 (by decide))
  have n3 : G1.1 3 = G.1 3 := (ne 3 (by decide) (by decide) (by decide) (by decide) (by decide) (by decide)).trans (sne 3 (by decide))
  have n7 : G1.1 7 = G.1 7 := (ne 7 (by decide) (by decide) (by decide) (by decide) (by decide) (by decide)).trans (sne 7 (by decide))
  have n8 : G1.1 8 = G.1 8 := (ne 8 (by decide) (by decide) (by decide) (by decide) (by decide) (by decide)).trans (sne 8 (by decide))
  have n13 : G1.1 13 = G.1 13 := (ne 13 (by decide) (by decide) (by decide) (by decide) (by decide) (by decide)).trans (sne 13 (by decide))
  have n17 : G1.1 17 = G.1 17 := (ne 17 (by decide) (by decide) (by decide) (by decide) (by decide) (by decide)).trans (sne 17 (by decide))
  have hs : MS G1 = MS (stk G i) := MS_c (fun j h1 h2 => ne j (by omega) (by omega) (by omega) (by omega) (by omega) (by omega))
  have h20 : G1.1 20 0 = G.1 20 0 - 1 := by rw [ne 20 (by decide) (by decide) (by decide) (by decide) (by decide) (by decide), s20]
  obtain ⟨hO, hA, hN, hC, hM⟩ := h
  have K1 : KI G1 := by
    refine ⟨hO1, ?_, ⟨fun u hu => ?_, fun u => ?_, fun u x h1 hux => ?_⟩, ?_, ?_⟩
    · obtain ⟨x1, x2, x3, x4, x5, x6, x7, x8, x9, x10⟩ := hA
      unfold JA isIn
      rw [n0, n1, n3, n7, n8]
      refine ⟨x1, x2, x3, fun u hu => ⟨(x4 u hu).1, ?_⟩, x5, x6, x7, x8, ?_, fun u x h1 hux h2 => ?_⟩
      · rw [e2', if_neg (by omega)]; exact (x4 u hu).2
      · obtain ⟨u, y1, y2⟩ := x9
        refine ⟨u, y1, ?_⟩
        rw [e2']
        split
        · rfl
        · exact y2
      · rw [e2']
        split
        · rfl
        · rename_i huw
          rw [e2'] at h2
          by_cases hxw : x = w
          · subst hxw
            have hin := x7 u x (G.1 3 x) h1 hux hw8 p3
            rcases Nat.lt_or_ge v u with hl | hl
            · rw [p4 u hl hux] at hin; cases hin
            · by_cases huv : u = v
              · rw [huv]; exact u3
              · exact x10 u v h1 (by omega) u3
          · rw [if_neg hxw] at h2
            exact x10 u x h1 hux h2
    · rw [e2'] at hu
      by_cases huw : u = w
      · rw [if_pos huw] at hu; exact absurd rfl hu
      · rw [if_neg huw] at hu
        rw [e4, e5, if_neg huw, if_neg huw]
        exact hN.1 u hu
    · rw [e4, e5]
      split
      · exact hb
      · exact hN.2.1 u
    · rw [n1] at h1
      rw [e4, e4]
      have hmm := hN.2.2 u x h1 hux
      by_cases hxw : x = w
      · subst hxw
        rw [if_pos rfl, if_neg (by omega)]
        exact q2 u h1 hux
      · rw [if_neg hxw]
        split
        · rename_i huw; rw [huw, hw4] at hmm; omega
        · exact hmm
    · unfold JC at hC ⊢
      rw [e29, n13, n17]
      exact hC
    · refine hM.same (hs ▸ MS_stk_sub hi) n0 n1 n3 n7 (fun u hu => by rw [e2']; split; rfl; exact hu) (fun x => by rw [e4]; split <;> rename_i hx <;> first | (rw [hx, hw4]; omega) | exact Nat.le_refl _) (fun m hm hkm x y1 y2 => ?_) (fun m _ _ h3 => ⟨by rw [n13]; exact h3, by rw [n17]⟩)
      rw [hs] at hm
      rw [e4]
      split
      · rename_i hx; subst hx
        exact q1 m hm hkm y1 y2
      · exact ((hM.1 m ((MS_stk_sub hi).subset hm)).2.2.2.1 hkm).2.2 x y1 y2
  exact K1.k_tel (by rw [n1]; exact a3) (by rw [e2', if_pos rfl]) (by rw [h20]; exact hcn)
