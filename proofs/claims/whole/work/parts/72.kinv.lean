/-! the steps keep the invariant -/
theorem KI.k_snd {G : GS} (h : KI G) {v k a b : Nat} {w : Option Nat} (hv : v ≤ 5) (hw : ∀ x, w = some x → x ≤ 5) (hk : k ≤ 5) (ha : a ≤ 100) (hb : b ≤ 100) (hc : G.1 20 0 + 1 ≤ 1399) (hm : ∀ x, w = some x → G.1 1 x = 1 → G.1 3 x ≤ G.1 3 v → MO G (v, x, k, G.1 3 v, a, b) ∧ ∀ m ∈ MS G, MP G m (v, x, k, G.1 3 v, a, b)) : KI (snd G v w k a b) := by
  obtain ⟨hO, hA, hN, hC, hM⟩ := h
  have ne : ∀ j, j < 20 ∨ 26 < j → (snd G v w k a b).1 j = G.1 j := fun j hj => snd_ne _ _ _ _ _ _ hj
  refine ⟨ok_snd hO hv hw hk ha hb hc, hA.c (ne 0 (by decide)) (ne 1 (by decide)) (ne 2 (by decide)) (ne 3 (by decide)) (ne 7 (by decide)) (ne 8 (by decide)), hN.c (ne 1 (by decide)) (ne 2 (by decide)) (ne 4 (by decide)) (ne 5 (by decide)), ?_, ?_⟩
  · unfold JC at hC ⊢
    rw [ne 13 (by decide), ne 17 (by decide), snd_2]
    exact hC
  · cases w with
    | none => exact hM
    | some x =>
      by_cases hx : G.1 1 x = 0 ∨ G.1 3 v < G.1 3 x
      · rw [show snd G v (some x) k a b = G from if_pos hx]
        exact hM
      · have hb1 : G.1 1 x ≤ 1 := hO 1 x
        obtain ⟨m1, m2⟩ := hm x rfl (by omega) (by omega)
        rw [show snd G v (some x) k a b = pushM G v x k (G.1 3 v) a b from if_neg hx] at ne ⊢
        have mc : ∀ m, MO G m → MO (pushM G v x k (G.1 3 v) a b) m := fun m hm => hm.c (ne 0 (by decide)) (ne 1 (by decide)) (ne 2 (by decide)) (ne 3 (by decide)) (ne 4 (by decide)) (ne 7 (by decide)) (ne 13 (by decide)) (ne 17 (by decide))
        refine ⟨fun m hm => ?_, ?_⟩
        · rw [MS_push, List.mem_append] at hm
          rcases hm with hm | hm
          · exact mc m (hM.1 m hm)
          · rw [List.mem_singleton.mp hm]; exact mc _ m1
        · rw [MS_push, MP_c (ne 1 (by decide)) (ne 3 (by decide)), List.pairwise_append]
          refine ⟨hM.2, List.pairwise_singleton _ _, fun m hm m' hm' => ?_⟩
          rw [List.mem_singleton.mp hm']
          exact m2 m hm
theorem KI.k_stl {G : GS} (h : KI G) {v : Nat} (hr : G.1 2 v = 1) : KI (stl G v) := by
  obtain ⟨hO, hA, hN, hC, hM⟩ := h
  have ne : ∀ j, j ≠ 13 → j ≠ 18 → j ≠ 5 → (stl G v).1 j = G.1 j := fun j h1 h2 h3 => stl_ne _ _ h1 h2 h3
  have e13 := stl_13 G v
  have e5 : ∀ u, (stl G v).1 5 u = if u = v then G.1 4 v else G.1 5 u := fun u => by
    split
    · rename_i hu; rw [hu, stl_5]
    · rename_i hu; rw [stl_5n _ hu]
  have e29 : (stl G v).2 29 = G.2 29 := stl_n2 _ _ (by decide)
  have hO' := ok_stl (v := v) hO
  generalize stl G v = G' at *
  refine ⟨hO', hA.c (ne 0 (by decide) (by decide) (by decide)) (ne 1 (by decide) (by decide) (by decide)) (ne 2 (by decide) (by decide) (by decide)) (ne 3 (by decide) (by decide) (by decide)) (ne 7 (by decide) (by decide) (by decide)) (ne 8 (by decide) (by decide) (by decide)), ⟨fun u hu => ?_, fun u => ?_, ?_⟩, fun c hc h3 => ?_, ?_⟩
  · rw [ne 2 (by decide) (by decide) (by decide)] at hu
    have huv : u ≠ v := fun z => hu (z ▸ hr)
    rw [ne 4 (by decide) (by decide) (by decide), e5, if_neg huv]
    exact hN.1 u hu
  · rw [ne 4 (by decide) (by decide) (by decide), e5]
    split
    · rename_i hu; rw [hu]; exact Nat.le_refl _
    · exact hN.2.1 u
  · rw [ne 4 (by decide) (by decide) (by decide), ne 1 (by decide) (by decide) (by decide)]
    exact hN.2.2
  · rw [e29, ne 17 (by decide) (by decide) (by decide)]
    have := e13 c
    exact hC c hc (by omega)
  · have hs : MS G' = MS G := MS_c (fun j h1 h2 => ne j (by omega) (by omega) (by omega))
    refine hM.same (hs ▸ List.Sublist.refl _) (ne 0 (by decide) (by decide) (by decide)) (ne 1 (by decide) (by decide) (by decide)) (ne 3 (by decide) (by decide) (by decide)) (ne 7 (by decide) (by decide) (by decide)) (fun u hu => by rw [ne 2 (by decide) (by decide) (by decide)]; exact hu) (fun x => by rw [ne 4 (by decide) (by decide) (by decide)]; exact Nat.le_refl _) (fun m hm => (hM.1 m (hs ▸ hm)).b4 (ne 4 (by decide) (by decide) (by decide))) (fun m _ _ h3 => ⟨?_, ?_⟩)
    · have := e13 (mB m)
      omega
    · rw [ne 17 (by decide) (by decide) (by decide)]
theorem prd_le5 {G : GS} {v : Nat} (hv : v ≤ 5) : ∀ x, prd G v = some x → x ≤ 5 := fun _ hx => prd_le hv hx
theorem MO.ack {G : GS} (hA : JA G) {v x a : Nat} (hv : v < G.1 0 0) (h1 : G.1 1 x = 1) (h3 : G.1 3 x ≤ G.1 3 v) (ha : a ≤ G.1 4 x) : MO G (v, x, 2, G.1 3 v, a, 0) :=
  ⟨⟨by show 1 ≤ 2; decide, by show 2 ≤ 5; decide⟩, ⟨hv, hA.mk h1, h1⟩, ⟨h3, Nat.le_refl _⟩, fun z => absurd (show 2 = 1 ∨ 2 = 5 from z) (by decide), fun _ => ha, fun z => absurd (show 2 = 3 from z) (by decide), fun z => absurd (show 2 = 4 from z) (by decide), fun z => absurd (show 2 = 3 from z) (by decide)⟩
theorem MP.non {G : GS} {m m' : Ms} (h1 : ¬ (mK m' = 1 ∨ mK m' = 5)) (h2 : ¬ cur G m') : MP G m m' := ⟨fun _ z => absurd z h1, fun z => h2 z.2.1⟩
theorem cur_no {G : GS} {m : Ms} (h3 : ¬ mK m = 3) (h4 : ¬ mK m = 4) : ¬ cur G m := fun z => by
  rcases z with z | z
  · exact h3 z.1
  · exact h4 z
theorem KI.ack {G : GS} (h : KI G) {v a : Nat} (hv : v < G.1 0 0) (ha : ∀ x, prd G v = some x → G.1 1 x = 1 → a ≤ G.1 4 x) (ha2 : a ≤ 100) (hc : G.1 20 0 + 1 ≤ 1399) : KI (snd G v (prd G v) 2 a 0) := by
  have hv5 : v ≤ 5 := by have := h.2.1.m6 hv; omega
  exact h.k_snd hv5 (prd_le5 hv5) (by decide) ha2 (by decide) hc (fun x hx h1 h3 => ⟨MO.ack h.2.1 hv h1 h3 (ha x hx h1), fun m _ => MP.non (by show ¬ (2 = 1 ∨ 2 = 5); decide) (cur_no (by show ¬ 2 = 3; decide) (by show ¬ 2 = 4; decide))⟩)
theorem KI.prdl {G : GS} (h : KI G) {v x : Nat} (hv : v < G.1 0 0) (hx : prd G v = some x) (h1 : G.1 1 x = 1) : G.1 4 v ≤ G.1 4 x := by
  have := prd_sp h.1 (h.2.1.m6 hv) hx
  exact h.2.2.1.2.2 x v h1 this.1
theorem KI.k_hol {G : GS} (h : KI G) {v k c r : Nat} {x : Int32} (hr : G.1 2 v = 1) (hk : k ≤ 3) (hc : c ≤ 2) (hr6 : r ≤ 600) (h100 : G.1 4 v + 1 ≤ 100) (hT : ∀ m ∈ MS G, mK m = 1 ∨ mK m = 5 → mF m < v → v ≤ mT m → G.1 4 v + 1 + dU (mK m) ≤ mA m) (hM : ∀ u, G.1 1 u = 1 → u < v → G.1 4 v + 1 ≤ G.1 4 u) : KI (hol G v k x c r) := by
  have hO' := ok_hol (x := x) h.1 h100 hk hc hr6
  have ne : ∀ j, j ≠ 4 → j ≠ 9 → j ≠ 11 → j ≠ 12 → (hol G v k x c r).1 j = G.1 j := fun j h1 h2 h3 h4 => hol_ne _ _ _ _ _ _ h1 h2 h3 h4
  have e4 : ∀ u, (hol G v k x c r).1 4 u = if u = v then G.1 4 v + 1 else G.1 4 u := fun u => by
    simp [hol, gN_1, gV_1]
  have e29 : (hol G v k x c r).2 29 = G.2 29 := hol_n2 _ _ _ _ _ _ (by decide)
  obtain ⟨hO, hA, hN, hC, hJ⟩ := h
  generalize hol G v k x c r = G' at *
  have n0 := ne 0 (by decide) (by decide) (by decide) (by decide)
  have n1 := ne 1 (by decide) (by decide) (by decide) (by decide)
  have n2 := ne 2 (by decide) (by decide) (by decide) (by decide)
  have n3 := ne 3 (by decide) (by decide) (by decide) (by decide)
  have n5 := ne 5 (by decide) (by decide) (by decide) (by decide)
  have n7 := ne 7 (by decide) (by decide) (by decide) (by decide)
  have n8 := ne 8 (by decide) (by decide) (by decide) (by decide)
  refine ⟨hO', hA.c n0 n1 n2 n3 n7 n8, ⟨fun u hu => ?_, fun u => ?_, fun u w h1 huw => ?_⟩, ?_, ?_⟩
  · rw [n2] at hu
    have huv : u ≠ v := fun z => hu (z ▸ hr)
    rw [n5, e4, if_neg huv]
    exact hN.1 u hu
  · rw [n5, e4]
    have := hN.2.1 u
    split
    · rename_i hu; rw [hu] at this ⊢; omega
    · exact this
  · rw [n1] at h1
    have := hN.2.2 u w h1 huw
    rw [e4, e4]
    by_cases hw : w = v
    · subst hw
      rw [if_pos rfl, if_neg (by omega)]
      exact hM u h1 huw
    · rw [if_neg hw]
      split
      · rename_i hu; subst hu; omega
      · exact this
  · unfold JC at hC ⊢
    rw [e29, ne 13 (by decide) (by decide) (by decide) (by decide), ne 17 (by decide) (by decide) (by decide) (by decide)]
    exact hC
  · have hs : MS G' = MS G := MS_c (fun j h1 h2 => ne j (by omega) (by omega) (by omega) (by omega))
    refine hJ.same (hs ▸ List.Sublist.refl _) n0 n1 n3 n7 (fun u hu => by rw [n2]; exact hu) (fun y => by rw [e4]; split <;> rename_i hy <;> first | (rw [hy]; omega) | exact Nat.le_refl _) (fun m hm hk y h1 h2 => ?_) (fun m _ _ h3 => ⟨by rw [ne 13 (by decide) (by decide) (by decide) (by decide)]; exact h3, by rw [ne 17 (by decide) (by decide) (by decide) (by decide)]⟩)
    rw [hs] at hm
    rw [e4]
    split
    · rename_i hy; subst hy
      exact hT m hm hk h1 h2
    · exact ((hJ.1 m hm).2.2.2.1 hk).2.2 y h1 h2
theorem KI.k_tak {G : GS} (h : KI G) {v k c r : Nat} {x : Int32} (hl : G.1 1 v = 1) (hr : G.1 2 v = 1) (hk : k ≤ 3) (hc : c ≤ 2) (hr6 : r ≤ 600) (h100 : G.1 4 v + 1 ≤ 100) (hcn : G.1 20 0 + 1 ≤ 1399) (hT : ∀ m ∈ MS G, mK m = 1 ∨ mK m = 5 → mF m < v → v ≤ mT m → G.1 4 v + 1 + dU (mK m) ≤ mA m) (hM : ∀ u, G.1 1 u = 1 → u < v → G.1 4 v + 1 ≤ G.1 4 u) : KI (tak G v k x c r) := by
  have h1 := h.k_hol (x := x) hr hk hc hr6 h100 hT hM
  have hv := h.2.1.mk hl
  have hv5 : v ≤ 5 := by have := h.2.1.m6 hv; omega
  have ne : ∀ j, j ≠ 4 → j ≠ 9 → j ≠ 11 → j ≠ 12 → (hol G v k x c r).1 j = G.1 j := fun j h1 h2 h3 h4 => hol_ne _ _ _ _ _ _ h1 h2 h3 h4
  have e4 := hol_4 G v k x c r
  have e4n : ∀ u, u ≠ v → (hol G v k x c r).1 4 u = G.1 4 u := fun u hu => by
    simp [hol, gN_1, gV_1, hu]
  have n0 := ne 0 (by decide) (by decide) (by decide) (by decide)
  have n1 := ne 1 (by decide) (by decide) (by decide) (by decide)
  have n2 := ne 2 (by decide) (by decide) (by decide) (by decide)
  have n3 := ne 3 (by decide) (by decide) (by decide) (by decide)
  have n20 := ne 20 (by decide) (by decide) (by decide) (by decide)
  have hs : MS (hol G v k x c r) = MS G := MS_c (fun j h1 h2 => ne j (by omega) (by omega) (by omega) (by omega))
  unfold tak
  generalize hol G v k x c r = G1 at *
  have hv1 : v < G1.1 0 0 := by rw [n0]; exact hv
  have hr1 : G1.1 2 v = 1 := by rw [n2]; exact hr
  unfold tol
  split
  · have h2 := h1.k_stl hr1
    have sn : ∀ j, j ≠ 13 → j ≠ 18 → j ≠ 5 → (stl G1 v).1 j = G1.1 j := fun j h1 h2 h3 => stl_ne _ _ h1 h2 h3
    have hp : prd (stl G1 v) v = prd G1 v := prd_c (sn 7 (by decide) (by decide) (by decide)) (sn 3 (by decide) (by decide) (by decide)) v
    rw [← hp]
    refine h2.ack (by rw [sn 0 (by decide) (by decide) (by decide)]; exact hv1) (fun y hy hy1 => ?_) (h1.1 4 v) (by rw [sn 20 (by decide) (by decide) (by decide), n20]; exact hcn)
    rw [hp] at hy
    rw [sn 1 (by decide) (by decide) (by decide)] at hy1
    rw [sn 4 (by decide) (by decide) (by decide)]
    exact h1.prdl hv1 hy hy1
  · refine h1.k_snd hv5 (fun y hy => suc_le hy) (by decide) (h1.1 4 v) (by decide) (by rw [n20]; exact hcn) (fun y hy hy1 hy3 => ⟨⟨⟨by show 1 ≤ 1; decide, by show 1 ≤ 5; decide⟩, ⟨hv1, h1.2.1.mk hy1, hy1⟩, ⟨hy3, Nat.le_refl _⟩, fun _ => ⟨⟨hy, (h1.2.1.2.2.1 v hv1).2.2, hr1⟩, ⟨Nat.le_refl _, Nat.zero_le _⟩, fun z hz1 hz2 => ?_⟩, fun z => absurd (show 1 = 2 from z) (by decide), fun z => absurd (show 1 = 3 from z) (by decide), fun z => absurd (show 1 = 4 from z) (by decide), fun z => absurd (show 1 = 3 from z) (by decide)⟩, fun m hm => ⟨fun hk1 _ hf ht => ?_, fun z => cur_no (m := (v, y, 1, G1.1 3 v, G1.1 4 v, 0)) (by show ¬ 1 = 3; decide) (by show ¬ 1 = 4; decide) z.2.1⟩⟩)
    · show G1.1 4 z + 1 ≤ G1.1 4 v
      have hz1' : v < z := hz1
      rw [e4n z (by omega), e4]
      have := h.2.2.1.2.2 v z hl hz1'
      omega
    · rw [hs] at hm
      have := ((h.2.2.2.2.1 m hm).2.2.2.1 hk1).2.1.1
      have hf' : mF m = v := hf
      rw [hf'] at this
      show mA m + 1 ≤ G1.1 4 v
      rw [e4]
      omega
theorem KI.k_tel {G : GS} (h : KI G) {v : Nat} (hl : G.1 1 v = 1) (hr : G.1 2 v = 1) (hcn : G.1 20 0 + 2 ≤ 1399) : KI (tel G v) := by
  have hv := h.2.1.mk hl
  have hv5 : v ≤ 5 := by have := h.2.1.m6 hv; omega
  unfold tel
  split
  · have h2 := h.k_stl hr
    have sn : ∀ j, j ≠ 13 → j ≠ 18 → j ≠ 5 → (stl G v).1 j = G.1 j := fun j h1 h2 h3 => stl_ne _ _ h1 h2 h3
    have hp : prd (stl G v) v = prd G v := prd_c (sn 7 (by decide) (by decide) (by decide)) (sn 3 (by decide) (by decide) (by decide)) v
    rw [← hp]
    refine h2.ack (by rw [sn 0 (by decide) (by decide) (by decide)]; exact hv) (fun y hy hy1 => ?_) (h.1 4 v) (by rw [sn 20 (by decide) (by decide) (by decide)]; omega)
    rw [hp] at hy
    rw [sn 1 (by decide) (by decide) (by decide)] at hy1
    rw [sn 4 (by decide) (by decide) (by decide)]
    exact h.prdl hv hy hy1
  · have h1 : KI (snd G v (suc G v) 5 (G.1 4 v) (G.1 5 v)) := by
      refine h.k_snd hv5 (fun y hy => suc_le hy) (by decide) (h.1 4 v) (h.1 5 v) (by omega) (fun y hy hy1 hy3 => ⟨⟨⟨by show 1 ≤ 5; decide, by show 5 ≤ 5; decide⟩, ⟨hv, h.2.1.mk hy1, hy1⟩, ⟨hy3, Nat.le_refl _⟩, fun _ => ⟨⟨hy, (h.2.1.2.2.1 v hv).2.2, hr⟩, ⟨Nat.le_refl _, h.2.2.1.2.1 v⟩, fun z hz1 hz2 => h.2.2.1.2.2 v z hl hz1⟩, fun z => absurd (show 5 = 2 from z) (by decide), fun z => absurd (show 5 = 3 from z) (by decide), fun z => absurd (show 5 = 4 from z) (by decide), fun z => absurd (show 5 = 3 from z) (by decide)⟩, fun m hm => ⟨fun hk1 _ hf ht => ?_, fun z => cur_no (m := (v, y, 5, G.1 3 v, G.1 4 v, G.1 5 v)) (by show ¬ 5 = 3; decide) (by show ¬ 5 = 4; decide) z.2.1⟩⟩)
      have := ((h.2.2.2.2.1 m hm).2.2.2.1 hk1).2.1.1
      have hf' : mF m = v := hf
      rw [hf'] at this
      exact this
    have sn : ∀ j, j < 20 ∨ 26 < j → (snd G v (suc G v) 5 (G.1 4 v) (G.1 5 v)).1 j = G.1 j := fun j hj => snd_ne _ _ _ _ _ _ hj
    have s20 := (snd_20 G v (suc G v) 5 (G.1 4 v) (G.1 5 v)).2
    have hp : prd (snd G v (suc G v) 5 (G.1 4 v) (G.1 5 v)) v = prd G v := prd_c (sn 7 (by decide)) (sn 3 (by decide)) v
    rw [← hp]
    refine h1.ack (by rw [sn 0 (by decide)]; exact hv) (fun y hy hy1 => ?_) (h.1 5 v) (by omega)
    rw [hp] at hy
    rw [sn 1 (by decide)] at hy1
    rw [sn 4 (by decide)]
    exact Nat.le_trans (h.2.2.1.2.1 v) (h.prdl hv hy hy1)
theorem KI.k_stk {G : GS} (h : KI G) {m : Nat} (hm : m < G.1 20 0) : KI (stk G m) := by
  have ne : ∀ j, j < 20 ∨ 26 < j → (stk G m).1 j = G.1 j := fun j hj => stk_ne G m hj
  have hs := MS_stk_sub hm
  obtain ⟨hO, hA, hN, hC, hM⟩ := h
  refine ⟨ok_stk hO, hA.c (ne 0 (by decide)) (ne 1 (by decide)) (ne 2 (by decide)) (ne 3 (by decide)) (ne 7 (by decide)) (ne 8 (by decide)), hN.c (ne 1 (by decide)) (ne 2 (by decide)) (ne 4 (by decide)) (ne 5 (by decide)), ?_, ?_⟩
  · unfold JC at hC ⊢
    rw [ne 13 (by decide), ne 17 (by decide)]
    exact hC
  · exact hM.same hs (ne 0 (by decide)) (ne 1 (by decide)) (ne 3 (by decide)) (ne 7 (by decide)) (fun v hv => by rw [ne 2 (by decide)]; exact hv) (fun x => by rw [ne 4 (by decide)]; exact Nat.le_refl _) (fun m' hm' => (hM.1 m' (hs.subset hm')).b4 (ne 4 (by decide))) (fun m' _ _ h3 => ⟨by rw [ne 13 (by decide)]; exact h3, by rw [ne 17 (by decide)]⟩)
