/-! deliver, stop, join, tick, adopt keep the invariant; the start -/
theorem cpF_fr {v u : Nat} : ∀ (n i : Nat) (G : GS), (∀ j, j ≠ 4 → j ≠ 9 → j ≠ 11 → j ≠ 12 → j ≠ 13 → j ≠ 18 → j ≠ 5 → j < 20 ∨ 26 < j → (cpF v u n i G).1 j = G.1 j) ∧ (∀ x, G.1 4 x ≤ (cpF v u n i G).1 4 x) ∧ (cpF v u n i G).1 4 v = G.1 4 v + n ∧ (cpF v u n i G).1 20 0 ≤ G.1 20 0 + n
  | 0, _, _ => ⟨fun _ _ _ _ _ _ _ _ _ => rfl, fun _ => Nat.le_refl _, rfl, Nat.le_refl _⟩
  | n + 1, i, G => by
    rw [cpF]
    obtain ⟨a, b, c, d⟩ := cpF_fr (v := v) (u := u) n (i + 1) (takF G v u i)
    have t4 := takF_4 G v u i
    have t20 := (takF_20 G v u i).2
    refine ⟨fun j h4 h9 h11 h12 h13 h18 h5 hj => (a j h4 h9 h11 h12 h13 h18 h5 hj).trans (tak_ne _ _ _ _ _ _ h4 h9 h11 h12 h13 h18 h5 hj), fun x => Nat.le_trans (tak_4a _ _ _ _ _ _ _) (b x), by omega, by omega⟩
theorem act_fr {G : GS} {w v k a b : Nat} (hk : 1 ≤ k ∧ k ≤ 5) : (∀ j, j ≠ 4 → j ≠ 9 → j ≠ 11 → j ≠ 12 → j ≠ 13 → j ≠ 18 → j ≠ 5 → j < 20 ∨ 26 < j → (act G w v k a b).1 j = G.1 j) ∧ (∀ x, G.1 4 x ≤ (act G w v k a b).1 4 x) ∧ (act G w v k a b).1 20 0 ≤ G.1 20 0 + 1 + (if k = 5 then a - G.1 4 w else 0) ∧ (k = 5 → (act G w v k a b).1 4 w = G.1 4 w + (a - G.1 4 w)) := by
  unfold act
  by_cases k1 : k = 1
  · rw [if_pos k1]
    refine ⟨fun j h4 h9 h11 h12 h13 h18 h5 hj => tak_ne _ _ _ _ _ _ h4 h9 h11 h12 h13 h18 h5 hj, fun x => tak_4a _ _ _ _ _ _ _, ?_, fun z => by omega⟩
    have := (takF_20 G w v a).2
    omega
  · rw [if_neg k1]
    by_cases k2 : k = 2
    · rw [if_pos k2]
      split
      · refine ⟨fun j h4 h9 h11 h12 h13 h18 h5 hj => by rw [snd_ne _ _ _ _ _ _ hj, gN_ne _ h5], fun x => by rw [snd_ne _ _ _ _ _ _ (by decide), gN_ne _ (by decide)]; exact Nat.le_refl _, ?_, fun z => by omega⟩
        have := (snd_20 (gN G 5 w a) w (prd G w) 2 a 0).2
        rw [gN_ne _ (by decide)] at this
        omega
      · exact ⟨fun _ _ _ _ _ _ _ _ _ => rfl, fun _ => Nat.le_refl _, by omega, fun z => by omega⟩
    · rw [if_neg k2]
      by_cases k3 : k = 3
      · rw [if_pos k3]
        refine ⟨fun j h4 h9 h11 h12 h13 h18 h5 hj => snd_ne _ _ _ _ _ _ hj, fun x => by rw [snd_ne _ _ _ _ _ _ (by decide)]; exact Nat.le_refl _, ?_, fun z => by omega⟩
        have := (snd_20 G w (some v) 4 (clN G w a) b).2
        omega
      · rw [if_neg k3]
        by_cases k4 : k = 4
        · rw [if_pos k4]
          have ne : ∀ j, j ≠ 13 → j ≠ 18 → (ans G w a b).1 j = G.1 j := fun j h1 h2 => by unfold ans don; rw [gV_1, gN_ne _ h2, gN_ne _ h1]
          refine ⟨fun j h4 h9 h11 h12 h13 h18 h5 hj => ne j h13 h18, fun x => by rw [ne 4 (by decide) (by decide)]; exact Nat.le_refl _, ?_, fun z => by omega⟩
          rw [ne 20 (by decide) (by decide)]
          omega
        · rw [if_neg k4]
          have k5 : k = 5 := by omega
          rw [if_pos k5]
          obtain ⟨a1, a2, a3, a4⟩ := cpF_fr (v := w) (u := v) (a - G.1 4 w) (G.1 4 w + 1) G
          exact ⟨a1, a2, by omega, fun _ => a3⟩
theorem arv_fr {G : GS} {w u a b : Nat} : (∀ j, j ≠ 2 → j ≠ 4 → j ≠ 9 → j ≠ 11 → j ≠ 12 → j ≠ 13 → j ≠ 18 → j ≠ 5 → j < 20 ∨ 26 < j → (arv G w u a b).1 j = G.1 j) ∧ (∀ x, (arv G w u a b).1 4 x = if x = w then a else G.1 4 x) ∧ (arv G w u a b).1 20 0 ≤ G.1 20 0 + 2 := by
  unfold arv
  refine ⟨fun j h2 h4 h9 h11 h12 h13 h18 h5 hj => by rw [tel_ne _ _ h13 h18 h5 hj, gN_ne _ h2, gN_ne _ h5, gN_ne _ h4, cpL_ne _ _ _ h9 h11 h12], fun x => ?_, ?_⟩
  · rw [tel_ne _ _ (by decide) (by decide) (by decide) (by decide), gN_ne _ (by decide), gN_ne _ (by decide), gN_1, cpL_ne _ _ _ (by decide) (by decide) (by decide)]
    by_cases hx : x = w
    · rw [if_pos ⟨rfl, hx⟩, if_pos hx]
    · rw [if_neg (fun z => hx z.2), if_neg hx]
  · have := (tel_20 (gN (gN (gN (cpL w u a 1 G) 4 w a) 5 w b) 2 w 1) w).2
    rw [gN_ne _ (by decide), gN_ne _ (by decide), gN_ne _ (by decide), cpL_ne _ _ _ (by decide) (by decide) (by decide)] at this
    exact this
/-- what the first message on a link tells -/
theorem INV.fst {k : Nat} {G : GS} (h : INV k G) {v w m : Nat} (hf : frs G v w = some m) : m < G.1 20 0 ∧ (1 ≤ G.1 23 m ∧ G.1 23 m ≤ 5) ∧ (v < G.1 0 0 ∧ w < G.1 0 0 ∧ G.1 1 w = 1) ∧ G.1 3 w ≤ G.1 24 m ∧ (G.1 23 m = 1 ∨ G.1 23 m = 5 → G.1 25 m ≤ G.1 4 v ∧ G.1 26 m ≤ G.1 25 m ∧ G.1 4 w + dU (G.1 23 m) ≤ G.1 25 m) ∧ (G.1 23 m = 2 → G.1 25 m ≤ G.1 4 w) ∧ (G.1 23 m = 3 → G.1 25 m ≤ 3) ∧ (G.1 23 m = 4 → G.1 26 m ≤ 2 ∧ G.1 13 (G.1 26 m) = 3 ∧ G.2 29 (G.1 26 m) = nI w) := by
  obtain ⟨hi, e1, e2⟩ := frs_lt hf
  have hm0 := h.1.2.2.2.2.1 _ (MS_in hi)
  have f0 : mF (msAt G m) = v := e1
  have t0 : mT (msAt G m) = w := e2
  obtain ⟨k15, ⟨a1, a2, a3⟩, ⟨b1, b2⟩, hu, hack, hq, hans, hcq⟩ := hm0
  rw [f0] at a1
  rw [t0] at a2 a3 b1
  refine ⟨hi, k15, ⟨a1, a2, a3⟩, b1, fun hk => ?_, fun hk => by have := hack hk; rw [t0] at this; exact this, fun hk => (hq hk).1, fun hk => ?_⟩
  · obtain ⟨⟨u1, u2, u3⟩, ⟨u4, u5⟩, u6⟩ := hu hk
    obtain ⟨s1, -⟩ := suc_sp h.1.1 (by rw [f0]; exact h.1.2.1.m6 a1) u1
    have h2 := u6 (mT (msAt G m)) s1 (Nat.le_refl _)
    rw [t0] at h2
    rw [f0] at u4
    exact ⟨u4, u5, h2⟩
  · obtain ⟨g1, g2, g3, g4⟩ := hans hk
    refine ⟨g1, g3, ?_⟩
    have hb : G.1 26 m < 3 := by have : mB (msAt G m) ≤ 2 := g1; exact Nat.lt_succ_of_le this
    have := h.1.2.2.2.1 (G.1 26 m) hb g3
    rw [this]
    rw [show G.1 17 (G.1 26 m) = w from g4.trans t0]
theorem INV.dlx {k : Nat} {G : GS} (h : INV k G) (hk : k ≤ 511) (v w : Nat) : dlX G v w ∧ dlvOK G v w := by
  have c0 := h.c0
  refine ⟨fun m hf => ?_, fun m hf => ?_⟩
  · obtain ⟨hi, k15, ⟨a1, a2, a3⟩, b1, hu, hack, hq, hans⟩ := h.fst hf
    have hb4 : G.1 4 v ≤ 100 := h.1.1 4 v
    have hb25 : G.1 25 m ≤ 100 := h.1.1 25 m
    have hcnt := h.cnt (w := w) (A := G.1 25 m) (h.1.2.1.m6 a2) hb25
    refine ⟨k15, ⟨a3, a2, b1, a1⟩, fun he => ⟨fun hr => ⟨fun h1 => ?_, hack, hq, fun h4 => ?_, fun h5 => ?_⟩, fun hr h5 => ?_⟩⟩
    · obtain ⟨x1, x2, x3⟩ := hu (Or.inl h1)
      rw [h1] at x3
      have hd : dU 1 = 1 := rfl
      exact ⟨⟨by omega, x1⟩, by omega⟩
    · obtain ⟨x1, x2, x3⟩ := hans h4
      exact ⟨by omega, hb25, x2, x3⟩
    · exact ⟨(hu (Or.inr h5)).1, by omega⟩
    · obtain ⟨x1, x2, x3⟩ := hu (Or.inr h5)
      exact ⟨x1, (h.1.2.2.1.1 w (by omega)).1, x2, by omega⟩
  · obtain ⟨hi, k15, ⟨a1, a2, a3⟩, b1, hu, hack, hq, hans⟩ := h.fst hf
    have hb4 : G.1 4 v ≤ 100 := h.1.1 4 v
    have hb25 : G.1 25 m ≤ 100 := h.1.1 25 m
    have hcnt := h.cnt (w := w) (A := G.1 25 m) (h.1.2.1.m6 a2) hb25
    refine ⟨k15, by omega, fun he => ⟨fun h1 => ?_, hq, fun h4 => (hans h4).1, fun h5 => by omega⟩⟩
    obtain ⟨x1, x2, x3⟩ := hu (Or.inl h1)
    rw [h1] at x3
    have hd : dU 1 = 1 := rfl
    omega
theorem NX.dlv {k : Nat} {G : GS} (h : INV k G) (hk : k ≤ 511) (v w : Nat) : NX k G (dlvN G v w).2 ∧ sm G 4 + dlN G v w ≤ sm (dlvN G v w).2 4 := by
  have c0 := h.c0
  cases hf : frs G v w with
  | none =>
    have e1 : (dlvN G v w).2 = G := by rw [dlvN, hf]
    have e2 : dlN G v w = 0 := by rw [dlN, hf]
    rw [e1, e2]; exact ⟨NX.same h, Nat.le_refl _⟩
  | some m =>
    obtain ⟨hi, k15, ⟨a1, a2, a3⟩, b1, hu, hack, hq, hans⟩ := h.fst hf
    have hw6 := h.1.2.1.m6 a2
    have hb4 : G.1 4 v ≤ 100 := h.1.1 4 v
    have hb25 : G.1 25 m ≤ 100 := h.1.1 25 m
    have hb2 : G.1 2 w ≤ 1 := h.1.1 2 w
    have hcnt := h.cnt (w := w) (A := G.1 25 m) hw6 hb25
    have s20 := stk_20 G m
    have ne : ∀ j, j < 20 ∨ 26 < j → (stk G m).1 j = G.1 j := fun j hj => stk_ne G m hj
    have e1 : (dlvN G v w).2 = (if G.1 3 w < G.1 24 m ∨ (G.1 24 m = G.1 3 w ∧ G.1 2 w = 0 ∧ G.1 23 m ≠ 5) then ((-2 : Int32), G) else (nI (G.1 23 m), if G.1 24 m = G.1 3 w then (if G.1 2 w = 1 then act (stk G m) w v (G.1 23 m) (G.1 25 m) (G.1 26 m) else arv (stk G m) w v (G.1 25 m) (G.1 26 m)) else stk G m)).2 := by rw [dlvN, hf]
    have e2 : dlN G v w = if G.1 23 m = 5 ∧ G.1 24 m = G.1 3 w then G.1 25 m - G.1 4 w else 0 := by rw [dlN, hf]
    rw [e1, e2]
    by_cases hb : G.1 3 w < G.1 24 m ∨ (G.1 24 m = G.1 3 w ∧ G.1 2 w = 0 ∧ G.1 23 m ≠ 5)
    · rw [if_pos hb, if_neg (by omega)]
      exact ⟨NX.same h, Nat.le_refl _⟩
    · rw [if_neg hb]
      have he : G.1 24 m = G.1 3 w := by omega
      have h14 : ∀ d, G.1 14 d ≤ k + 1 := fun d => Nat.le_succ_of_le (h.2.1.2.2.2.2.2 d)
      simp only [if_pos he]
      by_cases hr : G.1 2 w = 1
      · rw [if_pos hr]
        obtain ⟨f1, f2, f3, f4⟩ := act_fr (G := stk G m) (w := w) (v := v) (k := G.1 23 m) (a := G.1 25 m) (b := G.1 26 m) k15
        rw [ne 4 (by decide)] at f2 f3 f4
        have hfn : ∀ j, j ≠ 4 → j ≠ 9 → j ≠ 11 → j ≠ 12 → j ≠ 13 → j ≠ 18 → j ≠ 5 → j < 20 ∨ 26 < j → (act (stk G m) w v (G.1 23 m) (G.1 25 m) (G.1 26 m)).1 j = G.1 j := fun j h4 h9 h11 h12 h13 h18 h5 hj => (f1 j h4 h9 h11 h12 h13 h18 h5 hj).trans (ne j hj)
        have hsm : sm G 4 + (if G.1 23 m = 5 then G.1 25 m - G.1 4 w else 0) ≤ sm (act (stk G m) w v (G.1 23 m) (G.1 25 m) (G.1 26 m)) 4 := by
          split
          · rename_i h5
            exact sm_up hw6 f2 (by rw [f4 h5]; exact Nat.le_refl _)
          · exact sm_le f2
        have hK : KI (act (stk G m) w v (G.1 23 m) (G.1 25 m) (G.1 26 m)) := h.1.k_act hf he hr (by omega)
        generalize act (stk G m) w v (G.1 23 m) (G.1 25 m) (G.1 26 m) = G' at *
        refine ⟨NX.of h hK (fun j hj => ?_) (fun d => by rw [hfn 14 (by decide) (by decide) (by decide) (by decide) (by decide) (by decide) (by decide) (by decide)]; exact h14 d) f2 hsm (by omega), ?_⟩
        · rcases hj with rfl | rfl | rfl | rfl | rfl | rfl | rfl | rfl
          all_goals exact hfn _ (by decide) (by decide) (by decide) (by decide) (by decide) (by decide) (by decide) (by decide)
        · by_cases h5 : G.1 23 m = 5
          · rw [if_pos ⟨h5, he⟩]
            rw [if_pos h5] at hsm
            exact hsm
          · rw [if_neg (fun z => h5 z.1)]
            rw [if_neg h5] at hsm
            exact hsm
      · rw [if_neg hr]
        have h5 : G.1 23 m = 5 := by omega
        have hl0 : G.1 4 w = 0 := (h.1.2.2.1.1 w hr).1
        obtain ⟨f1, f2, f3⟩ := arv_fr (G := stk G m) (w := w) (u := v) (a := G.1 25 m) (b := G.1 26 m)
        rw [ne 4 (by decide)] at f2
        have hfn : ∀ j, j ≠ 2 → j ≠ 4 → j ≠ 9 → j ≠ 11 → j ≠ 12 → j ≠ 13 → j ≠ 18 → j ≠ 5 → j < 20 ∨ 26 < j → (arv (stk G m) w v (G.1 25 m) (G.1 26 m)).1 j = G.1 j := fun j h2 h4 h9 h11 h12 h13 h18 h5 hj => (f1 j h2 h4 h9 h11 h12 h13 h18 h5 hj).trans (ne j hj)
        have hK : KI (arv (stk G m) w v (G.1 25 m) (G.1 26 m)) := h.1.k_arv hf he (by omega) h5 (by omega)
        have f2' : ∀ x, G.1 4 x ≤ (arv (stk G m) w v (G.1 25 m) (G.1 26 m)).1 4 x := fun x => by
          rw [f2]
          split
          · rename_i hx; rw [hx, hl0]; exact Nat.zero_le _
          · exact Nat.le_refl _
        have hsm : sm G 4 + (G.1 25 m - G.1 4 w) ≤ sm (arv (stk G m) w v (G.1 25 m) (G.1 26 m)) 4 := sm_up hw6 f2' (by rw [f2, if_pos rfl]; omega)
        generalize arv (stk G m) w v (G.1 25 m) (G.1 26 m) = G' at *
        refine ⟨NX.of h hK (fun j hj => ?_) (fun d => by rw [hfn 14 (by decide) (by decide) (by decide) (by decide) (by decide) (by decide) (by decide) (by decide) (by decide)]; exact h14 d) f2' hsm (by omega), ?_⟩
        · rcases hj with rfl | rfl | rfl | rfl | rfl | rfl | rfl | rfl
          all_goals exact hfn _ (by decide) (by decide) (by decide) (by decide) (by decide) (by decide) (by decide) (by decide) (by decide)
        · rw [if_pos ⟨h5, he⟩]
          exact hsm
theorem otN_ex {G : GS} {v : Nat} : ∀ n, otN G v n = true → ∃ u, u ≠ v ∧ G.1 1 u = 1 ∧ G.1 2 u = 1
  | 0, h => by cases h
  | n + 1, h => by
    rw [otN] at h
    rcases Bool.or_eq_true_iff.mp h with a | a
    · exact otN_ex n a
    · simp at a
      exact ⟨n, a.1, a.2.1, a.2.2⟩
theorem NX.stp {k : Nat} {G : GS} (h : INV k G) (v : Int32) : NX k G (stpF G v).2 := by
  unfold stpF
  by_cases hb : (inN v 5 && G.1 1 (ix v) == 1) = true
  · rw [if_pos hb]
    by_cases ho : otN G (ix v) 6 = true
    · rw [if_pos ho]
      have hl : G.1 1 (ix v) = 1 := by simpa using (Bool.and_eq_true_iff.mp hb).2
      generalize ix v = v1 at *
      have hK := h.1.k_stp (otN_ex 6 ho)
      have hv := h.1.2.1.mk hl
      have ne : ∀ j, j ≠ 1 → j ≠ 28 → j < 20 ∨ 26 < j → (los (gN (gN G 1 v1 0) 28 v1 (G.1 27 0)) v1 (G.1 8 0 + 1)).1 j = G.1 j := fun j h1 h28 hj => by rw [los_ne _ _ _ hj, gN_ne _ h28, gN_ne _ h1]
      have e1 : ∀ u, (los (gN (gN G 1 v1 0) 28 v1 (G.1 27 0)) v1 (G.1 8 0 + 1)).1 1 u = if u = v1 then 0 else G.1 1 u := fun u => by
        rw [los_ne _ _ _ (by decide), gN_ne _ (by decide), gN_1]
        by_cases hu : u = v1
        · rw [if_pos ⟨rfl, hu⟩, if_pos hu]
        · rw [if_neg (fun z => hu z.2), if_neg hu]
      have e28 : ∀ u, (los (gN (gN G 1 v1 0) 28 v1 (G.1 27 0)) v1 (G.1 8 0 + 1)).1 28 u = if u = v1 then G.1 27 0 else G.1 28 u := fun u => by
        rw [los_ne _ _ _ (by decide), gN_1]
        by_cases hu : u = v1
        · rw [if_pos ⟨rfl, hu⟩, if_pos hu]
        · rw [if_neg (fun z => hu z.2), if_neg hu, gN_ne _ (by decide)]
      have e20 : (los (gN (gN G 1 v1 0) 28 v1 (G.1 27 0)) v1 (G.1 8 0 + 1)).1 20 0 ≤ G.1 20 0 := by
        have := los_20 (gN (gN G 1 v1 0) 28 v1 (G.1 27 0)) v1 (G.1 8 0 + 1)
        rw [gN_ne _ (by decide), gN_ne _ (by decide)] at this
        exact this
      show NX k G (los (gN (gN G 1 v1 0) 28 v1 (G.1 27 0)) v1 (G.1 8 0 + 1))
      generalize los (gN (gN G 1 v1 0) 28 v1 (G.1 27 0)) v1 (G.1 8 0 + 1) = G' at *
      have n4 := ne 4 (by decide) (by decide) (by decide)
      refine ⟨⟨hK, ?_, ?_⟩, by rw [sm_c n4]; exact Nat.le_refl _⟩
      · obtain ⟨a, b, c, d, e, f⟩ := h.2.1
        unfold JT isIn
        rw [ne 0 (by decide) (by decide) (by decide), ne 6 (by decide) (by decide) (by decide), ne 7 (by decide) (by decide) (by decide), ne 8 (by decide) (by decide) (by decide), ne 27 (by decide) (by decide) (by decide), ne 3 (by decide) (by decide) (by decide), ne 14 (by decide) (by decide) (by decide)]
        refine ⟨fun w hi h1 => ?_, fun w hw => ?_, c, by omega, fun w hw => ⟨?_, (e w hw).2⟩, fun c' => Nat.le_succ_of_le (f c')⟩
        · rw [e28]
          by_cases hwv : w = v1
          · rw [if_pos hwv, hwv, b v1 (Or.inl hl)]
            omega
          · rw [if_neg hwv]
            rw [e1, if_neg hwv] at h1
            exact a w hi h1
        · rcases hw with hw | hw
          · rw [e1] at hw
            by_cases hwv : w = v1
            · rw [if_pos hwv] at hw; cases hw
            · rw [if_neg hwv] at hw; exact b w (Or.inl hw)
          · exact b w (Or.inr hw)
        · rw [e28, if_neg (by omega)]; exact (e w hw).1
      · have hB := h.2.2
        unfold JB at hB ⊢
        rw [sm_c n4, sm_c (ne 3 (by decide) (by decide) (by decide))]
        omega
    · rw [if_neg ho]; exact NX.same h
  · rw [if_neg hb]; exact NX.same h
theorem NX.jn {k : Nat} {G : GS} (h : INV k G) : NX k G (jnF G).2 := by
  by_cases h6 : G.1 0 0 = 6
  · rw [show (jnF G).2 = G from by rw [jnF, if_pos h6]]
    exact NX.same h
  · have hK := h.1.k_jn h6
    rw [show (jnF G).2 = gN (gN (gN (gN (gN G 0 0 (G.1 0 0 + 1)) 8 0 (G.1 8 0 + 1)) 7 (G.1 8 0 + 1) (G.1 7 (G.1 8 0) ||| 1 <<< G.1 0 0)) 1 (G.1 0 0) 1) 3 (G.1 0 0) (G.1 8 0 + 1) from by rw [jnF, if_neg h6]] at hK ⊢
    have ne : ∀ j, j ≠ 0 → j ≠ 1 → j ≠ 3 → j ≠ 7 → j ≠ 8 → (gN (gN (gN (gN (gN G 0 0 (G.1 0 0 + 1)) 8 0 (G.1 8 0 + 1)) 7 (G.1 8 0 + 1) (G.1 7 (G.1 8 0) ||| 1 <<< G.1 0 0)) 1 (G.1 0 0) 1) 3 (G.1 0 0) (G.1 8 0 + 1)).1 j = G.1 j := fun j a0 a1 a3 a7 a8 => by rw [gN_ne _ a3, gN_ne _ a1, gN_ne _ a7, gN_ne _ a8, gN_ne _ a0]
    have e0 : (gN (gN (gN (gN (gN G 0 0 (G.1 0 0 + 1)) 8 0 (G.1 8 0 + 1)) 7 (G.1 8 0 + 1) (G.1 7 (G.1 8 0) ||| 1 <<< G.1 0 0)) 1 (G.1 0 0) 1) 3 (G.1 0 0) (G.1 8 0 + 1)).1 0 0 = G.1 0 0 + 1 := by rw [gN_ne _ (by decide), gN_ne _ (by decide), gN_ne _ (by decide), gN_ne _ (by decide), gN_eq]
    have e8 : (gN (gN (gN (gN (gN G 0 0 (G.1 0 0 + 1)) 8 0 (G.1 8 0 + 1)) 7 (G.1 8 0 + 1) (G.1 7 (G.1 8 0) ||| 1 <<< G.1 0 0)) 1 (G.1 0 0) 1) 3 (G.1 0 0) (G.1 8 0 + 1)).1 8 0 = G.1 8 0 + 1 := by rw [gN_ne _ (by decide), gN_ne _ (by decide), gN_ne _ (by decide), gN_eq]
    have e1 : ∀ u, (gN (gN (gN (gN (gN G 0 0 (G.1 0 0 + 1)) 8 0 (G.1 8 0 + 1)) 7 (G.1 8 0 + 1) (G.1 7 (G.1 8 0) ||| 1 <<< G.1 0 0)) 1 (G.1 0 0) 1) 3 (G.1 0 0) (G.1 8 0 + 1)).1 1 u = if u = G.1 0 0 then 1 else G.1 1 u := fun u => by
      rw [gN_ne _ (by decide), gN_1]
      by_cases hu : u = G.1 0 0
      · rw [if_pos ⟨rfl, hu⟩, if_pos hu]
      · rw [if_neg (fun z => hu z.2), if_neg hu, gN_ne _ (by decide), gN_ne _ (by decide), gN_ne _ (by decide)]
    have e3 : ∀ u, (gN (gN (gN (gN (gN G 0 0 (G.1 0 0 + 1)) 8 0 (G.1 8 0 + 1)) 7 (G.1 8 0 + 1) (G.1 7 (G.1 8 0) ||| 1 <<< G.1 0 0)) 1 (G.1 0 0) 1) 3 (G.1 0 0) (G.1 8 0 + 1)).1 3 u = if u = G.1 0 0 then G.1 8 0 + 1 else G.1 3 u := fun u => by
      rw [gN_1]
      by_cases hu : u = G.1 0 0
      · rw [if_pos ⟨rfl, hu⟩, if_pos hu]
      · rw [if_neg (fun z => hu z.2), if_neg hu, gN_ne _ (by decide), gN_ne _ (by decide), gN_ne _ (by decide), gN_ne _ (by decide)]
    have e7 : (gN (gN (gN (gN (gN G 0 0 (G.1 0 0 + 1)) 8 0 (G.1 8 0 + 1)) 7 (G.1 8 0 + 1) (G.1 7 (G.1 8 0) ||| 1 <<< G.1 0 0)) 1 (G.1 0 0) 1) 3 (G.1 0 0) (G.1 8 0 + 1)).1 7 (G.1 8 0 + 1) = G.1 7 (G.1 8 0) ||| 1 <<< G.1 0 0 := by rw [gN_ne _ (by decide), gN_ne _ (by decide), gN_eq]
    generalize gN (gN (gN (gN (gN G 0 0 (G.1 0 0 + 1)) 8 0 (G.1 8 0 + 1)) 7 (G.1 8 0 + 1) (G.1 7 (G.1 8 0) ||| 1 <<< G.1 0 0)) 1 (G.1 0 0) 1) 3 (G.1 0 0) (G.1 8 0 + 1) = G' at *
    have n4 := ne 4 (by decide) (by decide) (by decide) (by decide) (by decide)
    obtain ⟨a, b, c, d, e, f⟩ := h.2.1
    refine ⟨⟨hK, ?_, ?_⟩, by rw [sm_c n4]; exact Nat.le_refl _⟩
    · unfold JT
      rw [e0, e8, ne 6 (by decide) (by decide) (by decide) (by decide) (by decide), ne 27 (by decide) (by decide) (by decide) (by decide) (by decide), ne 28 (by decide) (by decide) (by decide) (by decide) (by decide), ne 14 (by decide) (by decide) (by decide) (by decide) (by decide)]
      refine ⟨fun w hi h1 => ?_, fun w hw => ?_, c, by omega, fun w hw => ⟨(e w (by omega)).1, ?_⟩, fun c' => Nat.le_succ_of_le (f c')⟩
      · rw [e1] at h1
        by_cases hwn : w = G.1 0 0
        · rw [if_pos hwn] at h1; cases h1
        · rw [if_neg hwn] at h1
          refine a w ?_ h1
          unfold isIn at hi ⊢
          rw [e7, Nat.testBit_or, Nat.one_shiftLeft, Nat.testBit_two_pow] at hi
          simp [show ¬ G.1 0 0 = w from fun z => hwn z.symm] at hi
          exact hi
      · rcases hw with hw | hw
        · rw [e1] at hw
          by_cases hwn : w = G.1 0 0
          · exact b w (Or.inr (by omega))
          · rw [if_neg hwn] at hw; exact b w (Or.inl hw)
        · exact b w (Or.inr (by omega))
      · rw [e3, if_neg (by omega)]; exact (e w (by omega)).2
    · have hB := h.2.2
      have h3 : sm G 3 ≤ sm G' 3 := sm_le (fun u => by
        rw [e3]
        split
        · rename_i hu; rw [(e u (by omega)).2]; exact Nat.zero_le _
        · exact Nat.le_refl _)
      unfold JB at hB ⊢
      rw [sm_c n4, ne 20 (by decide) (by decide) (by decide) (by decide) (by decide)]
      omega
theorem tcS_val (G : GS) (w : Nat) : ∀ n, (tcS n G).1 6 w = if w < n ∧ isIn G (G.1 8 0) w = true ∧ G.1 1 w = 0 then G.1 6 w + 1 else G.1 6 w
  | 0 => by rw [if_neg (by omega)]; rfl
  | n + 1 => by
    have ih := tcS_val G w n
    rw [tcS, tcS_isIn, tcS_ne G (by decide), tcS_ne G (by decide)]
    by_cases hn : isIn G (G.1 8 0) n = true ∧ G.1 1 n = 0
    · rw [if_pos hn, gN_1]
      by_cases hw : w = n
      · subst hw
        rw [if_pos ⟨rfl, rfl⟩, tcS_6 G w w (Nat.le_refl _), if_pos ⟨by omega, hn⟩]
      · rw [if_neg (fun z => hw z.2), ih]
        by_cases hc : w < n ∧ isIn G (G.1 8 0) w = true ∧ G.1 1 w = 0
        · rw [if_pos hc, if_pos ⟨by omega, hc.2⟩]
        · rw [if_neg hc, if_neg (fun z => hc ⟨by omega, z.2⟩)]
    · rw [if_neg hn, ih]
      by_cases hw : w = n
      · subst hw
        rw [if_neg (by omega), if_neg (fun z => hn z.2)]
      · by_cases hc : w < n ∧ isIn G (G.1 8 0) w = true ∧ G.1 1 w = 0
        · rw [if_pos hc, if_pos ⟨by omega, hc.2⟩]
        · rw [if_neg hc, if_neg (fun z => hc ⟨by omega, z.2⟩)]
theorem NX.tck {k : Nat} {G : GS} (h : INV k G) (hk : k ≤ 511) : NX k G (tckF G).2 := by
  obtain ⟨a, b, c, d, e, f⟩ := h.2.1
  have hK := h.1.k_tck a (by omega) (fun w => by have := c w; omega)
  have hA := h.1.2.1
  have v6 : ∀ w, (tcS 6 G).1 6 w = if w < 6 ∧ isIn G (G.1 8 0) w = true ∧ G.1 1 w = 0 then G.1 6 w + 1 else G.1 6 w := fun w => tcS_val G w 6
  have key : ∀ G', KI G' → (∀ j, j ≠ 6 → j ≠ 27 → j ≠ 7 → j ≠ 8 → G'.1 j = G.1 j) → (∀ w, G'.1 6 w = (tcS 6 G).1 6 w) → G'.1 27 0 = G.1 27 0 + 1 → (∀ w, isIn G' (G'.1 8 0) w = true → isIn G (G.1 8 0) w = true) → NX k G G' := fun G' hK ne e6 e27 hin => by
    have n4 := ne 4 (by decide) (by decide) (by decide) (by decide)
    have n1 := ne 1 (by decide) (by decide) (by decide) (by decide)
    have n0 := ne 0 (by decide) (by decide) (by decide) (by decide)
    refine ⟨⟨hK, ⟨fun w hi h1 => ?_, fun w hw => ?_, fun w => ?_, by omega, fun w hw => ?_, fun c' => ?_⟩, ?_⟩, by rw [sm_c n4]; exact Nat.le_refl _⟩
    · have hi' := hin w hi
      rw [n1] at h1
      rw [e6, v6, e27, ne 28 (by decide) (by decide) (by decide) (by decide)]
      have hw6 := hA.m6 (hA.2.2.2.2.1 _ w (Nat.le_refl _) hi')
      obtain ⟨p, q⟩ := a w hi' h1
      rw [if_pos ⟨hw6, hi', h1⟩]
      omega
    · rw [n0, n1] at hw
      rw [e6, v6]
      have hb := b w hw
      split
      · rename_i hh
        exfalso
        rcases hw with hw | hw
        · omega
        · have := hA.2.2.2.2.1 _ w (Nat.le_refl _) hh.2.1
          omega
      · exact hb
    · rw [e6, v6, e27]
      have := c w
      split <;> omega
    · rw [n0] at hw
      rw [ne 28 (by decide) (by decide) (by decide) (by decide), ne 3 (by decide) (by decide) (by decide) (by decide)]
      exact e w hw
    · rw [ne 14 (by decide) (by decide) (by decide) (by decide)]
      exact Nat.le_succ_of_le (f c')
    · have hB := h.2.2
      unfold JB at hB ⊢
      rw [sm_c n4, sm_c (ne 3 (by decide) (by decide) (by decide) (by decide)), ne 20 (by decide) (by decide) (by decide) (by decide)]
      omega
  by_cases hz : tcG G 6 = 0
  · have e1 : (tckF G).2 = gN (tcS 6 G) 27 0 (G.1 27 0 + 1) := by rw [tckF, if_pos hz]
    rw [e1] at hK ⊢
    refine key _ hK (fun j a b _ _ => by rw [gN_ne _ b, tcS_ne G a]) (fun w => by rw [gN_ne _ (by decide)]) (by rw [gN_eq]) (fun w hi => ?_)
    rw [isIn_c (G := G) (by rw [gN_ne _ (by decide), tcS_ne G (by decide)]), gN_ne _ (by decide), tcS_ne G (by decide)] at hi
    exact hi
  · have e1 : (tckF G).2 = gN (gN (gN (tcS 6 G) 27 0 (G.1 27 0 + 1)) 8 0 (G.1 8 0 + 1)) 7 (G.1 8 0 + 1) (G.1 7 (G.1 8 0) &&& (63 - tcG G 6)) := by rw [tckF, if_neg hz]
    rw [e1] at hK ⊢
    refine key _ hK (fun j a b c d => by rw [gN_ne _ c, gN_ne _ d, gN_ne _ b, tcS_ne G a]) (fun w => by rw [gN_ne _ (by decide), gN_ne _ (by decide), gN_ne _ (by decide)]) (by rw [gN_ne _ (by decide), gN_ne _ (by decide), gN_eq]) (fun w hi => ?_)
    unfold isIn at hi ⊢
    rw [show (gN (gN (gN (tcS 6 G) 27 0 (G.1 27 0 + 1)) 8 0 (G.1 8 0 + 1)) 7 (G.1 8 0 + 1) (G.1 7 (G.1 8 0) &&& (63 - tcG G 6))).1 8 0 = G.1 8 0 + 1 from by rw [gN_ne _ (by decide), gN_eq], gN_eq, Nat.testBit_and] at hi
    simp at hi
    exact hi.1
theorem NX.adp {k : Nat} {G : GS} (h : INV k G) (hk : k ≤ 511) (v : Int32) : NX k G (adpF G v).2 := by
  unfold adpF
  by_cases hb : (inN v 5 && (G.1 1 (ix v) == 1 && !(G.1 3 (ix v) == G.1 8 0))) = true
  · rw [if_pos hb]
    have hb2 := Bool.and_eq_true_iff.mp (Bool.and_eq_true_iff.mp hb).2
    have hl : G.1 1 (ix v) = 1 := by simpa using hb2.1
    have hne : ¬ G.1 3 (ix v) = G.1 8 0 := by simpa using hb2.2
    generalize ix v = v1 at *
    have c0 := h.c0
    have hv := h.1.2.1.mk hl
    have hv6 := h.1.2.1.m6 hv
    have hvw := h.1.2.1.2.2.1 v1 hv
    obtain ⟨K1, hcu⟩ := h.1.k_adp hl hne
    have ne : ∀ j, j ≠ 3 → j < 20 ∨ 26 < j → (los (gN G 3 v1 (G.1 8 0)) v1 (G.1 8 0)).1 j = G.1 j := fun j h3 hj => by rw [los_ne _ _ _ hj, gN_ne _ h3]
    have e3 : ∀ u, (los (gN G 3 v1 (G.1 8 0)) v1 (G.1 8 0)).1 3 u = if u = v1 then G.1 8 0 else G.1 3 u := fun u => by
      rw [los_ne _ _ _ (by decide), gN_1]
      by_cases hu : u = v1
      · rw [if_pos ⟨rfl, hu⟩, if_pos hu]
      · rw [if_neg (fun z => hu z.2), if_neg hu]
    have e20 : (los (gN G 3 v1 (G.1 8 0)) v1 (G.1 8 0)).1 20 0 ≤ G.1 20 0 := by
      have := los_20 (gN G 3 v1 (G.1 8 0)) v1 (G.1 8 0)
      rw [gN_ne _ (by decide)] at this
      exact this
    show NX k G (if G.1 2 v1 = 1 then svR v1 3 0 (tel (los (gN G 3 v1 (G.1 8 0)) v1 (G.1 8 0)) v1) else los (gN G 3 v1 (G.1 8 0)) v1 (G.1 8 0))
    generalize los (gN G 3 v1 (G.1 8 0)) v1 (G.1 8 0) = G1 at *
    have key : ∀ G', KI G' → (∀ j, j = 0 ∨ j = 1 ∨ j = 3 ∨ j = 4 ∨ j = 6 ∨ j = 7 ∨ j = 8 ∨ j = 14 ∨ j = 27 ∨ j = 28 → G'.1 j = G1.1 j) → G'.1 20 0 ≤ G1.1 20 0 + 5 → NX k G G' := fun G' hK n' h20 => by
      have nn : ∀ j, j = 0 ∨ j = 1 ∨ j = 4 ∨ j = 6 ∨ j = 7 ∨ j = 8 ∨ j = 14 ∨ j = 27 ∨ j = 28 → G'.1 j = G.1 j := fun j hj => (n' j (by omega)).trans (ne j (by omega) (by omega))
      refine ⟨⟨hK, h.2.1.c (nn 0 (by decide)) (nn 1 (by decide)) (fun u hu => ?_) (nn 6 (by decide)) (nn 7 (by decide)) (nn 8 (by decide)) (nn 27 (by decide)) (nn 28 (by decide)) (fun d => by rw [nn 14 (by decide)]; exact Nat.le_succ_of_le (h.2.1.2.2.2.2.2 d)), ?_⟩, by rw [sm_c (nn 4 (by decide))]; exact Nat.le_refl _⟩
      · rw [n' 3 (by decide), e3, if_neg (by omega)]
      · have hB := h.2.2
        have h3 : sm G 3 + 1 ≤ sm G' 3 := sm_up hv6 (fun u => by
          rw [n' 3 (by decide), e3]
          split
          · rename_i hu; rw [hu]; exact hvw.2.1
          · exact Nat.le_refl _) (by rw [n' 3 (by decide), e3, if_pos rfl]; have := hvw.2.1; omega)
        unfold JB at hB ⊢
        rw [sm_c (nn 4 (by decide))]
        omega
    by_cases hr : G.1 2 v1 = 1
    · rw [if_pos hr]
      have l1 : G1.1 1 v1 = 1 := by rw [ne 1 (by decide) (by decide)]; exact hl
      have r1 : G1.1 2 v1 = 1 := by rw [ne 2 (by decide) (by decide)]; exact hr
      have K2 := K1.k_tel l1 r1 (by omega)
      have t20 := (tel_20 G1 v1).2
      have tn : ∀ j, j ≠ 13 → j ≠ 18 → j ≠ 5 → j < 20 ∨ 26 < j → (tel G1 v1).1 j = G1.1 j := fun j a b c d => tel_ne _ _ a b c d
      have t13 := tel_13 G1 v1
      have tms := fun m => tel_MS (G := G1) (v := v1) m
      have tc : ∀ m, cur (tel G1 v1) m = cur G1 m := fun m => cur_c (tn 1 (by decide) (by decide) (by decide) (by decide)) (tn 3 (by decide) (by decide) (by decide) (by decide)) m
      have n17 : G1.1 17 = G.1 17 := ne 17 (by decide) (by decide)
      generalize tel G1 v1 = G2 at *
      have K3 : KI (svR v1 3 0 G2) := KI.k_svR 3 0 G2 K2 (by rw [tn 1 (by decide) (by decide) (by decide) (by decide)]; exact l1) (by decide) (fun d _ _ h13 h17 m hm hcm z => ?_) (by omega)
      · obtain ⟨f1, f2⟩ := svR_fr (v := v1) 3 0 G2
        refine key _ K3 (fun j hj => ?_) (by omega)
        rw [f1 j (by omega) (by omega) (by omega) (by omega), tn j (by omega) (by omega) (by omega) (by omega)]
      · rw [tc] at hcm
        rcases tms m hm with hm1 | hm1
        · have h1 := hcu m hm1 hcm
          rw [tn 17 (by decide) (by decide) (by decide) (by decide), n17] at h17
          rw [z] at h1
          exact h1 h17
        · exact cur_no (G := G1) (m := m) (by omega) (by omega) hcm
    · rw [if_neg hr]
      exact key _ K1 (fun j _ => rfl) (by omega)
  · rw [if_neg hb]; exact NX.same h
theorem bit_m {m w : Nat} : (2 ^ m - 1).testBit w = decide (w < m) := Nat.testBit_two_pow_sub_one m w
theorem INV.start (x : Int32) : INV 0 (iniG x) := by
  unfold iniG
  have hm := (mkN_of x).1
  generalize mkN x = m at *
  have g0 : (inT m m).1 0 0 = m := by simp [inT]
  have g8 : (inT m m).1 8 0 = 1 := by simp [inT]
  have g7 : ∀ e, (inT m m).1 7 e = if e = 1 then 2 ^ m - 1 else 0 := fun e => by simp [inT]
  have g1 : ∀ v, (inT m m).1 1 v = if v < m then 1 else 0 := fun v => by simp [inT]
  have g2 : ∀ v, (inT m m).1 2 v = if v < m then 1 else 0 := fun v => by simp [inT]
  have g3 : ∀ v, (inT m m).1 3 v = if v < m then 1 else 0 := fun v => by simp [inT]
  have gz : ∀ j v, 4 ≤ j → j ≠ 7 → j ≠ 8 → (inT m m).1 j v = 0 := fun j v h4 h7 h8 => by
    simp [inT, show ¬ (j = 1 ∨ j = 2 ∨ j = 3) by omega, show ¬ j = 0 by omega, h7, h8]
  have hOK : OK (inT m m) := fun j i => by
    show (if (j = 1 ∨ j = 2 ∨ j = 3) ∧ i < m then 1 else if j = 0 ∧ i = 0 then m else if j = 8 ∧ i = 0 then 1 else if j = 7 ∧ i = 1 then 2 ^ m - 1 else 0) ≤ mbd j
    split
    · rename_i hh
      rcases hh.1 with rfl | rfl | rfl <;> decide
    · split
      · rename_i hh; rw [hh.1]; show m ≤ 6; omega
      · split
        · rename_i hh; rw [hh.1]; decide
        · split
          · rename_i hh; rw [hh.1]; show 2 ^ m - 1 ≤ 63
            have : m = 1 ∨ m = 2 ∨ m = 3 := by omega
            rcases this with rfl | rfl | rfl <;> decide
          · exact Nat.zero_le _
  have hmem : (mem (2 ^ m - 1)).length = m := by rw [mk_10 m (by omega), List.length_range]
  generalize inT m m = G at *
  have hin : ∀ e w, isIn G e w = true ↔ e = 1 ∧ w < m := fun e w => by
    unfold isIn
    rw [g7]
    by_cases he : e = 1
    · rw [if_pos he, bit_m]; simp [he]
    · rw [if_neg he, Nat.zero_testBit]; simp [he]
  have hms : MS G = [] := by unfold MS; rw [gz 20 0 (by decide) (by decide) (by decide)]; rfl
  have lv : ∀ v, G.1 1 v = 1 ↔ v < m := fun v => by rw [g1]; split <;> simp_all
  have rd : ∀ v, G.1 2 v = 1 ↔ v < m := fun v => by rw [g2]; split <;> simp_all
  refine ⟨⟨hOK, ⟨by omega, ⟨by omega, ?_⟩, fun v hv => ?_, fun v hv => ?_, fun e w _ hw => ?_, fun v hv => ?_, fun v w e hv hvw _ hw => ?_, fun a e u w _ _ huw hw _ => ?_, ⟨0, (lv 0).mpr (by omega), (rd 0).mpr (by omega)⟩, fun v w hv hvw hr => ?_⟩, ⟨fun v _ => ?_, fun v => ?_, fun v w _ _ => ?_⟩, fun c _ h3 => ?_, ⟨fun m hm => ?_, ?_⟩⟩, ⟨fun w hi h1 => ?_, fun v _ => ?_, fun w => ?_, ?_, fun v hv => ?_, fun c => ?_⟩, ?_⟩
  · rw [g8, g7, if_pos rfl, hmem, g0]; omega
  · rw [g0] at hv
    rw [g3, if_pos hv, g8]
    exact ⟨by omega, by omega, (hin 1 v).mpr ⟨rfl, hv⟩⟩
  · rw [g0] at hv
    rw [g1, g2, if_neg (by omega)]
    exact ⟨rfl, rfl⟩
  · rw [g0]; exact ((hin e w).mp hw).2
  · rw [g8]; exact (hin 1 v).mpr ⟨rfl, (lv v).mp hv⟩
  · have := (hin e w).mp hw
    exact (hin e v).mpr ⟨this.1, by omega⟩
  · have := (hin a w).mp hw
    exact (hin a u).mpr ⟨this.1, by omega⟩
  · exact (rd v).mpr ((lv v).mp hv)
  · exact ⟨gz 4 v (by decide) (by decide) (by decide), gz 5 v (by decide) (by decide) (by decide)⟩
  · rw [gz 5 v (by decide) (by decide) (by decide)]; exact Nat.zero_le _
  · rw [gz 4 w (by decide) (by decide) (by decide)]; exact Nat.zero_le _
  · rw [gz 13 c (by decide) (by decide) (by decide)] at h3; cases h3
  · rw [hms] at hm; cases hm
  · rw [hms]; exact List.Pairwise.nil
  · rw [g8] at hi
    have := ((hin 1 w).mp hi).2
    rw [g1, if_pos this] at h1; cases h1
  · exact gz 6 v (by decide) (by decide) (by decide)
  · rw [gz 6 w (by decide) (by decide) (by decide)]; exact Nat.zero_le _
  · rw [gz 27 0 (by decide) (by decide) (by decide)]; exact Nat.le_refl _
  · rw [g0] at hv
    refine ⟨gz 28 v (by decide) (by decide) (by decide), ?_⟩
    rw [g3, if_neg (by omega)]
  · rw [gz 14 c (by decide) (by decide) (by decide)]; exact Nat.zero_le _
  · unfold JB
    rw [gz 20 0 (by decide) (by decide) (by decide)]; exact Nat.zero_le _
