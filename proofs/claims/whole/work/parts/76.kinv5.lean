/-! tick; writes; reads; adoption: the invariant over whole calls -/
theorem KI.k_tck {G : GS} (h : KI G) (hC : CS G) (hcl : G.1 27 0 + 1 ≤ 600) (h6 : ∀ w, G.1 6 w + 1 ≤ 600) : KI (tckF G).2 := by
  have hn11 := h.n11
  have ne1 : ∀ j, j ≠ 6 → j ≠ 27 → (gN (tcS 6 G) 27 0 (G.1 27 0 + 1)).1 j = G.1 j := fun j a b => by rw [gN_ne _ b, tcS_ne G a]
  have hO1 : OK (gN (tcS 6 G) 27 0 (G.1 27 0 + 1)) := ok_gN (ok_tcS h.1 h6 6) (by show _ ≤ 600; omega)
  have K1 : KI (gN (tcS 6 G) 27 0 (G.1 27 0 + 1)) := h.c hO1 (MS_c (fun j a b => ne1 j (by omega) (by omega))) (ne1 0 (by decide) (by decide)) (ne1 1 (by decide) (by decide)) (ne1 2 (by decide) (by decide)) (ne1 3 (by decide) (by decide)) (ne1 4 (by decide) (by decide)) (ne1 5 (by decide) (by decide)) (ne1 7 (by decide) (by decide)) (ne1 8 (by decide) (by decide)) (ne1 13 (by decide) (by decide)) (ne1 17 (by decide) (by decide)) (by rw [gN_2, tcS_2])
  by_cases hz : tcG G 6 = 0
  · rw [show (tckF G).2 = gN (tcS 6 G) 27 0 (G.1 27 0 + 1) from by rw [tckF, if_pos hz]]
    exact K1
  · rw [show (tckF G).2 = gN (gN (gN (tcS 6 G) 27 0 (G.1 27 0 + 1)) 8 0 (G.1 8 0 + 1)) 7 (G.1 8 0 + 1) (G.1 7 (G.1 8 0) &&& (63 - tcG G 6)) from by rw [tckF, if_neg hz]]
    have hmt := mem_tck hC
    have hzz := tcG_z hC
    have hfl := flt_len (sil (gN G 27 0 (G.1 27 0 + 1))) (mem (G.1 7 (G.1 8 0)))
    have hb7 : G.1 7 (G.1 8 0) ≤ 63 := h.1 7 _
    have hM63 : G.1 7 (G.1 8 0) &&& (63 - tcG G 6) ≤ 63 := Nat.le_trans Nat.and_le_left hb7
    have hg := tcG_le G 6 (by decide)
    have hbit : ∀ w, w < 6 → ((G.1 7 (G.1 8 0) &&& (63 - tcG G 6)).testBit w = true ↔ isIn G (G.1 8 0) w = true ∧ (tcG G 6).testBit w = false) := fun w hw => by
      rw [Nat.testBit_and, mk_9 _ (by omega) w hw]
      unfold isIn
      cases (tcG G 6).testBit w <;> simp
    have hbl : ∀ w, (G.1 7 (G.1 8 0) &&& (63 - tcG G 6)).testBit w = true → isIn G (G.1 8 0) w = true := fun w hw => by
      rw [Nat.testBit_and] at hw
      unfold isIn
      simp at hw
      exact hw.1
    have hliv : ∀ w, G.1 1 w = 1 → (tcG G 6).testBit w = false := fun w hw => by
      rw [tcG_bit]
      exact decide_eq_false (fun z => by have := z.2.2.1; omega)
    have hep := fun m hm => h.ep (m := m) hm
    have ne : ∀ j, j ≠ 6 → j ≠ 27 → j ≠ 7 → j ≠ 8 → (gN (gN (gN (tcS 6 G) 27 0 (G.1 27 0 + 1)) 8 0 (G.1 8 0 + 1)) 7 (G.1 8 0 + 1) (G.1 7 (G.1 8 0) &&& (63 - tcG G 6))).1 j = G.1 j := fun j a b c d => by rw [gN_ne _ c, gN_ne _ d, ne1 j a b]
    have e8 : (gN (gN (gN (tcS 6 G) 27 0 (G.1 27 0 + 1)) 8 0 (G.1 8 0 + 1)) 7 (G.1 8 0 + 1) (G.1 7 (G.1 8 0) &&& (63 - tcG G 6))).1 8 0 = G.1 8 0 + 1 := by rw [gN_ne _ (by decide), gN_eq]
    have e7 : ∀ e, (gN (gN (gN (tcS 6 G) 27 0 (G.1 27 0 + 1)) 8 0 (G.1 8 0 + 1)) 7 (G.1 8 0 + 1) (G.1 7 (G.1 8 0) &&& (63 - tcG G 6))).1 7 e = if e = G.1 8 0 + 1 then G.1 7 (G.1 8 0) &&& (63 - tcG G 6) else G.1 7 e := fun e => by
      rw [gN_1]
      by_cases hu : e = G.1 8 0 + 1
      · rw [if_pos ⟨rfl, hu⟩, if_pos hu]
      · rw [if_neg (fun z => hu z.2), if_neg hu, gN_ne _ (by decide), ne1 7 (by decide) (by decide)]
    have hO' : OK (gN (gN (gN (tcS 6 G) 27 0 (G.1 27 0 + 1)) 8 0 (G.1 8 0 + 1)) 7 (G.1 8 0 + 1) (G.1 7 (G.1 8 0) &&& (63 - tcG G 6))) := ok_gN (ok_gN hO1 (by show _ ≤ 12; omega)) hM63
    have e29 : (gN (gN (gN (tcS 6 G) 27 0 (G.1 27 0 + 1)) 8 0 (G.1 8 0 + 1)) 7 (G.1 8 0 + 1) (G.1 7 (G.1 8 0) &&& (63 - tcG G 6))).2 = G.2 := by rw [gN_2, gN_2, gN_2, tcS_2]
    generalize gN (gN (gN (tcS 6 G) 27 0 (G.1 27 0 + 1)) 8 0 (G.1 8 0 + 1)) 7 (G.1 8 0 + 1) (G.1 7 (G.1 8 0) &&& (63 - tcG G 6)) = G' at *
    obtain ⟨hO, hA, hN, hJ, hM⟩ := h
    have n0 := ne 0 (by decide) (by decide) (by decide) (by decide)
    have n1 := ne 1 (by decide) (by decide) (by decide) (by decide)
    have n2 := ne 2 (by decide) (by decide) (by decide) (by decide)
    have n3 := ne 3 (by decide) (by decide) (by decide) (by decide)
    have n4 := ne 4 (by decide) (by decide) (by decide) (by decide)
    have n5 := ne 5 (by decide) (by decide) (by decide) (by decide)
    have n13 := ne 13 (by decide) (by decide) (by decide) (by decide)
    have n17 := ne 17 (by decide) (by decide) (by decide) (by decide)
    have hs : MS G' = MS G := MS_c (fun j a b => ne j (by omega) (by omega) (by omega) (by omega))
    have hi1 : ∀ e w, e ≤ G.1 8 0 → (isIn G' e w = true ↔ isIn G e w = true) := fun e w he => by
      unfold isIn
      rw [e7, if_neg (by omega)]
    have hi2 : ∀ w, isIn G' (G.1 8 0 + 1) w = true → isIn G (G.1 8 0) w = true := fun w hw => by
      unfold isIn at hw
      rw [e7, if_pos rfl] at hw
      exact hbl w hw
    have hi3 : ∀ w, isIn G (G.1 8 0) w = true → G.1 1 w = 1 → isIn G' (G.1 8 0 + 1) w = true := fun w hw h1 => by
      unfold isIn
      rw [e7, if_pos rfl]
      exact (hbit w (hA.m6 (hA.mk h1))).mpr ⟨hw, hliv w h1⟩
    refine ⟨hO', ?_, hN.c n1 n2 n4 n5, ?_, fun m hm => ?_, ?_⟩
    · obtain ⟨x1, x2, x3, x4, x5, x6, x7, x8, x9, x10⟩ := hA
      unfold JA
      rw [n0, n1, n2, n3, e8]
      refine ⟨x1, ⟨by omega, ?_⟩, fun u hu => ?_, x4, fun e w he hw => ?_, fun v hv => hi3 v (x6 v hv) hv, fun v w e hv hvw he hw => ?_, fun a e u w hae he huw hw hu => ?_, x9, x10⟩
      · rw [e7, if_pos rfl, hmt]
        have hp : ¬ ((mem (G.1 7 (G.1 8 0))).filter (sil (gN G 27 0 (G.1 27 0 + 1)))).length = 0 := fun z => hz (hzz.mpr z)
        omega
      · have := x3 u hu
        exact ⟨this.1, by omega, (hi1 _ _ this.2.1).mpr this.2.2⟩
      · by_cases hee : e = G.1 8 0 + 1
        · subst hee; exact x5 _ w (Nat.le_refl _) (hi2 w hw)
        · exact x5 e w (by omega) ((hi1 e w (by omega)).mp hw)
      · by_cases hee : e = G.1 8 0 + 1
        · subst hee; exact hi3 v (x6 v hv) hv
        · exact (hi1 e v (by omega)).mpr (x7 v w e hv hvw (by omega) ((hi1 e w (by omega)).mp hw))
      · by_cases hae' : a = G.1 8 0 + 1
        · have : e = a := by omega
          rw [← this]; exact hu
        · have hw' := (hi1 a w (by omega)).mp hw
          by_cases hee : e = G.1 8 0 + 1
          · subst hee
            exact (hi1 a u (by omega)).mpr (x8 a _ u w (by omega) (Nat.le_refl _) huw hw' (hi2 u hu))
          · exact (hi1 a u (by omega)).mpr (x8 a e u w hae (by omega) huw hw' ((hi1 e u (by omega)).mp hu))
    · unfold JC at hJ ⊢
      rw [n13, n17, e29]
      exact hJ
    · rw [hs] at hm
      exact (hM.1 m hm).conf (hep m hm) hA (by rw [n0]; exact Nat.le_refl _) (fun v hv => by rw [n1]) (fun v hv => by rw [n3]) (fun e he => by rw [e7, if_neg (by omega)]) n2 n4 n13 n17
    · rw [hs, MP_c n1 n3]
      exact hM.2
theorem prd_no {G : GS} {e : Nat} : ∀ {v : Nat}, prdF G e v = none → ∀ x, x < v → isIn G e x = false := by
  intro v
  induction v with
  | zero => intro _ x hx; omega
  | succ v ih =>
    intro h x hx
    rw [prdF] at h
    by_cases hv : isIn G e v = true
    · rw [if_pos hv] at h; cases h
    · rw [if_neg hv] at h
      by_cases hxv : x = v
      · rw [hxv]; exact Bool.eq_false_iff.mpr hv
      · exact ih h x (by omega)
/-- a write is sent -/
theorem KI.k_swr {G : GS} (h : KI G) {c : Nat} (hc : c < 3) (hcn : G.1 20 0 + 1 ≤ 1399) : KI (swr G c).2 := by
  unfold swr
  by_cases hA : G.1 1 (hdo G) = 0 ∨ prd G (hdo G) ≠ none
  · rw [if_pos hA]; exact h
  · rw [if_neg hA]
    cases fwF G (hdo G) c (G.1 4 (hdo G)) 1 with
    | some i => exact h
    | none =>
      show KI (if 8 ≤ G.1 4 (hdo G) - G.1 5 (hdo G) ∨ 100 ≤ G.1 4 (hdo G) then ((1 : Nat), G) else (2, tak G (hdo G) (G.1 15 c) (G.2 16 c) c (G.1 14 c))).2
      by_cases hF : 8 ≤ G.1 4 (hdo G) - G.1 5 (hdo G) ∨ 100 ≤ G.1 4 (hdo G)
      · rw [if_pos hF]; exact h
      · rw [if_neg hF]
        have hb1 : G.1 1 (hdo G) ≤ 1 := h.1 1 _
        have hl : G.1 1 (hdo G) = 1 := by omega
        have hpn : prd G (hdo G) = none := by
          by_cases hp : prd G (hdo G) = none
          · exact hp
          · exact absurd (Or.inr hp) hA
        have hno := prd_no hpn
        have hv := h.2.1.mk hl
        have hvw := h.2.1.2.2.1 _ hv
        refine h.k_tak hl (h.hdr hl) (h.1 15 c) (by omega) (h.1 14 c) (by omega) hcn (fun m hm hk q1 q2 => ?_) (fun u hu huv => ?_)
        · exfalso
          have hme := h.ep hm
          obtain ⟨hO, hAA, -, -, hM⟩ := h
          obtain ⟨-, ⟨m1, m2, m3⟩, ⟨m4, m5⟩, hum, -⟩ := hM.1 m hm
          obtain ⟨⟨y1, y2, y3⟩, -, -⟩ := hum hk
          obtain ⟨z1, z2, z3, z4⟩ := suc_sp hO (hAA.m6 m1) y1
          have hmt : mT m = hdo G := by
            rcases Nat.lt_or_ge (hdo G) (mT m) with hlt | hge
            · have := hAA.2.2.2.2.2.2.1 (hdo G) (mT m) (mE m) hl hlt hme z3
              rw [z4 _ q1 hlt] at this; cases this
            · omega
          rw [hmt] at m4
          have := hAA.2.2.2.2.2.2.2.1 (G.1 3 (hdo G)) (mE m) (mF m) (hdo G) m4 hme q1 hvw.2.2 y2
          rw [hno _ q1] at this
          cases this
        · have := h.hh.2 u hu
          omega
theorem swr_fr (G : GS) (c : Nat) : (∀ j, j ≠ 4 → j ≠ 9 → j ≠ 11 → j ≠ 12 → j ≠ 13 → j ≠ 18 → j ≠ 5 → j < 20 ∨ 26 < j → (swr G c).2.1 j = G.1 j) ∧ (∀ u, G.1 4 u ≤ (swr G c).2.1 4 u) ∧ (swr G c).2.1 20 0 ≤ G.1 20 0 + 1 := by
  unfold swr
  by_cases hA : G.1 1 (hdo G) = 0 ∨ prd G (hdo G) ≠ none
  · rw [if_pos hA]; exact ⟨fun _ _ _ _ _ _ _ _ _ => rfl, fun _ => Nat.le_refl _, Nat.le_succ _⟩
  · rw [if_neg hA]
    cases fwF G (hdo G) c (G.1 4 (hdo G)) 1 with
    | some i => exact ⟨fun _ _ _ _ _ _ _ _ _ => rfl, fun _ => Nat.le_refl _, Nat.le_succ _⟩
    | none =>
      simp only []
      by_cases hF : 8 ≤ G.1 4 (hdo G) - G.1 5 (hdo G) ∨ 100 ≤ G.1 4 (hdo G)
      · rw [if_pos hF]; exact ⟨fun _ _ _ _ _ _ _ _ _ => rfl, fun _ => Nat.le_refl _, Nat.le_succ _⟩
      · rw [if_neg hF]
        exact ⟨fun j a b c' d e f g k => tak_ne _ _ _ _ _ _ a b c' d e f g k, fun u => tak_4a _ _ _ _ _ _ _, (tak_20 _ _ _ _ _ _).2⟩
theorem srv_MS {G : GS} {c v : Nat} : ∀ m ∈ MS (srv G c v).2, m ∈ MS G ∨ mB m = c := by
  intro m hm
  unfold srv at hm
  split at hm
  · left
    rw [show MS (don (gN G 17 c v) c v (clN G v (G.1 15 c))) = MS G from MS_c (fun j h1 h2 => by unfold don; rw [gV_1, gN_ne _ (by omega), gN_ne _ (by omega), gN_ne _ (by omega)])] at hm
    exact hm
  · rcases snd_MS m hm with h | h
    · left
      rw [show MS (gV (gN G 17 c v) 29 c (nI v)) = MS G from MS_c (fun j h1 h2 => by rw [gV_1, gN_ne _ (by omega)])] at h
      exact h
    · exact Or.inr h.2.2
theorem KI.k_svR {v : Nat} : ∀ (n c : Nat) (G : GS), KI G → G.1 1 v = 1 → c + n = 3 → (∀ d, c ≤ d → d < 3 → G.1 13 d = 3 → G.1 17 d = v → ∀ m ∈ MS G, cur G m → mB m ≠ d) → G.1 20 0 + n ≤ 1399 → KI (svR v n c G)
  | 0, _, _, h, _, _, _, _ => h
  | n + 1, c, G, h, hl, hn, hno, hc => by
    rw [svR]
    by_cases hcc : G.1 13 c = 3 ∧ G.1 17 c = v
    · rw [if_pos hcc]
      have s20 := (srv_20 G c v).2
      have ne : ∀ j, j ≠ 13 → j ≠ 18 → j ≠ 17 → j < 20 ∨ 26 < j → (srv G c v).2.1 j = G.1 j := fun j a b c' d => srv_ne _ _ _ a b c' d
      have n1 := ne 1 (by decide) (by decide) (by decide) (by decide)
      have n3 := ne 3 (by decide) (by decide) (by decide) (by decide)
      have h1 : KI (srv G c v).2 := K_srv h.1 h.2.1 h.2.2.1 h.2.2.2.2 (by omega) (fun d hd _ h3 => h.2.2.2.1 d hd h3) hl hcc.1 (hno c (Nat.le_refl _) (by omega) hcc.1 hcc.2) (by omega)
      refine KI.k_svR n (c + 1) _ h1 (by rw [n1]; exact hl) (by omega) (fun d hd1 hd2 h13 h17 m hm hcm => ?_) (by omega)
      rw [srv_c _ _ _ (by omega) (Or.inl rfl)] at h13
      rw [srv_c _ _ _ (by omega) (Or.inr (Or.inl rfl))] at h17
      rw [cur_c n1 n3] at hcm
      rcases srv_MS m hm with a | a
      · exact hno d (by omega) hd2 h13 h17 m a hcm
      · omega
    · rw [if_neg hcc]
      exact KI.k_svR n (c + 1) G h hl (by omega) (fun d a b => hno d (by omega) b) (by omega)
theorem svR_fr {v : Nat} : ∀ (n c : Nat) (G : GS), (∀ j, j ≠ 13 → j ≠ 18 → j ≠ 17 → j < 20 ∨ 26 < j → (svR v n c G).1 j = G.1 j) ∧ (svR v n c G).1 20 0 ≤ G.1 20 0 + n
  | 0, _, _ => ⟨fun _ _ _ _ _ => rfl, Nat.le_refl _⟩
  | n + 1, c, G => by
    rw [svR]
    by_cases hcc : G.1 13 c = 3 ∧ G.1 17 c = v
    · rw [if_pos hcc]
      have s20 := (srv_20 G c v).2
      have ih := svR_fr (v := v) n (c + 1) (srv G c v).2
      refine ⟨fun j a b d e => (ih.1 j a b d e).trans (srv_ne _ _ _ a b d e), ?_⟩
      have := ih.2
      omega
    · rw [if_neg hcc]
      have ih := svR_fr (v := v) n (c + 1) G
      refine ⟨ih.1, ?_⟩
      have := ih.2
      omega
