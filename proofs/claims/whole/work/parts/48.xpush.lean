/-! a message put at the list's end, one taken out -/
theorem pushM_20 (G : GS) (v w k e a b : Nat) : (pushM G v w k e a b).1 20 0 = G.1 20 0 + 1 := by unfold pushM; rw [gN_eq]
theorem pushM_ne (G : GS) (v w k e a b : Nat) {j : Nat} (h : j < 20 ∨ 26 < j) : (pushM G v w k e a b).1 j = G.1 j := by
  unfold pushM
  rw [gN_ne _ (by omega), gN_ne _ (by omega), gN_ne _ (by omega), gN_ne _ (by omega), gN_ne _ (by omega), gN_ne _ (by omega), gN_ne _ (by omega)]
theorem pushM_2 (G : GS) (v w k e a b : Nat) : (pushM G v w k e a b).2 = G.2 := rfl
theorem pushM_21 (G : GS) (v w k e a b i : Nat) : (pushM G v w k e a b).1 21 i = if i = G.1 20 0 then v else G.1 21 i := by simp [pushM, gN_1]
theorem pushM_22 (G : GS) (v w k e a b i : Nat) : (pushM G v w k e a b).1 22 i = if i = G.1 20 0 then w else G.1 22 i := by simp [pushM, gN_1]
theorem pushM_23 (G : GS) (v w k e a b i : Nat) : (pushM G v w k e a b).1 23 i = if i = G.1 20 0 then k else G.1 23 i := by simp [pushM, gN_1]
theorem pushM_24 (G : GS) (v w k e a b i : Nat) : (pushM G v w k e a b).1 24 i = if i = G.1 20 0 then e else G.1 24 i := by simp [pushM, gN_1]
theorem pushM_25 (G : GS) (v w k e a b i : Nat) : (pushM G v w k e a b).1 25 i = if i = G.1 20 0 then a else G.1 25 i := by simp [pushM, gN_1]
theorem pushM_26 (G : GS) (v w k e a b i : Nat) : (pushM G v w k e a b).1 26 i = if i = G.1 20 0 then b else G.1 26 i := by simp [pushM, gN_1]
theorem XR.push {z : Nat} {h : Nat → Nat → Nat} {t : Nat → Nat} {r : Rg} {G : GS} {S : Sto} (H : XR z h t r G S) {q k v w e a b : Nat} (hk : sK S r.2.1 = 14) (hz : G.1 20 0 < sZ S r.2.1) (hz2 : sZ S r.2.1 ≤ 2200) (hM : MsgF S q r.2.2 k v w e a b) (hU : k = 1 → a ≤ G.1 4 v) : XR z h t (va_up r.1 (G.1 20 0) q, r.2.1, r.2.2) (pushM G v w k e a b) (setI (setQ S 14 r.2.1 (G.1 20 0) (some q)) 34 (h 1 0) (nI (G.1 20 0 + 1))) := by
  have fm : Fm S (setI (setQ S 14 r.2.1 (G.1 20 0) (some q)) 34 (h 1 0) (nI (G.1 20 0 + 1))) := fun x _ => ⟨rfl, fun f hf _ => ⟨by
    show up2 (sI S) 34 (h 1 0) _ f x = _
    rw [up2, if_neg (by omega)], rfl⟩⟩
  refine H.relist (fun j hj => pushM_ne _ _ _ _ _ _ _ hj) rfl rfl (fun _ _ => rfl) (fun _ _ _ _ => rfl) (fun _ _ => rfl) (fun k' x hk3 hk' => ?_) (fun _ _ => rfl) (fun f x hf _ _ => ?_) ?_ ⟨H.2.2.2.2.2.1.1, Or.inl ⟨hk, ?_, hz2⟩, fun i hi => ?_⟩ ⟨fun i hi h1 => ?_, fun h1 => ?_⟩
  · funext y
    show up3 (sQ S) 14 r.2.1 (G.1 20 0) (some q) k' x y = _
    rw [up3, if_neg (by omega)]
  · show up2 (sI S) 34 (h 1 0) _ f x = _
    rw [up2, if_neg (fun z0 => hf z0.1)]
  · rw [pushM_20]
    show up2 (sI S) 34 (h 1 0) _ 34 (h 1 0) = _
    rw [up2, if_pos ⟨rfl, rfl⟩]
  · rw [pushM_20]; exact hz
  · rw [pushM_20] at hi
    rw [pushM_21, pushM_22, pushM_23, pushM_24, pushM_25, pushM_26]
    by_cases e0 : i = G.1 20 0
    · subst e0
      refine ⟨?_, ?_⟩
      · show up3 (sQ S) 14 r.2.1 (G.1 20 0) (some q) 14 r.2.1 (G.1 20 0) = some (va_up r.1 (G.1 20 0) q (G.1 20 0))
        rw [up3, if_pos ⟨rfl, rfl, rfl⟩, va_up, if_pos rfl]
      · simp only [if_true]
        show MsgF _ (va_up r.1 (G.1 20 0) q (G.1 20 0)) _ _ _ _ _ _ _
        rw [va_up, if_pos rfl]
        exact hM.fm fm
    · obtain ⟨q1, q2⟩ := H.2.2.2.2.2.1.2.2 i (by omega)
      rw [if_neg e0, if_neg e0, if_neg e0, if_neg e0, if_neg e0, if_neg e0]
      refine ⟨?_, ?_⟩
      · show up3 (sQ S) 14 r.2.1 (G.1 20 0) (some q) 14 r.2.1 i = some (va_up r.1 (G.1 20 0) q i)
        rw [up3, if_neg (fun z0 => e0 z0.2.2), va_up, if_neg e0]
        exact q1
      · show MsgF _ (va_up r.1 (G.1 20 0) q i) _ _ _ _ _ _ _
        rw [va_up, if_neg e0]
        exact q2.fm fm
  · rw [pushM_20] at hi
    rw [pushM_23] at h1
    rw [pushM_25, pushM_21, pushM_ne _ _ _ _ _ _ _ (by decide)]
    by_cases e0 : i = G.1 20 0
    · rw [if_pos e0] at h1
      rw [if_pos e0, if_pos e0]
      exact hU h1
    · rw [if_neg e0] at h1
      rw [if_neg e0, if_neg e0]
      exact H.2.2.2.2.2.2.2.1 i (by omega) h1
  · rw [pushM_ne _ _ _ _ _ _ _ (by decide)]
    exact H.2.2.2.2.2.2.2.2 h1
theorem stk_at (G : GS) (m : Nat) {j : Nat} (hj : 21 ≤ j ∧ j ≤ 26) {i : Nat} (hi : i < G.1 20 0 - 1) : (stk G m).1 j i = if i < m then G.1 j i else G.1 j (i + 1) := by
  simp only [stk, stkT]
  by_cases hm : i < m
  · rw [if_neg (by omega), if_neg (by omega), if_pos hm]
  · rw [if_pos (by omega), if_neg hm]
theorem XR.del {z : Nat} {h : Nat → Nat → Nat} {t : Nat → Nat} {r : Rg} {G : GS} {S S' : Sto} (H : XR z h t r G S) {m : Nat} (hm : m < G.1 20 0) (hK : sK S' = sK S) (hI : ∀ f a, f ≠ 34 → f ≠ 32 → sI S' f a = sI S f a) (h34 : sI S' 34 (h 1 0) = nI (G.1 20 0 - 1)) (hP : sP S' = sP S) (hE : sE S' = sE S) (hZ : sZ S' = sZ S) (hQ : ∀ k a, k ≠ 14 → sQ S' k a = sQ S k a) (hQ2 : ∀ i, i < G.1 20 0 - 1 → sQ S' 14 r.2.1 i = sQ S 14 r.2.1 (if i < m then i else i + 1)) : XR z h t (fun i => r.1 (if i < m then i else i + 1), r.2.1, r.2.2) (stk G m) S' := by
  have fm : Fm S S' := fun x _ => ⟨by rw [hK], fun f hf _ => ⟨hI f x (by omega) (by omega), by rw [hP]⟩⟩
  obtain ⟨e1, e2, e3⟩ := H.cnt_el (by omega)
  refine H.relist (fun j hj => stk_ne _ _ hj) rfl rfl (fun _ _ => by rw [hK]) (fun _ _ _ _ => by rw [hP]) (fun _ _ => by rw [hE]) (fun k' x hk3 hk' => hQ k' x (by omega)) (fun _ _ => by rw [hZ]) (fun f x hf hf2 _ => hI f x hf hf2) ?_ ⟨by rw [hP]; exact H.2.2.2.2.2.1.1, Or.inl ⟨by rw [hK]; exact e1, ?_, by rw [hZ]; exact e3⟩, fun i hi => ?_⟩ ⟨fun i hi h1 => ?_, fun h1 => ?_⟩
  · rw [stk_20]; exact h34
  · rw [stk_20, hZ]
    show G.1 20 0 - 1 ≤ sZ S r.2.1
    omega
  · rw [stk_20] at hi
    have hx : ∀ j, 21 ≤ j ∧ j ≤ 26 → (stk G m).1 j i = G.1 j (if i < m then i else i + 1) := fun j hj => by
      rw [stk_at G m hj hi]
      split <;> rfl
    have hlt : (if i < m then i else i + 1) < G.1 20 0 := by split <;> omega
    rw [hx 21 (by decide), hx 22 (by decide), hx 23 (by decide), hx 24 (by decide), hx 25 (by decide), hx 26 (by decide)]
    obtain ⟨q1, q2⟩ := H.2.2.2.2.2.1.2.2 _ hlt
    exact ⟨(hQ2 i hi).trans q1, q2.fm fm⟩
  · rw [stk_20] at hi
    have hx : ∀ j, 21 ≤ j ∧ j ≤ 26 → (stk G m).1 j i = G.1 j (if i < m then i else i + 1) := fun j hj => by
      rw [stk_at G m hj hi]
      split <;> rfl
    have hlt : (if i < m then i else i + 1) < G.1 20 0 := by split <;> omega
    rw [hx 23 (by decide)] at h1
    rw [hx 25 (by decide), hx 21 (by decide), stk_ne _ _ (by decide)]
    exact H.2.2.2.2.2.2.2.1 _ hlt h1
  · rw [stk_ne _ _ (by decide)]
    exact H.2.2.2.2.2.2.2.2 h1
