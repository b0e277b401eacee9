/-! the messages under way as a list -/
abbrev Ms : Type := Nat × Nat × Nat × Nat × Nat × Nat
abbrev mF (m : Ms) : Nat := m.1
abbrev mT (m : Ms) : Nat := m.2.1
abbrev mK (m : Ms) : Nat := m.2.2.1
abbrev mE (m : Ms) : Nat := m.2.2.2.1
abbrev mA (m : Ms) : Nat := m.2.2.2.2.1
abbrev mB (m : Ms) : Nat := m.2.2.2.2.2
def msAt (G : GS) (i : Nat) : Ms := (G.1 21 i, G.1 22 i, G.1 23 i, G.1 24 i, G.1 25 i, G.1 26 i)
def MS (G : GS) : List Ms := (List.range (G.1 20 0)).map (msAt G)
theorem MS_len (G : GS) : (MS G).length = G.1 20 0 := by simp [MS]
theorem MS_at {G : GS} {i : Nat} (h : i < G.1 20 0) : (MS G)[i]? = some (msAt G i) := by
  unfold MS
  rw [List.getElem?_map, List.getElem?_range h]
  rfl
theorem MS_in {G : GS} {i : Nat} (h : i < G.1 20 0) : msAt G i ∈ MS G := List.mem_of_getElem? (MS_at h)
theorem MS_c {G G' : GS} (h : ∀ j, 20 ≤ j → j ≤ 26 → G'.1 j = G.1 j) : MS G' = MS G := by
  unfold MS
  rw [h 20 (by decide) (by decide)]
  congr 1
  funext i
  unfold msAt
  rw [h 21 (by decide) (by decide), h 22 (by decide) (by decide), h 23 (by decide) (by decide), h 24 (by decide) (by decide), h 25 (by decide) (by decide), h 26 (by decide) (by decide)]
theorem MS_push (G : GS) (v w k e a b : Nat) : MS (pushM G v w k e a b) = MS G ++ [(v, w, k, e, a, b)] := by
  unfold MS
  rw [pushM_20, List.range_succ, List.map_append]
  congr 1
  · apply List.map_congr_left
    intro i hi
    have hi' : i < G.1 20 0 := List.mem_range.mp hi
    unfold msAt
    rw [pushM_21, pushM_22, pushM_23, pushM_24, pushM_25, pushM_26, if_neg (by omega), if_neg (by omega), if_neg (by omega), if_neg (by omega), if_neg (by omega), if_neg (by omega)]
  · show [msAt (pushM G v w k e a b) (G.1 20 0)] = _
    unfold msAt
    rw [pushM_21, pushM_22, pushM_23, pushM_24, pushM_25, pushM_26, if_pos rfl, if_pos rfl, if_pos rfl, if_pos rfl, if_pos rfl, if_pos rfl]
theorem MS_stk {G : GS} {m : Nat} (hm : m < G.1 20 0) : MS (stk G m) = (MS G).take m ++ (MS G).drop (m + 1) := by
  apply List.ext_getElem?
  intro i
  have h20 := stk_20 G m
  have hl : ((MS G).take m).length = m := by rw [List.length_take, MS_len]; omega
  by_cases hi : i < G.1 20 0 - 1
  · rw [MS_at (by rw [h20]; exact hi)]
    have hs : msAt (stk G m) i = msAt G (if i < m then i else i + 1) := by
      unfold msAt
      rw [stk_at G m (by decide) hi, stk_at G m (by decide) hi, stk_at G m (by decide) hi, stk_at G m (by decide) hi, stk_at G m (by decide) hi, stk_at G m (by decide) hi]
      split <;> rfl
    rw [hs]
    by_cases him : i < m
    · rw [if_pos him, List.getElem?_append_left (by omega), List.getElem?_take_of_lt him, MS_at (by omega)]
    · rw [if_neg him, List.getElem?_append_right (by omega), List.getElem?_drop, hl, show m + 1 + (i - m) = i + 1 from by omega, MS_at (by omega)]
  · rw [List.getElem?_eq_none (by rw [MS_len, h20]; omega), List.getElem?_eq_none (by rw [List.length_append, List.length_drop, hl, MS_len]; omega)]
theorem MS_split {G : GS} {m : Nat} (hm : m < G.1 20 0) : MS G = (MS G).take m ++ msAt G m :: (MS G).drop (m + 1) := by
  have hl : m < (MS G).length := by rw [MS_len]; exact hm
  have e : (MS G)[m]'hl = msAt G m := by
    have := MS_at hm
    rw [List.getElem?_eq_getElem hl] at this
    exact Option.some.inj this
  rw [← e, ← List.drop_eq_getElem_cons hl, List.take_append_drop]
theorem MS_stk_sub {G : GS} {m : Nat} (hm : m < G.1 20 0) : (MS (stk G m)).Sublist (MS G) := by
  rw [MS_stk hm]
  conv => rhs; rw [MS_split hm]
  exact List.Sublist.append (List.Sublist.refl _) (List.sublist_cons_self _ _)
/-- a message that losing strikes -/
def lst (w e : Nat) (m : Ms) : Bool := decide (mT m = w ∧ mE m < e)
theorem MS_losF (w e : Nat) : ∀ (n : Nat) (G : GS), n ≤ G.1 20 0 → MS (losF w e n G) = ((MS G).take n).filter (fun m => !lst w e m) ++ (MS G).drop n
  | 0, G, _ => by simp [losF]
  | n + 1, G, hn => by
    have hn' : n < G.1 20 0 := by omega
    have ht : (MS G).take (n + 1) = (MS G).take n ++ [msAt G n] := by rw [List.take_add_one, MS_at hn']; rfl
    have hd : (MS G).drop n = msAt G n :: (MS G).drop (n + 1) := by
      have hl : n < (MS G).length := by rw [MS_len]; exact hn'
      rw [List.drop_eq_getElem_cons hl]
      congr 1
      have := MS_at hn'
      rw [List.getElem?_eq_getElem hl] at this
      exact Option.some.inj this
    rw [losF]
    by_cases hc : G.1 22 n = w ∧ G.1 24 n < e
    · rw [if_pos hc, MS_losF w e n (stk G n) (by rw [stk_20]; omega), MS_stk hn', ht, List.filter_append]
      have hp : lst w e (msAt G n) = true := decide_eq_true hc
      have hl : ((MS G).take n).length = n := by rw [List.length_take, MS_len]; omega
      rw [List.take_append_of_le_length (by omega), List.take_of_length_le (by omega), List.drop_append_of_le_length (by omega), List.drop_eq_nil_of_le (by omega)]
      simp [hp]
    · rw [if_neg hc, MS_losF w e n G (by omega), ht, hd, List.filter_append]
      have hp : lst w e (msAt G n) = false := decide_eq_false hc
      simp [hp]
theorem MS_los (G : GS) (w e : Nat) : MS (los G w e) = (MS G).filter (fun m => !lst w e m) := by
  rw [los, MS_losF w e _ G (Nat.le_refl _), List.take_of_length_le (by rw [MS_len]; exact Nat.le_refl _), List.drop_eq_nil_of_le (by rw [MS_len]; exact Nat.le_refl _), List.append_nil]
theorem frF_none {G : GS} {v w n i : Nat} (hn : n ≤ G.1 20 0) (hi : G.1 20 0 - n ≤ i) (hi2 : i < G.1 20 0) (h : ∀ m, frF G v w n = some m → i < m) : ¬ (G.1 21 i = v ∧ G.1 22 i = w) := by
  induction n with
  | zero => omega
  | succ n ih =>
    rw [frF] at h
    by_cases hc : G.1 21 (G.1 20 0 - (n + 1)) = v ∧ G.1 22 (G.1 20 0 - (n + 1)) = w
    · have := h (G.1 20 0 - (n + 1)) (by rw [if_pos hc])
      omega
    · by_cases hin : i = G.1 20 0 - (n + 1)
      · rw [hin]; exact hc
      · exact ih (by omega) (by omega) (fun m hm => h m (by rw [if_neg hc]; exact hm))
theorem frs_first {G : GS} {v w m : Nat} (h : frs G v w = some m) : ∀ x ∈ (MS G).take m, ¬ (mF x = v ∧ mT x = w) := by
  intro x hx
  obtain ⟨i, hi⟩ := List.mem_iff_getElem?.mp hx
  obtain ⟨hm, -, -⟩ := frs_lt h
  have him : i < m := by
    rcases List.getElem?_eq_some_iff.mp hi with ⟨hl, -⟩
    rw [List.length_take] at hl
    omega
  rw [List.getElem?_take_of_lt him, MS_at (by omega)] at hi
  rw [← Option.some.inj hi]
  exact frF_none (n := G.1 20 0) (Nat.le_refl _) (by omega) (by omega) (fun m' hm' => by
    have : frs G v w = some m' := hm'
    rw [h] at this
    rw [← Option.some.inj this]
    exact him)
