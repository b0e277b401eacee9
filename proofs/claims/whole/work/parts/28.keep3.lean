/-! what pure steps keep, for the calls -/
theorem and1 {s : Nat} (h : s ≤ 4) : (nI s &&& nI 1 = nI 1) ↔ s % 2 = 1 := by
  have : ∀ s, s < 5 → ((nI s &&& nI 1 = nI 1) ↔ s % 2 = 1) := by decide +kernel
  exact this s (by omega)
theorem or1 {g w : Nat} (hg : g ≤ 63) (hw : w ≤ 5) : nI g ||| (nI 1 <<< (nI w &&& 31)) = nI (g ||| 1 <<< w) := by
  have : ∀ g, g < 64 → ∀ w, w < 6 → nI g ||| (nI 1 <<< (nI w &&& 31)) = nI (g ||| 1 <<< w) := by decide +kernel
  exact this g (by omega) w (by omega)
theorem or63 {g w : Nat} (hg : g ≤ 63) (hw : w ≤ 5) : g ||| 1 <<< w ≤ 63 := by
  have : ∀ g, g < 64 → ∀ w, w < 6 → g ||| 1 <<< w ≤ 63 := by decide +kernel
  exact this g (by omega) w (by omega)
theorem andn {m g : Nat} (hm : m ≤ 63) (hg : g ≤ 63) : nI m &&& (nI g ^^^ (-1)) = nI (m &&& (63 - g)) := by
  have : ∀ m, m < 64 → ∀ g, g < 64 → nI m &&& (nI g ^^^ (-1)) = nI (m &&& (63 - g)) := by decide +kernel
  exact this m (by omega) g (by omega)
theorem ix_n {j : Nat} (h : j < 2 ^ 31) : ix (nI j) = j := nI_clamp h
theorem stk_ne (G : GS) (m : Nat) {j : Nat} (h : j < 20 ∨ 26 < j) : (stk G m).1 j = G.1 j := by
  funext i
  have h2 : ¬ (21 ≤ j ∧ j ≤ 26 ∧ m ≤ i ∧ i < G.1 20 0 - 1) := by omega
  have h3 : ¬ (j = 20 ∧ i = 0) := by omega
  simp only [stk, stkT]
  rw [if_neg h2, if_neg h3]
theorem stk_20 (G : GS) (m : Nat) : (stk G m).1 20 0 = G.1 20 0 - 1 := stkT_20 _ _ _
theorem losF_ne (w e : Nat) {j : Nat} (h : j < 20 ∨ 26 < j) : ∀ (n : Nat) (G : GS), (losF w e n G).1 j = G.1 j
  | 0, _ => rfl
  | m + 1, G => by
    rw [losF]
    split
    · rw [losF_ne w e h m, stk_ne _ _ h]
    · rw [losF_ne w e h m]
theorem los_ne (G : GS) (w e : Nat) {j : Nat} (h : j < 20 ∨ 26 < j) : (los G w e).1 j = G.1 j := losF_ne w e h _ G
theorem losF_20 (w e : Nat) : ∀ (n : Nat) (G : GS), (losF w e n G).1 20 0 ≤ G.1 20 0
  | 0, _ => Nat.le_refl _
  | m + 1, G => by
    rw [losF]
    split
    · have := losF_20 w e m (stk G m)
      rw [stk_20] at this
      omega
    · exact losF_20 w e m G
theorem los_20 (G : GS) (w e : Nat) : (los G w e).1 20 0 ≤ G.1 20 0 := losF_20 w e _ G
theorem losF_2 (w e : Nat) : ∀ (n : Nat) (G : GS), (losF w e n G).2 = G.2
  | 0, _ => rfl
  | m + 1, G => by
    rw [losF]
    split
    · rw [losF_2 w e m]; rfl
    · rw [losF_2 w e m]
theorem ok_los {G : GS} {w e : Nat} (h : OK G) : OK (los G w e) := ok_losF _ G h
theorem frF_lt {G : GS} {v w n m : Nat} (hn : n ≤ G.1 20 0) (h : frF G v w n = some m) : m < G.1 20 0 ∧ G.1 21 m = v ∧ G.1 22 m = w := by
  induction n with
  | zero => cases h
  | succ n ih =>
    rw [frF] at h
    split at h
    · rename_i hh
      cases h
      exact ⟨by omega, hh.1, hh.2⟩
    · exact ih (by omega) h
theorem frs_lt {G : GS} {v w m : Nat} (h : frs G v w = some m) : m < G.1 20 0 ∧ G.1 21 m = v ∧ G.1 22 m = w := frF_lt (Nat.le_refl _) h
theorem wtN_le (G : GS) (v w : Nat) : ∀ n, wtN G v w n ≤ n
  | 0 => Nat.le_refl _
  | n + 1 => by
    rw [wtN]
    have := wtN_le G v w n
    split <;> omega
theorem tcS_ne (G : GS) {j : Nat} (h : j ≠ 6) : ∀ w, (tcS w G).1 j = G.1 j
  | 0 => rfl
  | w + 1 => by
    rw [tcS]
    split
    · rw [gN_ne _ h, tcS_ne G h w]
    · rw [tcS_ne G h w]
theorem tcS_2 (G : GS) : ∀ w, (tcS w G).2 = G.2
  | 0 => rfl
  | w + 1 => by
    rw [tcS]
    split
    · rw [gN_2, tcS_2 G w]
    · rw [tcS_2 G w]
theorem tcS_6 (G : GS) : ∀ w i, w ≤ i → (tcS w G).1 6 i = G.1 6 i
  | 0, _, _ => rfl
  | w + 1, i, hi => by
    rw [tcS]
    split
    · rw [gN_ni _ (by omega), tcS_6 G w i (by omega)]
    · rw [tcS_6 G w i (by omega)]
theorem tcG_le (G : GS) : ∀ w, w ≤ 6 → tcG G w ≤ 63
  | 0, _ => Nat.zero_le _
  | w + 1, h => by
    rw [tcG]
    have := tcG_le G w (by omega)
    split
    · exact or63 this (by omega)
    · exact this
/-- bounds without that of the silent ones -/
def OK6 (G : GS) : Prop := ∀ j i, j ≠ 6 → G.1 j i ≤ mbd j
theorem vrN_le (G : GS) (v k n : Nat) : ∀ i left r, r ≤ 100 → i + n ≤ 101 → vrN G v k n i left r ≤ 100 := by
  induction n with
  | zero => intro i left r hr _; exact hr
  | succ n ih =>
    intro i left r hr hi
    rw [vrN]
    split
    · exact hr
    · split
      · exact ih _ _ _ (by omega) (by omega)
      · exact ih _ _ _ hr (by omega)
theorem vrX_le {G : GS} (h : OK G) (hse : ∀ v, G.1 5 v ≤ G.1 4 v) (v k a : Int32) : vrX G v k a ≤ 100 := by
  have h4 : G.1 4 (ix v) ≤ 100 := h 4 _
  have := hse (ix v)
  exact vrN_le G _ _ _ _ _ _ (clN_le h _ _) (by omega)
