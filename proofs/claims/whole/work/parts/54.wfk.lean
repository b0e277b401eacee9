/-! WF is kept -/
theorem WF.w_stl {G : GS} (h : WF G) (v : Nat) : WF (stl G v) := by
  refine h.c (stl_ne _ _ (by decide) (by decide) (by decide)) (stl_ne _ _ (by decide) (by decide) (by decide)) (stl_ne _ _ (by decide) (by decide) (by decide)) (stl_ne _ _ (by decide) (by decide) (by decide)) (stl_ne _ _ (by decide) (by decide) (by decide)) (fun u => ?_)
  rw [stl_ne (j := 4) _ _ (by decide) (by decide) (by decide)]
  by_cases e : u = v
  · subst e; rw [stl_5]; exact Nat.le_refl _
  · rw [stl_5n _ e]; exact h.2.2.2.2.2 u
theorem WF.w_hol {G : GS} (h : WF G) (v k : Nat) (x : Int32) (c r : Nat) : WF (hol G v k x c r) := by
  refine h.c (hol_ne _ _ _ _ _ _ (by decide) (by decide) (by decide) (by decide)) (hol_ne _ _ _ _ _ _ (by decide) (by decide) (by decide) (by decide)) (hol_ne _ _ _ _ _ _ (by decide) (by decide) (by decide) (by decide)) (hol_ne _ _ _ _ _ _ (by decide) (by decide) (by decide) (by decide)) (hol_ne _ _ _ _ _ _ (by decide) (by decide) (by decide) (by decide)) (fun u => ?_)
  rw [hol_ne (j := 5) _ _ _ _ _ _ (by decide) (by decide) (by decide) (by decide)]
  exact Nat.le_trans (h.2.2.2.2.2 u) (hol_4a _ _ _ _ _ _ _)
theorem WF.w_snd {G : GS} (h : WF G) (v : Nat) (w : Option Nat) (k a b : Nat) : WF (snd G v w k a b) := by
  refine h.c (snd_ne _ _ _ _ _ _ (by decide)) (snd_ne _ _ _ _ _ _ (by decide)) (snd_ne _ _ _ _ _ _ (by decide)) (snd_ne _ _ _ _ _ _ (by decide)) (snd_ne _ _ _ _ _ _ (by decide)) (fun u => ?_)
  rw [snd_ne (j := 5) _ _ _ _ _ _ (by decide), snd_ne (j := 4) _ _ _ _ _ _ (by decide)]
  exact h.2.2.2.2.2 u
theorem WF.w_tol {G : GS} (h : WF G) (v : Nat) : WF (tol G v) := by
  unfold tol
  split
  · exact (h.w_stl v).w_snd _ _ _ _ _
  · exact h.w_snd _ _ _ _ _
theorem WF.w_tak {G : GS} (h : WF G) (v k : Nat) (x : Int32) (c r : Nat) : WF (tak G v k x c r) := (h.w_hol v k x c r).w_tol v
theorem WF.w_N {G : GS} (h : WF G) {j i n : Nat} (hj : j ≠ 0 ∧ j ≠ 1 ∧ j ≠ 3 ∧ j ≠ 4 ∧ j ≠ 5 ∧ j ≠ 7 ∧ j ≠ 8) : WF (gN G j i n) := by
  refine h.c (gN_ne _ (by omega)) (gN_ne _ (by omega)) (gN_ne _ (by omega)) (gN_ne _ (by omega)) (gN_ne _ (by omega)) (fun u => ?_)
  rw [gN_ne (j' := 5) _ (by omega), gN_ne (j' := 4) _ (by omega)]
  exact h.2.2.2.2.2 u
theorem WF.w_V {G : GS} (h : WF G) {j i : Nat} {n : Int32} : WF (gV G j i n) := h.c rfl rfl rfl rfl rfl h.2.2.2.2.2
theorem WF.w_don {G : GS} (h : WF G) (c v i : Nat) : WF (don G c v i) := ((h.w_N (j := 13) (i := c) (n := 4) (by decide)).w_N (j := 18) (i := c) (n := i) (by decide)).w_V
theorem WF.w_5 {G : GS} (h : WF G) {i n : Nat} (hn : n ≤ G.1 4 i) : WF (gN G 5 i n) := by
  refine h.c (gN_ne _ (by decide)) (gN_ne _ (by decide)) (gN_ne _ (by decide)) (gN_ne _ (by decide)) (gN_ne _ (by decide)) (fun u => ?_)
  rw [gN_ne (j' := 4) _ (by decide)]
  by_cases e : u = i
  · subst e; rw [gN_eq]; exact hn
  · rw [gN_ni _ e]; exact h.2.2.2.2.2 u
theorem WF.w_srv {G : GS} (h : WF G) (c v : Nat) : WF (srv G c v).2 := by
  unfold srv
  split
  · exact (h.w_N (by decide)).w_don _ _ _
  · exact ((h.w_N (by decide)).w_V).w_snd _ _ _ _ _
theorem WF.w_tel {G : GS} (h : WF G) (v : Nat) : WF (tel G v) := by
  unfold tel
  split
  · exact (h.w_stl v).w_snd _ _ _ _ _
  · exact (h.w_snd _ _ _ _ _).w_snd _ _ _ _ _
theorem WF.w_stk {G : GS} (h : WF G) (m : Nat) : WF (stk G m) := by
  refine h.c (stk_ne _ _ (by decide)) (stk_ne _ _ (by decide)) (stk_ne _ _ (by decide)) (stk_ne _ _ (by decide)) (stk_ne _ _ (by decide)) (fun u => ?_)
  rw [stk_ne (j := 5) _ _ (by decide), stk_ne (j := 4) _ _ (by decide)]
  exact h.2.2.2.2.2 u
/-- what a message of kind k holds beside its head -/
def PLd (S : Sto) (q : Nat) (u : Nat → Nat → Nat) (k v a b : Nat) : Prop := (k = 1 → sP S 228 q = some (u v a)) ∧ (k = 2 ∨ k = 4 ∨ k = 5 → sI S 229 q = nI a) ∧ (k = 5 → sI S 230 q = nI b) ∧ (k = 3 → sI S 231 q = nI a) ∧ (k = 3 ∨ k = 4 → sI S 232 q = nI b)
theorem snd_no {G : GS} {v k a b : Nat} {w : Option Nat} (hO : OK G) (hw : ∀ x, w = some x → x ≤ 5) (h : (inN (oI w) 5 && G.1 1 (ix (oI w)) == 1) = false) : snd G v w k a b = G := by
  cases w with
  | none => rfl
  | some x =>
    have hx := hw x rfl
    have hb : G.1 1 x ≤ 1 := hO 1 x
    have e1 : oI (some x) = nI x := rfl
    rw [e1, inN_n hx, ix_n (by omega)] at h
    simp at h
    rw [snd, if_pos (Or.inl (by omega))]
theorem snd_yes {G : GS} {v k a b x : Nat} (h1 : G.1 1 x = 1) (h : ¬ G.1 3 v < G.1 3 x) : snd G v (some x) k a b = pushM G v x k (G.1 3 v) a b := by rw [snd, if_neg (by omega)]
theorem snd_old {G : GS} {v k a b x : Nat} (h : G.1 3 v < G.1 3 x) : snd G v (some x) k a b = G := by rw [snd, if_pos (Or.inr h)]
