/-! the invariant -/
theorem mk_11a : ∀ m, m < 64 → ∀ u, u < 6 → ∀ w, w < 6 → sucM m (5 - u) = some w → (u < w ∧ m.testBit w = true) := by decide +kernel
theorem mk_11c : ((List.range 64).all fun m => (List.range 6).all fun u => (List.range 6).all fun w => (List.range 6).all fun x => !(sucM m (5 - u) == some w && decide (u < x) && decide (x < w) && m.testBit x)) = true := by decide +kernel
theorem mk_11b (m : Nat) (hm : m < 64) (u : Nat) (hu : u < 6) (w : Nat) (hw : w < 6) (x : Nat) (hx : x < 6) (h : sucM m (5 - u) = some w) (h1 : u < x) (h2 : x < w) : m.testBit x = false := by
  have a := List.all_eq_true.mp mk_11c m (List.mem_range.mpr hm)
  have b := List.all_eq_true.mp a u (List.mem_range.mpr hu)
  have c := List.all_eq_true.mp b w (List.mem_range.mpr hw)
  have d := List.all_eq_true.mp c x (List.mem_range.mpr hx)
  rw [h] at d
  simpa [h1, h2] using d
theorem mk_12 : ∀ m, m < 64 → ∀ v, v < 6 → ∀ w, w < 6 → prdM m v = some w → (w < v ∧ m.testBit w = true) := by decide +kernel
theorem mk_13 : ∀ m, m < 64 → m.testBit (hdM m 5) = true ∨ m = 0 ∨ mem m = [] := by decide +kernel
theorem mk_14 : ∀ m, m < 64 → ∀ x, x < 6 → m.testBit x = true → hdM m 5 ≤ x ∧ m.testBit (hdM m 5) = true := by decide +kernel
theorem mk_15 : ∀ m, m < 64 → ∀ x, x < 6 → m.testBit x = true → 1 ≤ (mem m).length := by decide +kernel
theorem suc_sp {G : GS} (hO : OK G) {e u w : Nat} (hu : u < 6) (h : sucF G e (5 - u) = some w) : u < w ∧ w < 6 ∧ isIn G e w = true ∧ ∀ x, u < x → x < w → isIn G e x = false := by
  rw [sucF_M] at h
  have h7 : G.1 7 e ≤ 63 := hO 7 e
  have hw : w ≤ 5 := by
    have : ∀ n x, sucM (G.1 7 e) n = some x → x ≤ 5 := by
      intro n
      induction n with
      | zero => intro x hx; cases hx
      | succ n ih =>
        intro x hx
        rw [sucM] at hx
        split at hx
        · cases hx; omega
        · exact ih x hx
    exact this _ _ h
  obtain ⟨a, b⟩ := mk_11a (G.1 7 e) (by omega) u hu w (by omega) h
  exact ⟨a, by omega, b, fun x h1 h2 => mk_11b (G.1 7 e) (by omega) u hu w (by omega) x (by omega) h h1 h2⟩
theorem prd_sp {G : GS} (hO : OK G) {e v w : Nat} (hv : v < 6) (h : prdF G e v = some w) : w < v ∧ isIn G e w = true := by
  rw [prdF_M] at h
  have h7 : G.1 7 e ≤ 63 := hO 7 e
  have hw : w < v := by
    have : ∀ n x, prdM (G.1 7 e) n = some x → x < n := by
      intro n
      induction n with
      | zero => intro x hx; cases hx
      | succ n ih =>
        intro x hx
        rw [prdM] at hx
        split at hx
        · cases hx; omega
        · have := ih x hx; omega
    exact this _ _ h
  exact mk_12 (G.1 7 e) (by omega) v hv w (by omega) h
/-- configurations and nodes -/
def JA (G : GS) : Prop := (1 ≤ G.1 0 0 ∧ G.1 0 0 ≤ 6) ∧ (1 ≤ G.1 8 0 ∧ G.1 8 0 + (mem (G.1 7 (G.1 8 0))).length ≤ 2 * G.1 0 0) ∧ (∀ v, v < G.1 0 0 → 1 ≤ G.1 3 v ∧ G.1 3 v ≤ G.1 8 0 ∧ isIn G (G.1 3 v) v = true) ∧ (∀ v, G.1 0 0 ≤ v → G.1 1 v = 0 ∧ G.1 2 v = 0) ∧ (∀ e w, e ≤ G.1 8 0 → isIn G e w = true → w < G.1 0 0) ∧ (∀ v, G.1 1 v = 1 → isIn G (G.1 8 0) v = true) ∧ (∀ v w e, G.1 1 v = 1 → v < w → e ≤ G.1 8 0 → isIn G e w = true → isIn G e v = true) ∧ (∀ e0 e u w, e0 ≤ e → e ≤ G.1 8 0 → u < w → isIn G e0 w = true → isIn G e u = true → isIn G e0 u = true) ∧ (∃ v, G.1 1 v = 1 ∧ G.1 2 v = 1) ∧ ∀ v w, G.1 1 v = 1 → v < w → G.1 2 w = 1 → G.1 2 v = 1
/-- lengths -/
def JN (G : GS) : Prop := (∀ v, ¬ G.1 2 v = 1 → G.1 4 v = 0 ∧ G.1 5 v = 0) ∧ (∀ v, G.1 5 v ≤ G.1 4 v) ∧ ∀ v w, G.1 1 v = 1 → v < w → G.1 4 w ≤ G.1 4 v
/-- reads -/
def JC (G : GS) : Prop := ∀ c, c < 3 → G.1 13 c = 3 → G.2 29 c = nI (G.1 17 c)
def dU (k : Nat) : Nat := if k = 1 then 1 else 0
def cur (G : GS) (m : Ms) : Prop := (mK m = 3 ∧ G.1 1 (mF m) = 1 ∧ mE m = G.1 3 (mF m)) ∨ mK m = 4
/-- a message -/
def MO (G : GS) (m : Ms) : Prop := (1 ≤ mK m ∧ mK m ≤ 5) ∧ (mF m < G.1 0 0 ∧ mT m < G.1 0 0 ∧ G.1 1 (mT m) = 1) ∧ (G.1 3 (mT m) ≤ mE m ∧ mE m ≤ G.1 3 (mF m)) ∧
  (mK m = 1 ∨ mK m = 5 → (sucF G (mE m) (5 - mF m) = some (mT m) ∧ isIn G (mE m) (mF m) = true ∧ G.1 2 (mF m) = 1) ∧ (mA m ≤ G.1 4 (mF m) ∧ mB m ≤ mA m) ∧ ∀ x, mF m < x → x ≤ mT m → G.1 4 x + dU (mK m) ≤ mA m) ∧
  (mK m = 2 → mA m ≤ G.1 4 (mT m)) ∧ (mK m = 3 → mA m ≤ 3 ∧ mB m ≤ 2) ∧ (mK m = 4 → mB m ≤ 2 ∧ mE m = G.1 3 (mT m) ∧ G.1 13 (mB m) = 3 ∧ G.1 17 (mB m) = mT m) ∧
  (mK m = 3 → G.1 1 (mF m) = 1 → mE m = G.1 3 (mF m) → G.1 13 (mB m) = 3 ∧ G.1 17 (mB m) = mF m)
def MP (G : GS) (m m' : Ms) : Prop := ((mK m = 1 ∨ mK m = 5) → (mK m' = 1 ∨ mK m' = 5) → mF m = mF m' → mT m = mT m' → mA m + dU (mK m') ≤ mA m') ∧ ¬ (cur G m ∧ cur G m' ∧ mB m = mB m')
def JM (G : GS) : Prop := (∀ m ∈ MS G, MO G m) ∧ (MS G).Pairwise (MP G)
def sm (G : GS) (j : Nat) : Nat := G.1 j 0 + G.1 j 1 + G.1 j 2 + G.1 j 3 + G.1 j 4 + G.1 j 5
/-- time and numbers, k calls done -/
def JT (k : Nat) (G : GS) : Prop := (∀ w, isIn G (G.1 8 0) w = true → G.1 1 w = 0 → G.1 28 w ≤ G.1 27 0 ∧ G.1 6 w = G.1 27 0 - G.1 28 w) ∧ (∀ v, G.1 1 v = 1 ∨ G.1 0 0 ≤ v → G.1 6 v = 0) ∧ (∀ w, G.1 6 w ≤ G.1 27 0) ∧ G.1 27 0 ≤ k ∧ (∀ v, G.1 0 0 ≤ v → G.1 28 v = 0 ∧ G.1 3 v = 0) ∧ ∀ c, G.1 14 c ≤ k
def JB (k : Nat) (G : GS) : Prop := G.1 20 0 ≤ k + 4 * sm G 3 + sm G 4
def KI (G : GS) : Prop := OK G ∧ JA G ∧ JN G ∧ JC G ∧ JM G
def INV (k : Nat) (G : GS) : Prop := KI G ∧ JT k G ∧ JB k G
theorem JA.m6 {G : GS} (h : JA G) {v : Nat} (hv : v < G.1 0 0) : v < 6 := Nat.lt_of_lt_of_le hv h.1.2
theorem JA.mk {G : GS} (h : JA G) {v : Nat} (hv : G.1 1 v = 1) : v < G.1 0 0 := by
  rcases Nat.lt_or_ge v (G.1 0 0) with h1 | h1
  · exact h1
  · rw [(h.2.2.2.1 v h1).1] at hv; cases hv
theorem JA.rk {G : GS} (h : JA G) {v : Nat} (hv : G.1 2 v = 1) : v < G.1 0 0 := by
  rcases Nat.lt_or_ge v (G.1 0 0) with h1 | h1
  · exact h1
  · rw [(h.2.2.2.1 v h1).2] at hv; cases hv
theorem KI.wf {G : GS} (h : KI G) : WF G := by
  obtain ⟨hO, hA, hN, -, -⟩ := h
  exact ⟨hA.1, ⟨hA.2.1.1, hO 8 0⟩, hA.2.2.1, fun v hv => (hA.2.2.2.1 v hv).1, hA.2.2.2.2.1, hN.2.1⟩
theorem KI.hh {G : GS} (h : KI G) : HH G ∧ ∀ v, G.1 1 v = 1 → hdo G ≤ v := by
  obtain ⟨hO, hA, -, -, -⟩ := h
  have h7 : G.1 7 (G.1 8 0) ≤ 63 := hO 7 _
  have hx : ∀ v, G.1 1 v = 1 → hdo G ≤ v ∧ isIn G (G.1 8 0) (hdo G) = true := fun v hv => by
    have := mk_14 (G.1 7 (G.1 8 0)) (by omega) v (hA.m6 (hA.mk hv)) (hA.2.2.2.2.2.1 v hv)
    unfold hdo isIn
    rw [hdF_hdM]
    exact this
  obtain ⟨v, hv, -⟩ := hA.2.2.2.2.2.2.2.2.1
  exact ⟨(hx v hv).2, fun v hv => (hx v hv).1⟩
theorem KI.hdr {G : GS} (h : KI G) (h1 : G.1 1 (hdo G) = 1) : G.1 2 (hdo G) = 1 := by
  have hh := h.hh.2
  obtain ⟨hO, hA, -, -, -⟩ := h
  obtain ⟨v, hv, hr⟩ := hA.2.2.2.2.2.2.2.2.1
  rcases Nat.lt_or_ge (hdo G) v with hl | hl
  · exact hA.2.2.2.2.2.2.2.2.2 _ v h1 hl hr
  · have := hh v hv
    rw [show hdo G = v by omega]; exact hr
theorem KI.n11 {G : GS} (h : KI G) : G.1 8 0 ≤ 11 := by
  obtain ⟨hO, hA, -, -, -⟩ := h
  have h7 : G.1 7 (G.1 8 0) ≤ 63 := hO 7 _
  obtain ⟨v, hv, -⟩ := hA.2.2.2.2.2.2.2.2.1
  have := mk_15 (G.1 7 (G.1 8 0)) (by omega) v (hA.m6 (hA.mk hv)) (hA.2.2.2.2.2.1 v hv)
  have h2 := hA.2.1.2
  have h3 := hA.1.2
  omega
/-- fields that configurations hang on -/
theorem JA.c {G G' : GS} (h : JA G) (h0 : G'.1 0 = G.1 0) (h1 : G'.1 1 = G.1 1) (h2 : G'.1 2 = G.1 2) (h3 : G'.1 3 = G.1 3) (h7 : G'.1 7 = G.1 7) (h8 : G'.1 8 = G.1 8) : JA G' := by
  unfold JA isIn at h ⊢
  rw [h0, h1, h2, h3, h7, h8]
  exact h
theorem JN.c {G G' : GS} (h : JN G) (h1 : G'.1 1 = G.1 1) (h2 : G'.1 2 = G.1 2) (h4 : G'.1 4 = G.1 4) (h5 : G'.1 5 = G.1 5) : JN G' := by
  unfold JN at h ⊢
  rw [h1, h2, h4, h5]
  exact h
theorem cur_c {G G' : GS} (h1 : G'.1 1 = G.1 1) (h3 : G'.1 3 = G.1 3) (m : Ms) : cur G' m = cur G m := by
  unfold cur
  rw [h1, h3]
theorem MP_c {G G' : GS} (h1 : G'.1 1 = G.1 1) (h3 : G'.1 3 = G.1 3) : MP G' = MP G := by
  funext m m'
  unfold MP
  rw [cur_c h1 h3, cur_c h1 h3]
theorem sucF_cc {G G' : GS} {e : Nat} (h7 : G'.1 7 e = G.1 7 e) (n : Nat) : sucF G' e n = sucF G e n := by
  rw [sucF_M, sucF_M, h7]
/-- what keeps a message right -/
theorem MO.mono {G G' : GS} {m : Ms} (h : MO G m) (h0 : G'.1 0 = G.1 0) (h1 : G'.1 1 = G.1 1) (h3 : G'.1 3 = G.1 3) (h7 : G'.1 7 = G.1 7) (h2 : ∀ v, G.1 2 v = 1 → G'.1 2 v = 1) (h4 : ∀ x, G.1 4 x ≤ G'.1 4 x) (h4' : mK m = 1 ∨ mK m = 5 → ∀ x, mF m < x → x ≤ mT m → G'.1 4 x + dU (mK m) ≤ mA m) (h13 : cur G m → G.1 13 (mB m) = 3 → G'.1 13 (mB m) = 3 ∧ G'.1 17 (mB m) = G.1 17 (mB m)) : MO G' m := by
  obtain ⟨a, b, c, d, e, f, g, i⟩ := h
  unfold MO
  rw [h0, h1, h3]
  refine ⟨a, b, c, fun hk => ?_, fun hk => Nat.le_trans (e hk) (h4 _), f, fun hk => ?_, fun hk q1 q2 => ?_⟩
  · obtain ⟨⟨d1, d2, d3⟩, ⟨d4, d5⟩, d6⟩ := d hk
    refine ⟨⟨?_, ?_, h2 _ d3⟩, ⟨Nat.le_trans d4 (h4 _), d5⟩, h4' hk⟩
    · rw [sucF_cc (G := G) (G' := G') (by rw [h7])]; exact d1
    · rw [isIn_c h7]; exact d2
  · obtain ⟨g1, g2, g3, g4⟩ := g hk
    obtain ⟨x1, x2⟩ := h13 (Or.inr hk) g3
    exact ⟨g1, g2, x1, x2.trans g4⟩
  · obtain ⟨i1, i2⟩ := i hk q1 q2
    obtain ⟨x1, x2⟩ := h13 (Or.inl ⟨hk, q1, q2⟩) i1
    exact ⟨x1, x2.trans i2⟩
theorem JM.same {G G' : GS} (h : JM G) (hs : (MS G').Sublist (MS G)) (h0 : G'.1 0 = G.1 0) (h1 : G'.1 1 = G.1 1) (h3 : G'.1 3 = G.1 3) (h7 : G'.1 7 = G.1 7) (h2 : ∀ v, G.1 2 v = 1 → G'.1 2 v = 1) (h4 : ∀ x, G.1 4 x ≤ G'.1 4 x) (h4' : ∀ m ∈ MS G', mK m = 1 ∨ mK m = 5 → ∀ x, mF m < x → x ≤ mT m → G'.1 4 x + dU (mK m) ≤ mA m) (h13 : ∀ m ∈ MS G', cur G m → G.1 13 (mB m) = 3 → G'.1 13 (mB m) = 3 ∧ G'.1 17 (mB m) = G.1 17 (mB m)) : JM G' :=
  ⟨fun m hm => (h.1 m (hs.subset hm)).mono h0 h1 h3 h7 h2 h4 (h4' m hm) (h13 m hm), by rw [MP_c h1 h3]; exact h.2.sublist hs⟩
/-- lengths alike: a message's bound stays -/
theorem MO.b4 {G G' : GS} {m : Ms} (h : MO G m) (h4 : G'.1 4 = G.1 4) : mK m = 1 ∨ mK m = 5 → ∀ x, mF m < x → x ≤ mT m → G'.1 4 x + dU (mK m) ≤ mA m := fun hk x h1 h2 => by
  rw [h4]; exact (h.2.2.2.1 hk).2.2 x h1 h2
theorem MO.c {G G' : GS} {m : Ms} (h : MO G m) (h0 : G'.1 0 = G.1 0) (h1 : G'.1 1 = G.1 1) (h2 : G'.1 2 = G.1 2) (h3 : G'.1 3 = G.1 3) (h4 : G'.1 4 = G.1 4) (h7 : G'.1 7 = G.1 7) (h13 : G'.1 13 = G.1 13) (h17 : G'.1 17 = G.1 17) : MO G' m :=
  h.mono h0 h1 h3 h7 (fun v hv => by rw [h2]; exact hv) (fun x => by rw [h4]; exact Nat.le_refl _) (h.b4 h4) (fun _ q => ⟨by rw [h13]; exact q, by rw [h17]⟩)
