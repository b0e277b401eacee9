/-! configurations as masks of six bits: neighbours, ends, members in order -/
def prdM (m : Nat) : Nat → Option Nat
  | 0 => none
  | w + 1 => if m.testBit w = true then some w else prdM m w
def sucM (m : Nat) : Nat → Option Nat
  | 0 => none
  | n + 1 => if m.testBit (5 - n) = true then some (5 - n) else sucM m n
def mbM (m : Nat) : Nat → Nat → Option Nat
  | 0, _ => none
  | n + 1, k => if m.testBit (5 - n) = true then (if k = 0 then some (5 - n) else mbM m n (k - 1)) else mbM m n k
theorem prdF_M (G : GS) (e n : Nat) : prdF G e n = prdM (G.1 7 e) n := by
  induction n with
  | zero => rfl
  | succ n ih => rw [prdF, prdM, isIn, ih]
theorem sucF_M (G : GS) (e n : Nat) : sucF G e n = sucM (G.1 7 e) n := by
  induction n with
  | zero => rfl
  | succ n ih => rw [sucF, sucM, isIn, ih]
theorem mbN_M (G : GS) (e n : Nat) : ∀ k, mbN G e n k = mbM (G.1 7 e) n k := by
  induction n with
  | zero => intro k; rfl
  | succ n ih => intro k; rw [mbN, mbM, isIn, ih, ih]
theorem mbM_lt {m n : Nat} : ∀ {k x : Nat}, mbM m n k = some x → k < n := by
  induction n with
  | zero => intro k x h; cases h
  | succ n ih =>
    intro k x h
    rw [mbM] at h
    split at h
    · split at h
      · omega
      · have := ih h; omega
    · have := ih h; omega
theorem mk_1 : ∀ m, m < 64 → (mem m)[0]? = sucM m 6 ∧ (mem m)[(mem m).length - 1]? = prdM m 6 := by decide +kernel
def ixo (m v : Nat) : Nat := (mem m).idxOf v
theorem mk_2a : ∀ m, m < 64 → ∀ v, v < 6 → m.testBit v = true → (mem m)[ixo m v]? = some v := by decide +kernel
theorem mk_2b : ∀ m, m < 64 → ∀ v, v < 6 → ixo m v < 7 := by decide +kernel
theorem mk_2c : ∀ m, m < 64 → ∀ v, v < 6 → m.testBit v = true → (mem m)[ixo m v + 1]? = sucM m (5 - v) := by decide +kernel
theorem mk_2d : ∀ m, m < 64 → ∀ v, v < 6 → m.testBit v = true → ixo m v = 0 → prdM m v = none := by decide +kernel
theorem mk_2e : ∀ m, m < 64 → ∀ v, v < 6 → m.testBit v = true → ¬ ixo m v = 0 → (mem m)[ixo m v - 1]? = prdM m v := by decide +kernel
theorem mk_2 (m : Nat) (hm : m < 64) (v : Nat) (hv : v < 6) (hb : m.testBit v = true) : (mem m)[ixo m v]? = some v ∧ ixo m v < 7 ∧ (mem m)[ixo m v + 1]? = sucM m (5 - v) ∧ (ixo m v = 0 → prdM m v = none) ∧ (¬ ixo m v = 0 → (mem m)[ixo m v - 1]? = prdM m v) := ⟨mk_2a m hm v hv hb, mk_2b m hm v hv, mk_2c m hm v hv hb, mk_2d m hm v hv hb, mk_2e m hm v hv hb⟩
theorem mk_3 : ∀ m, m < 64 → ∀ v, v < 6 → ∀ j, j < 6 → j < ixo m v → ¬ (mem m)[j]? = some v := by decide +kernel
theorem mk_4 : ∀ m, m < 64 → ∀ v, v < 6 → m.testBit v = true → ((sucM m 6 = some v ↔ prdM m v = none) ∧ (prdM m 6 = some v ↔ sucM m (5 - v) = none)) := by decide +kernel
theorem mk_5 : ∀ m, m < 64 → ∀ k, k < 6 → (mem m)[k]? = mbM m 6 k := by decide +kernel
theorem mk_6 : ∀ m, m < 64 → (¬ (mem m).length = 0 ↔ ¬ prdM m 6 = none) := by decide +kernel
theorem mem_nth {m : Nat} (hm : m ≤ 63) (k : Nat) : (mem m)[k]? = mbM m 6 k := by
  by_cases hk : k < 6
  · exact mk_5 m (by omega) k hk
  · have h1 : (mem m)[k]? = none := List.getElem?_eq_none (by have := mem_len m; omega)
    rw [h1]
    cases h : mbM m 6 k with
    | none => rfl
    | some x => exact absurd (mbM_lt h) hk
theorem oI_inj {a : Option Nat} {v : Nat} (ha : ∀ x, a = some x → x < 2 ^ 31) (hv : v < 2 ^ 31) : oI a = nI v ↔ a = some v := by
  cases a with
  | none =>
    constructor
    · intro h
      exact absurd (congrArg Int32.toInt h) (by rw [nI_toInt hv]; show (-1 : Int) ≠ _; omega)
    · intro h; cases h
  | some x =>
    show nI x = nI v ↔ _
    rw [nI_eq (ha x rfl) hv]
    exact ⟨fun h => by rw [h], fun h => Option.some.inj h⟩
theorem mAt_o (G : GS) (e i : Nat) (hi : i < 2 ^ 31) : mAt G e (nI i) = oI (mem (G.1 7 e))[i]? := by
  unfold mAt
  rw [if_neg (nI_pos hi), ix_n hi]
  cases (mem (G.1 7 e))[i]? <;> rfl
theorem mAt_hd {G : GS} (hO : OK G) (e : Nat) : mAt G e (nI 0) = oI (sucF G e 6) := by
  have h7 : G.1 7 e ≤ 63 := hO 7 e
  rw [mAt_o G e 0 (by decide), sucF_M, (mk_1 _ (by omega)).1]
theorem mAt_tl {G : GS} (hO : OK G) (e : Nat) : mAt G e (nI (mem (G.1 7 e)).length - nI 1) = oI (tlo G e) := by
  have h7 : G.1 7 e ≤ 63 := hO 7 e
  have hl := mem_len (G.1 7 e)
  have h1 := mk_1 _ (show G.1 7 e < 64 by omega)
  have h6 := mk_6 _ (show G.1 7 e < 64 by omega)
  unfold tlo
  rw [prdF_M]
  by_cases h0 : (mem (G.1 7 e)).length = 0
  · rw [h0]
    have : prdM (G.1 7 e) 6 = none := Decidable.byContradiction (fun z => (h6.mpr z) h0)
    rw [this]
    have e1 : nI 0 - nI 1 = -1 := by decide
    rw [e1]
    rfl
  · rw [nI_sub (by omega), mAt_o _ _ _ (by omega), h1.2]
theorem hd_iff {G : GS} (hO : OK G) {e v : Nat} (hv : v < 6) (hi : isIn G e v = true) : mAt G e (nI 0) = nI v ↔ prdF G e v = none := by
  have h7 : G.1 7 e ≤ 63 := hO 7 e
  rw [mAt_hd hO, oI_inj (fun x hx => by have := (sucF_le hx).1; omega) (by omega), sucF_M, prdF_M]
  exact (mk_4 _ (by omega) v hv hi).1
theorem tl_iff {G : GS} (hO : OK G) {e v : Nat} (hv : v < 6) (hi : isIn G e v = true) : mAt G e (nI (mem (G.1 7 e)).length - nI 1) = nI v ↔ sucF G e (5 - v) = none := by
  have h7 : G.1 7 e ≤ 63 := hO 7 e
  rw [mAt_tl hO, oI_inj (fun x hx => by have := prdF_lt hx; omega) (by omega), tlo, sucF_M, prdF_M]
  exact (mk_4 _ (by omega) v hv hi).2
theorem mAt_mb {G : GS} (hO : OK G) (e : Nat) (x : Int32) : mAt G e x = if x < 0 then -1 else oI (mbN G e 6 (ix x)) := by
  have h7 : G.1 7 e ≤ 63 := hO 7 e
  unfold mAt
  by_cases h : x < 0
  · rw [if_pos h, if_pos h]
  · rw [if_neg h, if_neg h, mem_nth h7, mbN_M]
    cases mbM (G.1 7 e) 6 (ix x) <;> rfl
