/-! the reference's constructor -/
theorem nf_ref {t : FieldType} (h : (∃ n, t = .object n) ∨ ∃ e, t = .array e) (q : Option Nat) : narrow t (va_rf q) = va_rf q ∧ fits t (va_rf q) = true := by
  rcases h with ⟨n, rfl⟩ | ⟨n, rfl⟩ <;> cases q <;> exact ⟨rfl, rfl⟩
theorem nf_8 {j : Nat} (h : arj j = true) : ∃ e, tyk 8 j = .array e := by
  have : ∀ j, j < 27 → arj j = true → (tyk 8 j = .array .int ∨ tyk 8 j = .array .boolean) := by decide +kernel
  have hj : j < 27 := by
    simp only [arj, Bool.and_eq_true, decide_eq_true_eq] at h
    exact h.1.1.1
  rcases this j hj h with h | h
  · exact ⟨_, h⟩
  · exact ⟨_, h⟩
theorem fin_8 {j : Nat} (h : arj j = true) : (ctb 8 j).2.2.2 = true ∧ (ctb 8 j).1 = "ChainVersionsModel" ∧ rfk (256 + j) = true ∧ (256 + j) / 32 = 8 ∧ (256 + j) % 32 = j := by
  have : ∀ j, j < 27 → arj j = true → ((ctb 8 j).2.2.2 = true ∧ (ctb 8 j).1 = "ChainVersionsModel" ∧ rfk (256 + j) = true ∧ (256 + j) / 32 = 8 ∧ (256 + j) % 32 = j) := by decide +kernel
  have hj : j < 27 := by
    simp only [arj, Bool.and_eq_true, decide_eq_true_eq] at h
    exact h.1.1.1
  exact this j hj h
/-- arrays made so far: number of the field, address -/
def PM (o : Nat) (l : List (Nat × Nat)) (S : Sto) : Prop := sK S o = 8 ∧ (sI S 256 o = 0 ∧ sI S 264 o = 0 ∧ sI S 276 o = 0) ∧ (∀ p ∈ l, arj p.1 = true ∧ sP S (256 + p.1) o = some p.2 ∧ sK S p.2 = akd p.1 ∧ sZ S p.2 = msz p.1 ∧ ∀ i, sE S (akd p.1) p.2 i = 0) ∧ l.Pairwise (fun a b => a.2 ≠ b.2)
theorem akd_pos (j : Nat) : akd j ≠ 0 ∧ akd j ≠ 8 ∧ (akd j = 9 ∨ akd j = 10) := by
  unfold akd
  split <;> decide
theorem PM.step {o q j : Nat} {l : List (Nat × Nat)} {S : Sto} (h : PM o l S) (hq : sK S q = 0) (hj : arj j = true) (hl : ∀ p ∈ l, p.1 ≠ j) : PM o ((j, q) :: l) (setP (newA S q (akd j) (msz j)) (256 + j) o (some q)) := by
  obtain ⟨h1, h2, h3, h4⟩ := h
  have hoq : o ≠ q := fun z => by rw [z, hq] at h1; cases h1
  refine ⟨?_, h2, fun p hp => ?_, ?_⟩
  · show va_up (sK S) q (akd j) o = 8
    rw [va_up, if_neg hoq]; exact h1
  · rcases List.mem_cons.mp hp with rfl | hp
    · refine ⟨hj, ?_, ?_, ?_, fun i => ?_⟩
      · simp [setP, sP, up2]
      · simp [setP, sK, newA, va_up]
      · simp [setP, sZ, newA, va_up]
      · simp [setP, sE, newA]
    · obtain ⟨g1, g2, g3, g4, g5⟩ := h3 p hp
      have hpq : p.2 ≠ q := fun z => by rw [z, hq] at g3; exact (akd_pos p.1).1 g3.symm
      have hne := hl p hp
      refine ⟨g1, ?_, ?_, ?_, fun i => ?_⟩
      · show up2 (sP S) (256 + j) o (some q) (256 + p.1) o = some p.2
        rw [up2, if_neg (by omega)]
        exact g2
      · show va_up (sK S) q (akd j) p.2 = _
        rw [va_up, if_neg hpq]; exact g3
      · show va_up (sZ S) q (msz j) p.2 = _
        rw [va_up, if_neg hpq]; exact g4
      · have : ¬ (akd p.1 = akd j ∧ p.2 = q) := fun z => hpq z.2
        simp only [setP, sE, newA, if_neg this]
        exact g5 i
  · refine List.pairwise_cons.mpr ⟨fun p hp => ?_, h4⟩
    intro z
    have g3 := (h3 p hp).2.2.1
    rw [← z, hq] at g3
    exact (akd_pos p.1).1 g3.symm
section ROWS
variable {F : Fx} {cc : ByteArray} {pc pc' pc'' : Nat} {lv : List (Option Value)} {st : List Value} {S : Sto} {cs ss : Nat} {dF cF sF : Nat} {o : Nat}
theorem wm_newi (C : Cx F cc "ChainVersionsModel" dF cF sF) (hin : (xt F).name = "<init>") {l : List (Nat × Nat)} (h : PM o l S) (j : Nat) {n idx : Nat} (hj : arj j = true) (hk : akd j = 9) (hn : msz j = n) (hn2 : n < 100000) (hl : ∀ p ∈ l, p.1 ≠ j) (d : At cc pc (.newarray .int) 2 pc') (d2 : At cc pc' (.putfield idx) 3 pc'') (hf : FLs "ChainVersionsModel" idx (256 + j)) (hc : Cond.arrayClass .int ∈ TB) (h1 : cs + 1 ≤ cF) (h2 : ss + n ≤ sF)
    (k : ∀ (q : Nat) (S' : Sto), PM o ((j, q) :: l) S' → WS F pc'' lv st S' (cs + 1) (ss + n)) : WS F pc lv (.int (nI n) :: .ref o :: st) S cs ss := by
  subst hn
  obtain ⟨e1, e2, e3, e4, e5⟩ := fin_8 hj
  obtain ⟨et, e6⟩ := nf_8 hj
  refine ws_newi C d hn2 hc h1 h2 (fun q hq => ?_)
  have hst := h.step hq hj hl
  rw [hk] at hst
  have hoq : o ≠ q := fun z => by have := h.1; rw [z, hq] at this; cases this
  refine ws_putFR C hin (some q) rfl d2 hf e3 (by rw [e4, e5]; exact e1) (by rw [e4, e5]; exact e2) (by rw [e4, e5, e6]; exact nf_ref (Or.inr ⟨et, rfl⟩) (some q)) ?_ (k q _ hst)
  rw [e4]
  show va_up (sK S) q 9 o = 8
  rw [va_up, if_neg hoq]; exact h.1
theorem wm_newz (C : Cx F cc "ChainVersionsModel" dF cF sF) (hin : (xt F).name = "<init>") {l : List (Nat × Nat)} (h : PM o l S) (j : Nat) {n idx : Nat} (hj : arj j = true) (hk : akd j = 10) (hn : msz j = n) (hn2 : n < 100000) (hl : ∀ p ∈ l, p.1 ≠ j) (d : At cc pc (.newarray .boolean) 2 pc') (d2 : At cc pc' (.putfield idx) 3 pc'') (hf : FLs "ChainVersionsModel" idx (256 + j)) (hc : Cond.arrayClass .boolean ∈ TB) (h1 : cs + 1 ≤ cF) (h2 : ss + n ≤ sF)
    (k : ∀ (q : Nat) (S' : Sto), PM o ((j, q) :: l) S' → WS F pc'' lv st S' (cs + 1) (ss + n)) : WS F pc lv (.int (nI n) :: .ref o :: st) S cs ss := by
  subst hn
  obtain ⟨e1, e2, e3, e4, e5⟩ := fin_8 hj
  obtain ⟨et, e6⟩ := nf_8 hj
  refine ws_newz C d hn2 hc h1 h2 (fun q hq => ?_)
  have hst := h.step hq hj hl
  rw [hk] at hst
  have hoq : o ≠ q := fun z => by have := h.1; rw [z, hq] at this; cases this
  refine ws_putFR C hin (some q) rfl d2 hf e3 (by rw [e4, e5]; exact e1) (by rw [e4, e5]; exact e2) (by rw [e4, e5, e6]; exact nf_ref (Or.inr ⟨et, rfl⟩) (some q)) ?_ (k q _ hst)
  rw [e4]
  show va_up (sK S) q 10 o = 8
  rw [va_up, if_neg hoq]; exact h.1
end ROWS
theorem pw_eq {l : List (Nat × Nat)} (h : l.Pairwise (fun a b => a.2 ≠ b.2)) {p q : Nat × Nat} (hp : p ∈ l) (hq : q ∈ l) (e : p.2 = q.2) : p = q := by
  induction l with
  | nil => cases hp
  | cons a t ih =>
    obtain ⟨h1, h2⟩ := List.pairwise_cons.mp h
    rcases List.mem_cons.mp hp with hp1 | hp1
    · rcases List.mem_cons.mp hq with hq1 | hq1
      · rw [hp1, hq1]
      · exact absurd (by rw [← hp1]; exact e) (h1 q hq1)
    · rcases List.mem_cons.mp hq with hq1 | hq1
      · exact absurd (by rw [← hq1]; exact e.symm) (h1 p hp1)
      · exact ih h2 hp1 hq1
/-- everything zero -/
def G0 : GS := (fun _ _ => 0, fun _ _ => 0)
theorem PM.done {o : Nat} {l : List (Nat × Nat)} {S : Sto} (h : PM o l S) (ad : Nat → Nat) (had : ∀ j, arj j = true → (j, ad j) ∈ l) : MR o ad G0 S := by
  obtain ⟨h1, h2, h3, h4⟩ := h
  refine ⟨h1, fun j hj => ?_, fun j j' hj hj' e => ?_, ?_, fun j i hj hi => ?_⟩
  · obtain ⟨g1, g2, g3, g4, g5⟩ := h3 _ (had j hj)
    exact ⟨g2, g3, g4⟩
  · have := pw_eq h4 (had j hj) (had j' hj') e
    exact congrArg Prod.fst this
  · rw [h2.1, h2.2.1, h2.2.2]; exact ⟨rfl, rfl, rfl⟩
  · obtain ⟨g1, g2, g3, g4, g5⟩ := h3 _ (had j hj)
    rw [g5 i]
    unfold mv G0
    split <;> rfl
theorem arr_I : Cond.arrayClass .int ∈ TB := by decide +kernel
theorem arr_Z : Cond.arrayClass .boolean ∈ TB := by decide +kernel
theorem obj_1 : Cond.instanceMethod objectInit ∈ TB := by decide +kernel
theorem obj_2 : Cond.code objectInit ⟨#[0xb1]⟩ 1 none ∈ TB := by decide +kernel
/-- the number of nodes at the start -/
def mkN (x : Int32) : Nat := if x < 1 then 1 else if 3 < x then 3 else ix x
/-- the start with m nodes, n of them laid -/
def inT (m n : Nat) : GS := (fun j i => if (j = 1 ∨ j = 2 ∨ j = 3) ∧ i < n then 1 else if j = 0 ∧ i = 0 then m else if j = 8 ∧ i = 0 then 1 else if j = 7 ∧ i = 1 then 2 ^ m - 1 else 0, fun j _ => if j = 29 then -1 else 0)
def iniG (x : Int32) : GS := inT (mkN x) (mkN x)
theorem inT_0 (m : Nat) : (gN (gN (gN G0 0 0 m) 8 0 1) 7 1 (2 ^ m - 1)).1 = (inT m 0).1 := by
  funext j i
  simp only [gN_1, inT, G0]
  have : ¬ ((j = 1 ∨ j = 2 ∨ j = 3) ∧ i < 0) := by omega
  rw [if_neg this]
  by_cases h0 : j = 0 ∧ i = 0
  · rw [if_neg (by omega), if_neg (by omega), if_pos h0, if_pos h0]
  · rw [if_neg h0, if_neg h0]
    by_cases h8 : j = 8 ∧ i = 0
    · rw [if_neg (by omega), if_pos h8, if_pos h8]
    · rw [if_neg h8, if_neg h8]
theorem inT_s {m k : Nat} : (gN (gN (gN (inT m k) 1 k 1) 2 k 1) 3 k 1) = inT m (k + 1) := by
  refine Prod.ext ?_ rfl
  funext j i
  simp only [gN_1, inT]
  by_cases hj : j = 1 ∨ j = 2 ∨ j = 3
  · by_cases hi : i = k
    · subst hi
      rcases hj with rfl | rfl | rfl <;> simp
    · by_cases hk : i < k
      · simp [hj, hi, hk, show i < k + 1 by omega]
      · simp [hj, hi, hk, show ¬ i < k + 1 by omega]
  · simp [hj, show ¬ j = 1 by omega, show ¬ j = 2 by omega, show ¬ j = 3 by omega]
theorem mkN_of (x : Int32) : (1 ≤ mkN x ∧ mkN x ≤ 3) ∧ nI (mkN x) = if x < nI 1 then nI 1 else if nI 3 < x then nI 3 else x := by
  unfold mkN
  have e1 : nI 1 = 1 := rfl
  have e3 : nI 3 = 3 := rfl
  rw [e1, e3]
  by_cases h1 : x < 1
  · rw [if_pos h1, if_pos h1]; exact ⟨by omega, rfl⟩
  · rw [if_neg h1, if_neg h1]
    by_cases h3 : 3 < x
    · rw [if_pos h3, if_pos h3]; exact ⟨by omega, rfl⟩
    · rw [if_neg h3, if_neg h3]
      have h0 : ¬ x < 0 := fun z => h1 (Int32.lt_trans z (by decide))
      obtain ⟨j, hj, rfl⟩ := nI_of2 (M := 3) (n := 3) rfl h0 (Int32.not_lt.mp h3)
      rw [ix_n (by omega)]
      refine ⟨⟨?_, hj⟩, rfl⟩
      by_cases hz : j = 0
      · subst hz; exact absurd (show nI 0 < 1 by decide) h1
      · omega
theorem shl1 {m : Nat} (h : m ≤ 3) : nI 1 <<< (nI m &&& 31) - nI 1 = nI (2 ^ m - 1) := by
  have : ∀ m, m < 4 → nI 1 <<< (nI m &&& 31) - nI 1 = nI (2 ^ m - 1) := by decide +kernel
  exact this m (by omega)
