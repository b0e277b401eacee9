/-! the start: classes, arrays' classes, the words that a warming keeps -/
def st_S : Sto := (fun _ => 0, fun _ _ => 0, fun _ _ => none, fun _ _ _ => 0, fun _ _ _ => none, fun _ => 0)
theorem st_w1 : Cond.castable "ChainVersions$Message" "java/lang/Object" ∈ lw_tbl := by decide +kernel
theorem st_w2 : Cond.methodLinkNest "ChainVersions" 53 ⟨"ChainVersions$Client", "<init>", "()V"⟩ "ChainVersions" ∈ lw_tbl := by decide +kernel
theorem st_w3 : Cond.declares ⟨"java/lang/Object", "getClass", "()Ljava/lang/Class;"⟩ ∈ lw_tbl := by decide +kernel
theorem st_a0 : Cond.arrayClass .int ∈ lw_tbl := by decide +kernel
theorem st_a1 : Cond.arrayClass .boolean ∈ lw_tbl := by decide +kernel
theorem st_a2 : Cond.arrayOver (.object "ChainVersions$Node") ∈ lw_tbl := by decide +kernel
theorem st_a3 : Cond.arrayOver (.object "ChainVersions$Client") ∈ lw_tbl := by decide +kernel
theorem st_a4 : Cond.arrayOver (.object "ChainVersions$Update") ∈ lw_tbl := by decide +kernel
theorem st_a5 : Cond.arrayOver (.object "java/lang/Object") ∈ lw_tbl := by decide +kernel
theorem st_i : ∀ c, c < 8 → Cond.instantiable (cnm (c + 1)) (nf (c + 1)) ∈ TB := by decide +kernel
theorem st_D {args : Array Value} {s : State} (hts : ∀ w ∈ TB, w.before args s = true) : ∃ D : va_G, ∀ (c : Nat) (q : vw_C), vCl[c]? = some q → u_Kn s q.1 q.2.1 q.2.2 (D.1 c) (D.2 c) := by
  have h1 : ∀ c : Nat, ∃ (x : ClassId) (y : Nat → Nat), ∀ q : vw_C, vCl[c]? = some q → u_Kn s q.1 q.2.1 q.2.2 x y := by
    intro c
    rcases Nat.lt_or_ge c 8 with h | h
    · obtain ⟨x, y, hk⟩ := u_known (C := cnm (c + 1)) (T := ctb (c + 1)) (N := nf (c + 1)) (n := nf (c + 1)) hts (lys (by omega) (by omega)) (hts _ (st_i c h))
      refine ⟨x, y, fun q hq => ?_⟩
      have e := vCl_at (kd := c + 1) (by omega) (by omega)
      rw [Nat.add_sub_cancel] at e
      rw [e] at hq
      cases hq
      exact hk
    · refine ⟨0, fun _ => 0, fun q hq => absurd (List.getElem?_eq_some_iff.mp hq).1 ?_⟩
      show ¬ c < 8
      omega
  exact ⟨(fun c => Classical.choose (h1 c), fun c => Classical.choose (Classical.choose_spec (h1 c))), fun c q hq => Classical.choose_spec (Classical.choose_spec (h1 c)) q hq⟩
theorem st_A {args : Array Value} {s : State} {t : FieldType} (h : (Cond.arrayClass t).before args s = true) (ho : ∀ C, t ≠ .object C) : ∃ c : ClassId, ArrOfT s c t ∧ va_RA s c t := by
  obtain ⟨c, k, comp, h1, h2, h3⟩ := Cond.arrayClass_spec h
  refine ⟨c, fun N z => ⟨(fun q hq => by cases hq), k, h2, comp, h3⟩, ?_⟩
  cases t <;> first | exact h1 | exact absurd rfl (ho _)
theorem st_B {args : Array Value} {s : State} {C : String} (h : (Cond.arrayOver (.object C)).before args s = true) : ∃ c : ClassId, ArrOfT s c (.object C) ∧ va_RA s c (.object C) := by
  obtain ⟨comp, c, k, h1, -, h2, h3, h4⟩ := Cond.arrayOver_spec h
  exact ⟨c, fun N z => ⟨(fun q hq => by cases hq), k, h2, comp, h3⟩, k, comp, h2, h3, h1, h4⟩
theorem st_Y {args : Array Value} {s : State} (hts : ∀ w ∈ lw_tbl, w.before args s = true) (mi : Nat) : ∃ Y : Nat → ClassId, (∀ (k : Nat) (q : ClassId × FieldType), (tYs Y)[k]? = some q → ArrOfT s q.1 q.2 ∧ va_RA s q.1 q.2) ∧ Y 20 = mi := by
  obtain ⟨y0, h0⟩ := st_A (hts _ st_a0) (fun C h => by cases h)
  obtain ⟨y1, h1⟩ := st_A (hts _ st_a1) (fun C h => by cases h)
  obtain ⟨y2, h2⟩ := st_B (hts _ st_a2)
  obtain ⟨y3, h3⟩ := st_B (hts _ st_a3)
  obtain ⟨y4, h4⟩ := st_B (hts _ st_a4)
  obtain ⟨y5, h5⟩ := st_B (hts _ st_a5)
  refine ⟨fun k => if k = 0 then y0 else if k = 1 then y1 else if k = 2 then y2 else if k = 3 then y3 else if k = 4 then y4 else if k = 5 then y5 else mi, fun k q hk => ?_, rfl⟩
  have hl : k < 6 := (List.getElem?_eq_some_iff.mp hk).1
  have : k = 0 ∨ k = 1 ∨ k = 2 ∨ k = 3 ∨ k = 4 ∨ k = 5 := by omega
  rcases this with rfl | rfl | rfl | rfl | rfl | rfl <;> cases hk
  · exact h0
  · exact h1
  · exact h2
  · exact h3
  · exact h4
  · exact h5
