/-! configurations made: lists of members -/
theorem mk_8 : ∀ n, n < 6 → ∀ m, m < 64 → m < 2 ^ n → mem (m ||| 1 <<< n) = mem m ++ [n] := by decide +kernel
theorem mk_9 : ∀ g, g < 64 → ∀ w, w < 6 → (63 - g).testBit w = !g.testBit w := by decide +kernel
theorem mask_lt {G : GS} (hW : WF G) {e : Nat} (he : e ≤ G.1 8 0) : G.1 7 e < 2 ^ G.1 0 0 := by
  refine Nat.lt_pow_two_of_testBit _ (fun i hi => ?_)
  by_cases h : (G.1 7 e).testBit i = true
  · exact absurd (hW.2.2.2.2.1 e i he h) (by omega)
  · exact Bool.eq_false_iff.mpr h
theorem XR.six {z : Nat} {h : Nat → Nat → Nat} {t : Nat → Nat} {r : Rg} {G G' : GS} {S : Sto} (H : XR z h t r G S) (hG : ∀ j, j ≠ 6 → G'.1 j = G.1 j) (hV : G'.2 = G.2) : XR z h t r G' S :=
  H.congr (fun j hj => hG j (fun z => by rw [z] at hj; cases hj)) (by rw [hV]) (fun _ _ => rfl) (fun _ _ _ => rfl) (fun _ _ _ => rfl) (fun _ _ _ => rfl) (fun _ _ => rfl) (fun _ _ _ _ => rfl) (fun f k hd => by
    have hd' : dm G f k := by unfold dm at hd ⊢; rw [hG 0 (by decide), hG 8 (by decide)] at hd; exact hd
    have j6 : jn f ≠ 6 := by
      unfold jn
      split <;> decide
    rw [show xv G' f k = xv G f k from by unfold xv; rw [hG _ j6, hV]]
    exact H.2.1 f k hd')
theorem XE.six {z : Nat} {h : Nat → Nat → Nat} {t : Nat → Nat} {G G' : GS} {S : Sto} (H : XE z h t G S) (hG : ∀ j, j ≠ 6 → G'.1 j = G.1 j) (hV : G'.2 = G.2) : XE z h t G' S := by
  obtain ⟨r, H⟩ := H
  exact ⟨r, H.six hG hV⟩
/-- the silent members, by clock -/
def sil (G : GS) (w : Nat) : Bool := decide (G.1 1 w = 0 ∧ 3 ≤ G.1 27 0 - G.1 28 w)
theorem tcG_bit (G : GS) (w : Nat) : ∀ n, (tcG G n).testBit w = decide (w < n ∧ isIn G (G.1 8 0) w = true ∧ G.1 1 w = 0 ∧ 3 ≤ G.1 6 w + 1)
  | 0 => by simp [tcG]
  | n + 1 => by
    have ih := tcG_bit G w n
    rw [tcG]
    split
    · rename_i hh
      rw [Nat.testBit_or, ih, Nat.testBit_shiftLeft]
      by_cases hw : w = n
      · subst hw
        simp [hh]
      · by_cases hlt : w < n
        · have h1 : ¬ w ≥ n := by omega
          simp [h1, hlt, show w < n + 1 by omega]
        · have h2 : ¬ w < n + 1 := by omega
          have h3 : (1 : Nat).testBit (w - n) = false := by
            have : w - n = (w - n - 1) + 1 := by omega
            rw [this, Nat.testBit_succ]
            simp
          simp [hlt, h2, h3]
    · rename_i hh
      rw [ih]
      by_cases hw : w = n
      · subst hw
        have : ¬ (w < w + 1 ∧ isIn G (G.1 8 0) w = true ∧ G.1 1 w = 0 ∧ 3 ≤ G.1 6 w + 1) := fun z => hh z.2
        rw [decide_eq_false this]
        simp
      · have : (w < n + 1) = (w < n) := by
          apply propext
          omega
        simp only [this]
/-- silence counted on both sides alike -/
def CS (G : GS) : Prop := ∀ w, isIn G (G.1 8 0) w = true → G.1 1 w = 0 → G.1 28 w ≤ G.1 27 0 ∧ G.1 6 w = G.1 27 0 - G.1 28 w
theorem tcG_sil {G : GS} (hC : CS G) {w : Nat} (hw : w < 6) (hi : isIn G (G.1 8 0) w = true) : (tcG G 6).testBit w = sil (gN G 27 0 (G.1 27 0 + 1)) w := by
  rw [tcG_bit]
  unfold sil
  rw [gN_ne _ (by decide), gN_eq, gN_ne _ (by decide)]
  by_cases h1 : G.1 1 w = 0
  · obtain ⟨a, b⟩ := hC w hi h1
    simp only [hi, h1, hw, true_and]
    congr 1
    apply propext
    omega
  · simp [h1]
theorem mem_tck {G : GS} (hC : CS G) : mem (G.1 7 (G.1 8 0) &&& (63 - tcG G 6)) = (mem (G.1 7 (G.1 8 0))).filter (fun w => !sil (gN G 27 0 (G.1 27 0 + 1)) w) := by
  unfold mem
  rw [List.filter_filter]
  apply List.filter_congr
  intro w hw
  have hw6 : w < 6 := List.mem_range.mp hw
  rw [Nat.testBit_and, mk_9 _ (by have := tcG_le G 6 (by decide); omega) w hw6]
  by_cases hi : (G.1 7 (G.1 8 0)).testBit w = true
  · rw [hi, tcG_sil hC hw6 hi]
    simp
  · rw [Bool.eq_false_iff.mpr hi]
    simp
theorem tcG_z {G : GS} (hC : CS G) : tcG G 6 = 0 ↔ ((mem (G.1 7 (G.1 8 0))).filter (sil (gN G 27 0 (G.1 27 0 + 1)))).length = 0 := by
  constructor
  · intro h
    rw [List.length_eq_zero_iff, List.filter_eq_nil_iff]
    intro w hw
    unfold mem at hw
    rw [List.mem_filter] at hw
    have hw6 : w < 6 := List.mem_range.mp hw.1
    rw [← tcG_sil hC hw6 hw.2, h]
    simp
  · intro h
    rw [List.length_eq_zero_iff, List.filter_eq_nil_iff] at h
    refine Nat.eq_of_testBit_eq (fun w => ?_)
    rw [Nat.zero_testBit, tcG_bit]
    refine decide_eq_false (fun z => ?_)
    have hm : w ∈ mem (G.1 7 (G.1 8 0)) := by
      unfold mem
      rw [List.mem_filter]
      exact ⟨List.mem_range.mpr z.1, z.2.1⟩
    have := h w hm
    rw [← tcG_sil hC z.1 z.2.1, tcG_bit] at this
    exact this (decide_eq_true z)
theorem flt_len (p : Nat → Bool) : ∀ l : List Nat, (l.filter p).length + (l.filter (fun w => !p w)).length = l.length
  | [] => rfl
  | a :: l => by
    have ih := flt_len p l
    by_cases h : p a = true
    · simp [h]; omega
    · have h' : p a = false := Bool.eq_false_iff.mpr h
      simp [h']; omega
theorem take_s {l : List Nat} {i m : Nat} (h : l[i]? = some m) (p : Nat → Bool) : (l.take (i + 1)).filter p = (l.take i).filter p ++ (if p m = true then [m] else []) := by
  rw [List.take_add_one, h, List.filter_append]
  congr 1
  by_cases hp : p m = true
  · simp [hp]
  · simp [hp]
theorem take_full {l : List Nat} {i : Nat} {p : Nat → Bool} (h : (l.filter p).length ≤ ((l.take i).filter p).length) : (l.take i).filter p = l.filter p := by
  have hs : (l.take i).filter p <+: l.filter p := (List.take_prefix i l).filter p
  exact hs.eq_of_length_le h
/-- the store behind Configuration.with -/
def wS (S : Sto) (a0 qa q n e x : Nat) : Sto := setP (setI (newO (setE (cpyE (newA S qa 9 (n + 1)) 9 a0 qa 0 0 n) 9 qa n (nI x)) q 3) 96 q (nI e)) 97 q (some qa)
theorem wS_sf {S : Sto} {a0 qa q n e x : Nat} (hqa : sK S qa = 0) (hq : sK (setE (cpyE (newA S qa 9 (n + 1)) 9 a0 qa 0 0 n) 9 qa n (nI x)) q = 0) : SF S (wS S a0 qa q n e x) := by
  have F := ((((SF.rf S).nA (kd := 9) (n := n + 1) hqa (by decide)).cpE (k := 9) (a0 := a0) (sp := 0) (dp := 0) (n := n) hqa (by decide)).E (k := 9) (i := n) (x := nI x) hqa (by decide))
  have hq0 := F.z hq
  exact (((F.nO (kd := 3) hq (by decide)).I (f := 96) (x := nI e) hq0 (by decide)).P (f := 97) (x := some qa) hq0 (by decide))
theorem wS_nc {S : Sto} {a0 qa q n e x : Nat} {l : List Nat} (hqa : sK S qa = 0) (hq : sK (setE (cpyE (newA S qa 9 (n + 1)) 9 a0 qa 0 0 n) 9 qa n (nI x)) q = 0) (ha : sK S a0 = 9) (hl : l.length = n) (hel : ∀ i m, l[i]? = some m → sE S 9 a0 i = nI m) : NC (wS S a0 qa q n e x) q qa e (l ++ [x]) := by
  have hqq : q ≠ qa := fun z => by
    have h1 : va_up (sK S) qa 9 q = 0 := hq
    rw [va_up, if_pos z] at h1
    cases h1
  have haq : a0 ≠ qa := fun z => by rw [z, hqa] at ha; cases ha
  refine ⟨?_, ?_, ?_, ?_, ?_, fun i m hm => ?_⟩
  · show va_up _ q 3 q = 3
    rw [va_up, if_pos rfl]
  · show up2 _ 96 q (nI e) 96 q = nI e
    rw [up2, if_pos ⟨rfl, rfl⟩]
  · show up2 _ 97 q (some qa) 97 q = some qa
    rw [up2, if_pos ⟨rfl, rfl⟩]
  · show va_up (va_up (sK S) qa 9) q 3 qa = 9
    rw [va_up, if_neg (fun z => hqq z.symm), va_up, if_pos rfl]
  · show va_up (sZ S) qa (n + 1) qa = _
    rw [va_up, if_pos rfl, List.length_append, hl]
    rfl
  · show up3 (sE (cpyE (newA S qa 9 (n + 1)) 9 a0 qa 0 0 n)) 9 qa n (nI x) 9 qa i = nI m
    rw [up3]
    by_cases hi : i = n
    · rw [if_pos ⟨rfl, rfl, hi⟩]
      rw [List.getElem?_append_right (by omega), show i - l.length = 0 from by omega] at hm
      have : x = m := by simpa using hm
      rw [this]
    · rw [if_neg (fun z => hi z.2.2)]
      show (if 9 = 9 ∧ qa = qa then va_cpy (sE (newA S qa 9 (n + 1)) 9 a0) (sE (newA S qa 9 (n + 1)) 9 qa) 0 0 n i else _) = _
      have hlt : i < l.length := by
        have h2 : i < (l ++ [x]).length := by
          rcases List.getElem?_eq_some_iff.mp hm with ⟨h, -⟩
          exact h
        rw [List.length_append] at h2
        simp at h2
        omega
      rw [if_pos ⟨rfl, rfl⟩, va_cpy, if_pos (by omega)]
      rw [List.getElem?_append_left hlt] at hm
      show (if 9 = 9 ∧ a0 = qa then 0 else sE S 9 a0 (0 + (i - 0))) = nI m
      rw [if_neg (fun z => haq z.2), show 0 + (i - 0) = i from by omega]
      exact hel i m hm
/-- the store behind a node's constructor -/
def NdS (S : Sto) (q ql n vw rd : Nat) : Sto := setI (setP (setI (setI (setP (newA S ql 13 100) 129 q (some ql)) 131 q (nI 1)) 128 q (nI n)) 130 q (some vw)) 132 q (nI rd)
theorem NdS_sf {S0 S : Sto} {q ql n vw rd : Nat} (F : SF S0 S) (hq : sK S0 q = 0) (hql : sK S ql = 0) : SF S0 (NdS S q ql n vw rd) :=
  (((((F.nA (kd := 13) (n := 100) hql (by decide)).P hq (by decide)).I hq (by decide)).I hq (by decide)).P hq (by decide)).I hq (by decide)
theorem NdS_nn {S : Sto} {q ql n vw rd : Nat} (hK : sK S q = 4) (hql : sK S ql = 0) (hz : sI S 133 q = nI 0 ∧ sI S 134 q = nI 0 ∧ sI S 135 q = nI 0) : NN (NdS S q ql n vw rd) q ql n vw rd := by
  have hqq : q ≠ ql := fun z => by rw [z, hql] at hK; cases hK
  refine ⟨?_, ⟨?_, ?_, ?_, ?_, ?_, ?_⟩, ⟨?_, ?_⟩, ?_, ?_⟩
  · show va_up (sK S) ql 13 q = 4
    rw [va_up, if_neg hqq]; exact hK
  · simp [NdS, setI, setP, sI, up2]
  · simp [NdS, setI, setP, sI, up2]
  · simp [NdS, setI, setP, sI, up2]
  · have := hz.1; simp [NdS, setI, setP, newA, sI, up2] at this ⊢; exact this
  · have := hz.2.1; simp [NdS, setI, setP, newA, sI, up2] at this ⊢; exact this
  · have := hz.2.2; simp [NdS, setI, setP, newA, sI, up2] at this ⊢; exact this
  · simp [NdS, setI, setP, sP, up2]
  · simp [NdS, setI, setP, sP, up2]
  · show va_up (sK S) ql 13 ql = 13
    rw [va_up, if_pos rfl]
  · show va_up (sZ S) ql 100 ql = 100
    rw [va_up, if_pos rfl]
theorem jn_eq (G : GS) (n N M : Nat) : gN (gN (gN (gN (gN G 8 0 N) 7 N M) 0 0 (n + 1)) 1 n 1) 3 n N = gN (gN (gN (gN (gN G 0 0 (n + 1)) 8 0 N) 7 N M) 1 n 1) 3 n N := by
  refine gs_ext (fun j i => ?_) (fun _ _ => rfl)
  simp only [gN_1]
  by_cases h3 : j = 3 ∧ i = n
  · simp [h3]
  · rw [if_neg h3, if_neg h3]
    by_cases h1 : j = 1 ∧ i = n
    · simp [h1]
    · rw [if_neg h1, if_neg h1]
      by_cases h0 : j = 0 ∧ i = 0
      · have a : ¬ (j = 7 ∧ i = N) := by omega
        have b : ¬ (j = 8 ∧ i = 0) := by omega
        rw [if_pos h0, if_neg a, if_neg b, if_pos h0]
      · rw [if_neg h0]
        by_cases h7 : j = 7 ∧ i = N
        · rw [if_pos h7, if_pos h7]
        · rw [if_neg h7, if_neg h7]
          by_cases h8 : j = 8 ∧ i = 0
          · rw [if_pos h8, if_pos h8]
          · rw [if_neg h8, if_neg h8, if_neg h0]
theorem newO_K (S : Sto) (q kd : Nat) : sK (newO S q kd) q = kd := by show va_up (sK S) q kd q = kd; rw [va_up, if_pos rfl]
theorem newO_I (S : Sto) (q kd f : Nat) (hf : f / 32 = kd) : sI (newO S q kd) f q = nI 0 := by show (if q = q ∧ f / 32 = kd then 0 else sI S f q) = _; rw [if_pos ⟨rfl, hf⟩]; rfl
