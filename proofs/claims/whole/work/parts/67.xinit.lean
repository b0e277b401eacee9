/-! the class's constructor: cells laid so far -/
def CL (S : Sto) (q : Nat) : Prop := sK S q = 2 ∧ sI S 64 q = nI 0 ∧ sI S 65 q = nI 0 ∧ sI S 66 q = nI 0 ∧ sI S 67 q = nI 0 ∧ sI S 68 q = -1 ∧ sI S 69 q = nI 0 ∧ sI S 70 q = nI 0
def PX (z : Nat) (h : Nat → Nat → Nat) (m n c : Nat) (S : Sto) : Prop :=
  (sK S (h 6 0) = 6 ∧ sK S (h 11 0) = 11 ∧ sZ S (h 11 0) = 6 ∧ sK S (h 12 0) = 12 ∧ sZ S (h 12 0) = 3 ∧ sK S (h 1 0) = 1) ∧
  (sP S 192 (h 6 0) = some (h 11 0) ∧ sP S 193 (h 6 0) = some (h 12 0) ∧ sP S 194 (h 6 0) = some (h 1 0) ∧ sP S 195 (h 6 0) = some (h 3 1) ∧ sP S 33 (h 1 0) = some z) ∧
  (sI S 34 (h 1 0) = nI 0 ∧ sI S 197 (h 6 0) = nI 0) ∧ NC S (h 3 1) (h 9 1) 1 (List.range m) ∧
  (∀ v, v < n → NN S (h 4 v) (h 13 v) v (h 3 1) 1) ∧ (∀ v v', v < n → v' < n → (h 4 v = h 4 v' → v = v') ∧ (h 13 v = h 13 v' → v = v')) ∧
  (∀ v, v < 6 → sQ S 11 (h 11 0) v = if v < n then some (h 4 v) else none) ∧
  (∀ d, d < c → CL S (h 2 d)) ∧ (∀ d d', d < c → d' < c → h 2 d = h 2 d' → d = d') ∧ ∀ d, d < c → sQ S 12 (h 12 0) d = some (h 2 d)
theorem NC.sf {S S' : Sto} {q qa e : Nat} {l : List Nat} (H : NC S q qa e l) (F : SF S S') : NC S' q qa e l := by
  obtain ⟨c1, c2, c3, c4, c5, c6⟩ := H
  refine ⟨(F.1 q (by rw [c1]; decide)).1.trans c1, (F.2.1 96 q c1).1.trans c2, (F.2.1 97 q c1).2.trans c3, (F.1 qa (by rw [c4]; decide)).1.trans c4, (F.1 qa (by rw [c4]; decide)).2.trans c5, fun i m hm => ?_⟩
  rw [(F.2.2 9 qa c4).1]
  exact c6 i m hm
theorem NN.sf {S S' : Sto} {q ql n vw rd : Nat} (H : NN S q ql n vw rd) (F : SF S S') : NN S' q ql n vw rd := by
  obtain ⟨c1, ⟨i0, i1, i2, i3, i4, i5⟩, ⟨p1, p2⟩, k1, k2⟩ := H
  exact ⟨(F.1 q (by rw [c1]; decide)).1.trans c1, ⟨(F.2.1 128 q c1).1.trans i0, (F.2.1 131 q c1).1.trans i1, (F.2.1 132 q c1).1.trans i2, (F.2.1 133 q c1).1.trans i3, (F.2.1 134 q c1).1.trans i4, (F.2.1 135 q c1).1.trans i5⟩, ⟨(F.2.1 129 q c1).2.trans p1, (F.2.1 130 q c1).2.trans p2⟩, (F.1 ql (by rw [k1]; decide)).1.trans k1, (F.1 ql (by rw [k1]; decide)).2.trans k2⟩
theorem CL.sf {S S' : Sto} {q : Nat} (H : CL S q) (F : SF S S') : CL S' q := by
  obtain ⟨c1, i0, i1, i2, i3, i4, i5, i6⟩ := H
  exact ⟨(F.1 q (by rw [c1]; decide)).1.trans c1, (F.2.1 64 q c1).1.trans i0, (F.2.1 65 q c1).1.trans i1, (F.2.1 66 q c1).1.trans i2, (F.2.1 67 q c1).1.trans i3, (F.2.1 68 q c1).1.trans i4, (F.2.1 69 q c1).1.trans i5, (F.2.1 70 q c1).1.trans i6⟩
theorem PX.sf {z : Nat} {h : Nat → Nat → Nat} {m n c : Nat} {S S' : Sto} (H : PX z h m n c S) (F : SF S S') : PX z h m n c S' := by
  obtain ⟨⟨a1, a2, a3, a4, a5, a6⟩, ⟨b1, b2, b3, b4, b5⟩, ⟨c1, c2⟩, d, e, f, g, i, j, k⟩ := H
  refine ⟨⟨(F.1 _ (by rw [a1]; decide)).1.trans a1, (F.1 _ (by rw [a2]; decide)).1.trans a2, (F.1 _ (by rw [a2]; decide)).2.trans a3, (F.1 _ (by rw [a4]; decide)).1.trans a4, (F.1 _ (by rw [a4]; decide)).2.trans a5, (F.1 _ (by rw [a6]; decide)).1.trans a6⟩, ⟨(F.2.1 192 _ a1).2.trans b1, (F.2.1 193 _ a1).2.trans b2, (F.2.1 194 _ a1).2.trans b3, (F.2.1 195 _ a1).2.trans b4, (F.2.1 33 _ a6).2.trans b5⟩, ⟨(F.2.1 34 _ a6).1.trans c1, (F.2.1 197 _ a1).1.trans c2⟩, d.sf F, fun v hv => (e v hv).sf F, f, fun v hv => ?_, fun v hv => (i v hv).sf F, j, fun v hv => ?_⟩
  · rw [(F.2.2 11 _ a2).2]; exact g v hv
  · rw [(F.2.2 12 _ a4).2]; exact k v hv
theorem PX.node {z : Nat} {h : Nat → Nat → Nat} {m n c : Nat} {S S' : Sto} (H : PX z h m n c S) (F : SF S S') {q ql : Nat} (hN : NN S' q ql n (h 3 1) 1) (hq : sK S q = 0) (hql : sK S ql = 0) : PX z (up2 (up2 h 4 n q) 13 n ql) m (n + 1) c (setQ S' 11 (h 11 0) n (some q)) := by
  have e4 := H.2.2.2.2.1
  obtain ⟨a, b, c', d, e, f, g, i, j, k⟩ := H.sf F
  have hh : ∀ kd k, (kd = 4 ∨ kd = 13 → k < n) → up2 (up2 h 4 n q) 13 n ql kd k = h kd k := fun kd k hk => by
    rw [up2, if_neg (fun z => by have := hk (Or.inr z.1); omega), up2, if_neg (fun z => by have := hk (Or.inl z.1); omega)]
  have h4 : up2 (up2 h 4 n q) 13 n ql 4 n = q := by rw [up2, if_neg (fun z => absurd z.1 (by decide)), up2, if_pos ⟨rfl, rfl⟩]
  have h13 : up2 (up2 h 4 n q) 13 n ql 13 n = ql := by rw [up2, if_pos ⟨rfl, rfl⟩]
  generalize up2 (up2 h 4 n q) 13 n ql = h' at *
  have hn : ∀ kd k, kd ≠ 4 → kd ≠ 13 → h' kd k = h kd k := fun kd k x y => hh kd k (fun z => by omega)
  have q11 : ∀ k a, k ≠ 11 → sQ (setQ S' 11 (h 11 0) n (some q)) k a = sQ S' k a := fun k a hk => by
    funext i
    show up3 (sQ S') 11 (h 11 0) n _ k a i = _
    rw [up3, if_neg (fun z => hk z.1)]
  unfold PX
  rw [hn 6 0 (by decide) (by decide), hn 11 0 (by decide) (by decide), hn 12 0 (by decide) (by decide), hn 1 0 (by decide) (by decide), hn 3 1 (by decide) (by decide), hn 9 1 (by decide) (by decide)]
  refine ⟨a, b, c', d, fun v hv => ?_, fun v v' hv hv' => ⟨fun hz => ?_, fun hz => ?_⟩, fun v hv => ?_, fun v hv => ?_, fun v v' hv hv' => ?_, fun v hv => ?_⟩
  · by_cases hvn : v = n
    · subst hvn; rw [h4, h13]; exact hN
    · rw [hh 4 v (fun _ => by omega), hh 13 v (fun _ => by omega)]; exact e v (by omega)
  · by_cases h1 : v = n <;> by_cases h2 : v' = n
    · omega
    · exfalso; subst h1
      rw [h4, hh 4 v' (fun _ => by omega)] at hz
      have := (e4 v' (by omega)).1
      rw [← hz, hq] at this; cases this
    · exfalso; subst h2
      rw [h4, hh 4 v (fun _ => by omega)] at hz
      have := (e4 v (by omega)).1
      rw [hz, hq] at this; cases this
    · rw [hh 4 v (fun _ => by omega), hh 4 v' (fun _ => by omega)] at hz
      exact (f v v' (by omega) (by omega)).1 hz
  · by_cases h1 : v = n <;> by_cases h2 : v' = n
    · omega
    · exfalso; subst h1
      rw [h13, hh 13 v' (fun _ => by omega)] at hz
      have := (e4 v' (by omega)).2.2.2.1
      rw [← hz, hql] at this; cases this
    · exfalso; subst h2
      rw [h13, hh 13 v (fun _ => by omega)] at hz
      have := (e4 v (by omega)).2.2.2.1
      rw [hz, hql] at this; cases this
    · rw [hh 13 v (fun _ => by omega), hh 13 v' (fun _ => by omega)] at hz
      exact (f v v' (by omega) (by omega)).2 hz
  · show up3 (sQ S') 11 (h 11 0) n (some q) 11 (h 11 0) v = _
    rw [up3]
    by_cases hvn : v = n
    · subst hvn; rw [if_pos ⟨rfl, rfl, rfl⟩, if_pos (by omega), h4]
    · rw [if_neg (fun z => hvn z.2.2), g v hv]
      by_cases hv2 : v < n
      · rw [if_pos hv2, if_pos (by omega), hh 4 v (fun _ => hv2)]
      · rw [if_neg hv2, if_neg (by omega)]
  · rw [hn 2 v (by decide) (by decide)]; exact i v hv
  · rw [hn 2 v (by decide) (by decide), hn 2 v' (by decide) (by decide)]; exact j v v' hv hv'
  · rw [q11 12 _ (by decide), hn 2 v (by decide) (by decide)]; exact k v hv
theorem PX.cli {z : Nat} {h : Nat → Nat → Nat} {m n c : Nat} {S S' : Sto} (H : PX z h m n c S) (F : SF S S') {q : Nat} (hN : CL S' q) (hq : sK S q = 0) : PX z (up2 h 2 c q) m n (c + 1) (setQ S' 12 (h 12 0) c (some q)) := by
  have e4 := H.2.2.2.2.2.2.2.1
  obtain ⟨a, b, c', d, e, f, g, i, j, k⟩ := H.sf F
  have hh : ∀ kd k, (kd = 2 → k < c) → up2 h 2 c q kd k = h kd k := fun kd k hk => by
    rw [up2, if_neg (fun z => by have := hk z.1; omega)]
  have h2 : up2 h 2 c q 2 c = q := by rw [up2, if_pos ⟨rfl, rfl⟩]
  generalize up2 h 2 c q = h' at *
  have hn : ∀ kd k, kd ≠ 2 → h' kd k = h kd k := fun kd k x => hh kd k (fun z => by omega)
  have q12 : ∀ k a, k ≠ 12 → sQ (setQ S' 12 (h 12 0) c (some q)) k a = sQ S' k a := fun k a hk => by
    funext i
    show up3 (sQ S') 12 (h 12 0) c _ k a i = _
    rw [up3, if_neg (fun z => hk z.1)]
  unfold PX
  rw [hn 6 0 (by decide), hn 11 0 (by decide), hn 12 0 (by decide), hn 1 0 (by decide), hn 3 1 (by decide), hn 9 1 (by decide)]
  refine ⟨a, b, c', d, fun v hv => ?_, fun v v' hv hv' => ?_, fun v hv => ?_, fun v hv => ?_, fun v v' hv hv' hz => ?_, fun v hv => ?_⟩
  · rw [hn 4 v (by decide), hn 13 v (by decide)]; exact e v hv
  · rw [hn 4 v (by decide), hn 13 v (by decide), hn 4 v' (by decide), hn 13 v' (by decide)]; exact f v v' hv hv'
  · rw [q12 11 _ (by decide), hn 4 v (by decide)]; exact g v hv
  · by_cases hvn : v = c
    · subst hvn; rw [h2]; exact hN
    · rw [hh 2 v (fun _ => by omega)]; exact i v (by omega)
  · by_cases h1 : v = c <;> by_cases h3 : v' = c
    · omega
    · exfalso; subst h1
      rw [h2, hh 2 v' (fun _ => by omega)] at hz
      have := (e4 v' (by omega)).1
      rw [← hz, hq] at this; cases this
    · exfalso; subst h3
      rw [h2, hh 2 v (fun _ => by omega)] at hz
      have := (e4 v (by omega)).1
      rw [hz, hq] at this; cases this
    · rw [hh 2 v (fun _ => by omega), hh 2 v' (fun _ => by omega)] at hz
      exact j v v' (by omega) (by omega) hz
  · show up3 (sQ S') 12 (h 12 0) c (some q) 12 (h 12 0) v = _
    rw [up3]
    by_cases hvn : v = c
    · subst hvn; rw [if_pos ⟨rfl, rfl, rfl⟩, h2]
    · rw [if_neg (fun z => hvn z.2.2), hh 2 v (fun _ => by omega)]; exact k v (by omega)
theorem PX.cnt {z : Nat} {h : Nat → Nat → Nat} {m n c : Nat} {S : Sto} (H : PX z h m n c S) (x : Int32) : PX z h m n c (setI S 196 (h 6 0) x) := by
  have sin : ∀ f a, f ≠ 196 → sI (setI S 196 (h 6 0) x) f a = sI S f a := fun f a hf => by
    show up2 (sI S) 196 (h 6 0) _ f a = _
    rw [up2, if_neg (fun z => hf z.1)]
  obtain ⟨a, b, ⟨c1, c2⟩, ⟨d1, d2, d3⟩, e, f, g, i, j, k⟩ := H
  refine ⟨a, b, ⟨?_, ?_⟩, ⟨d1, ?_, d3⟩, fun v hv => ?_, f, g, fun v hv => ?_, j, k⟩
  · rw [sin _ _ (by decide)]; exact c1
  · rw [sin _ _ (by decide)]; exact c2
  · rw [sin _ _ (by decide)]; exact d2
  · obtain ⟨x1, ⟨i0, i1, i2, i3, i4, i5⟩, x3⟩ := e v hv
    refine ⟨x1, ⟨?_, ?_, ?_, ?_, ?_, ?_⟩, x3⟩
    · rw [sin _ _ (by decide)]; exact i0
    · rw [sin _ _ (by decide)]; exact i1
    · rw [sin _ _ (by decide)]; exact i2
    · rw [sin _ _ (by decide)]; exact i3
    · rw [sin _ _ (by decide)]; exact i4
    · rw [sin _ _ (by decide)]; exact i5
  · obtain ⟨x1, i0, i1, i2, i3, i4, i5, i6⟩ := i v hv
    refine ⟨x1, ?_, ?_, ?_, ?_, ?_, ?_, ?_⟩
    · rw [sin _ _ (by decide)]; exact i0
    · rw [sin _ _ (by decide)]; exact i1
    · rw [sin _ _ (by decide)]; exact i2
    · rw [sin _ _ (by decide)]; exact i3
    · rw [sin _ _ (by decide)]; exact i4
    · rw [sin _ _ (by decide)]; exact i5
    · rw [sin _ _ (by decide)]; exact i6
theorem mk_10 : ∀ m, m < 4 → mem (2 ^ m - 1) = List.range m := by decide
theorem PX.end_ {z : Nat} {h : Nat → Nat → Nat} {m : Nat} {S : Sto} (H : PX z h m m 3 S) (hm : 1 ≤ m ∧ m ≤ 3) (h196 : sI S 196 (h 6 0) = nI m) : XE z h (fun _ => 0) (inT m m) S := by
  obtain ⟨⟨a1, a2, a3, a4, a5, a6⟩, ⟨b1, b2, b3, b4, b5⟩, ⟨c1, c2⟩, ⟨d1, d2, d3, d4, d5, d6⟩, e, f, g, i, j, k⟩ := H
  have g0 : (inT m m).1 0 0 = m := by simp [inT]
  have g8 : (inT m m).1 8 0 = 1 := by simp [inT]
  have g7 : (inT m m).1 7 1 = 2 ^ m - 1 := by simp [inT]
  have g1 : ∀ v, v < m → (inT m m).1 1 v = 1 := fun v hv => by simp [inT, hv]
  have g2 : ∀ v, v < m → (inT m m).1 2 v = 1 := fun v hv => by simp [inT, hv]
  have g3 : ∀ v, v < m → (inT m m).1 3 v = 1 := fun v hv => by simp [inT, hv]
  have gz : ∀ j v, 4 ≤ j → j ≠ 7 → j ≠ 8 → (inT m m).1 j v = 0 := fun j v h4 h7 h8 => by
    simp [inT, show ¬ (j = 1 ∨ j = 2 ∨ j = 3) by omega, show ¬ j = 0 by omega, h7, h8]
  have v2 : ∀ j v, j ≠ 29 → (inT m m).2 j v = nI 0 := fun j v hj => by simp [inT, hj]; rfl
  have v29 : ∀ v, (inT m m).2 29 v = -1 := fun v => by simp [inT]
  generalize inT m m = G at *
  refine ⟨(fun _ => 0, z, fun _ _ => 0), ⟨fun kd k hd => ?_, fun kd k k' hk hd hd' hz => ?_⟩, fun f k hd => ?_, fun f k hd => ?_, ⟨⟨a3, a5, fun v hv => ?_⟩, fun e' h1 h2 => ?_, fun v hv => ?_, k⟩, fun v i hv h1 h2 => ?_, ⟨b5, Or.inr ⟨rfl, gz 20 0 (by decide) (by decide) (by decide)⟩, fun i hi => ?_⟩, fun ht => absurd rfl ht, fun i hi => ?_, fun h0 => absurd h0 (by decide)⟩
  · unfold dk at hd
    rw [g0, g8] at hd
    rcases hd with ⟨rfl, hk⟩ | ⟨rfl | rfl, hk⟩ | ⟨rfl | rfl, hk⟩ | ⟨rfl | rfl | rfl | rfl, rfl⟩
    · exact (i k hk).1
    · rw [show k = 1 by omega]; exact d1
    · rw [show k = 1 by omega]; exact d4
    · exact (e k hk).1
    · exact (e k hk).2.2.2.1
    · exact a1
    · exact a6
    · exact a2
    · exact a4
  · unfold dk at hd hd'
    rw [g0, g8] at hd hd'
    rcases hk with rfl | rfl | rfl
    · exact j k k' (by omega) (by omega) hz
    · exact (f k k' (by omega) (by omega)).1 hz
    · exact (f k k' (by omega) (by omega)).2 hz
  · unfold dm at hd
    rw [g0, g8] at hd
    rcases hd with ⟨hf, hk⟩ | ⟨rfl, hk⟩ | ⟨hf, hk⟩ | ⟨rfl | rfl | rfl, rfl⟩
    · obtain ⟨_, i0, i1, i2, i3, i4, i5, i6⟩ := i k hk
      have hc : f = 64 ∨ f = 65 ∨ f = 66 ∨ f = 67 ∨ f = 68 ∨ f = 69 ∨ f = 70 := by omega
      rcases hc with rfl | rfl | rfl | rfl | rfl | rfl | rfl
      · show sI S 64 (h 2 k) = nI (G.1 13 k)
        rw [gz 13 k (by decide) (by decide) (by decide)]; exact i0
      · show sI S 65 (h 2 k) = nI (G.1 14 k)
        rw [gz 14 k (by decide) (by decide) (by decide)]; exact i1
      · show sI S 66 (h 2 k) = nI (G.1 15 k)
        rw [gz 15 k (by decide) (by decide) (by decide)]; exact i2
      · show sI S 67 (h 2 k) = G.2 16 k
        rw [v2 16 k (by decide)]; exact i3
      · show sI S 68 (h 2 k) = G.2 29 k
        rw [v29]; exact i4
      · show sI S 69 (h 2 k) = nI (G.1 18 k)
        rw [gz 18 k (by decide) (by decide) (by decide)]; exact i5
      · show sI S 70 (h 2 k) = G.2 19 k
        rw [v2 19 k (by decide)]; exact i6
    · rw [show k = 1 by omega]; exact d2
    · obtain ⟨_, ⟨i0, i1, i2, i3, i4, i5⟩, _⟩ := e k hk
      have hc : f = 128 ∨ f = 131 ∨ f = 132 ∨ f = 133 ∨ f = 134 ∨ f = 135 := by omega
      rcases hc with rfl | rfl | rfl | rfl | rfl | rfl
      · exact i0
      · show sI S 131 (h 4 k) = nI (G.1 1 k)
        rw [g1 k hk]; exact i1
      · show sI S 132 (h 4 k) = nI (G.1 2 k)
        rw [g2 k hk]; exact i2
      · show sI S 133 (h 4 k) = nI (G.1 28 k)
        rw [gz 28 k (by decide) (by decide) (by decide)]; exact i3
      · show sI S 134 (h 4 k) = nI (G.1 4 k)
        rw [gz 4 k (by decide) (by decide) (by decide)]; exact i4
      · show sI S 135 (h 4 k) = nI (G.1 5 k)
        rw [gz 5 k (by decide) (by decide) (by decide)]; exact i5
    · show sI S 196 (h 6 0) = nI (G.1 0 0)
      rw [g0]; exact h196
    · show sI S 197 (h 6 0) = nI (G.1 27 0)
      rw [gz 27 0 (by decide) (by decide) (by decide)]; exact c2
    · show sI S 34 (h 1 0) = nI (G.1 20 0)
      rw [gz 20 0 (by decide) (by decide) (by decide)]; exact c1
  · unfold dp at hd
    rw [g0, g8] at hd
    rcases hd with ⟨rfl, hk⟩ | ⟨rfl | rfl, hk⟩ | ⟨hf, rfl⟩
    · rw [show k = 1 by omega]; exact d3
    · exact (e k hk).2.2.1.1
    · show sP S 130 (h 4 k) = some (h 3 (G.1 3 k))
      rw [g3 k hk]; exact (e k hk).2.2.1.2
    · have hc : f = 192 ∨ f = 193 ∨ f = 194 ∨ f = 195 := by omega
      rcases hc with rfl | rfl | rfl | rfl
      · exact b1
      · exact b2
      · exact b3
      · show sP S 195 (h 6 0) = some (h 3 (G.1 8 0))
        rw [g8]; exact b4
  · rw [g0] at hv; exact (e v hv).2.2.2.2
  · rw [g8] at h2
    rw [show e' = 1 by omega, g7, mk_10 m (by omega)]
    exact ⟨d5, d6⟩
  · rw [g0]; exact g v hv
  · rw [gz 4 v (by decide) (by decide) (by decide)] at h2; omega
  · rw [gz 20 0 (by decide) (by decide) (by decide)] at hi; omega
  · rw [gz 20 0 (by decide) (by decide) (by decide)] at hi; omega
/-- before the first configuration -/
def B1 (z o a11 a12 a1 a9 m : Nat) (S : Sto) : Prop := (sK S o = 6 ∧ sK S a11 = 11 ∧ sZ S a11 = 6 ∧ sK S a12 = 12 ∧ sZ S a12 = 3 ∧ sK S a1 = 1 ∧ sK S a9 = 9 ∧ sZ S a9 = m) ∧ (sP S 192 o = some a11 ∧ sP S 193 o = some a12 ∧ sP S 194 o = some a1 ∧ sP S 33 a1 = some z) ∧ (sI S 34 a1 = nI 0 ∧ sI S 197 o = nI 0) ∧ ∀ v, sQ S 11 a11 v = none
def h0 (o a11 a12 a1 a9 q : Nat) : Nat → Nat → Nat := fun kd _ => if kd = 6 then o else if kd = 11 then a11 else if kd = 12 then a12 else if kd = 1 then a1 else if kd = 3 then q else a9
theorem B1.px {z o a11 a12 a1 a9 m q : Nat} {S : Sto} (H : B1 z o a11 a12 a1 a9 m S) (hel : ∀ j, j < m → sE S 9 a9 j = nI j) (hq : sK S q = 0) : PX z (h0 o a11 a12 a1 a9 q) m 0 0 (setP (setP (setI (newO S q 3) 96 q (nI 1)) 97 q (some a9)) 195 o (some q)) := by
  have F : SF S (setP (setI (newO S q 3) 96 q (nI 1)) 97 q (some a9)) := (((SF.rf S).nO (kd := 3) hq (by decide)).I (f := 96) (x := nI 1) hq (by decide)).P (f := 97) (x := some a9) hq (by decide)
  have hN : NC (setP (setI (newO S q 3) 96 q (nI 1)) 97 q (some a9)) q a9 1 (List.range m) := by
    have hq9 : a9 ≠ q := fun z => by have := H.1.2.2.2.2.2.2.1; rw [z, hq] at this; cases this
    refine ⟨newO_K _ _ _, ?_, ?_, ?_, ?_, fun i m' hm => ?_⟩
    · show up2 _ 96 q _ 96 q = _
      rw [up2, if_pos ⟨rfl, rfl⟩]
    · show up2 _ 97 q _ 97 q = _
      rw [up2, if_pos ⟨rfl, rfl⟩]
    · show va_up (sK S) q 3 a9 = 9
      rw [va_up, if_neg hq9]; exact H.1.2.2.2.2.2.2.1
    · rw [List.length_range]; exact H.1.2.2.2.2.2.2.2
    · show sE S 9 a9 i = nI m'
      rcases List.getElem?_eq_some_iff.mp hm with ⟨hl, he⟩
      rw [List.length_range] at hl
      rw [List.getElem_range] at he
      rw [← he]; exact hel i hl
  obtain ⟨⟨k6, k11, z11, k12, z12, k1, k9, z9⟩, ⟨p1, p2, p3, p4⟩, ⟨i1, i2⟩, q1⟩ := H
  have t : ∀ f a, f ≠ 195 → sP (setP (setP (setI (newO S q 3) 96 q (nI 1)) 97 q (some a9)) 195 o (some q)) f a = sP (setP (setI (newO S q 3) 96 q (nI 1)) 97 q (some a9)) f a := fun f a hf => by
    show up2 _ 195 o _ f a = _
    rw [up2, if_neg (fun z => hf z.1)]
  refine ⟨⟨(F.1 o (by rw [k6]; decide)).1.trans k6, (F.1 a11 (by rw [k11]; decide)).1.trans k11, (F.1 a11 (by rw [k11]; decide)).2.trans z11, (F.1 a12 (by rw [k12]; decide)).1.trans k12, (F.1 a12 (by rw [k12]; decide)).2.trans z12, (F.1 a1 (by rw [k1]; decide)).1.trans k1⟩, ⟨?_, ?_, ?_, ?_, ?_⟩, ⟨(F.2.1 34 a1 k1).1.trans i1, (F.2.1 197 o k6).1.trans i2⟩, ?_, fun v hv => absurd hv (by omega), fun v v' hv => absurd hv (by omega), fun v _ => ?_, fun v hv => absurd hv (by omega), fun v v' hv => absurd hv (by omega), fun v hv => absurd hv (by omega)⟩
  · exact (t 192 o (by decide)).trans ((F.2.1 192 o k6).2.trans p1)
  · exact (t 193 o (by decide)).trans ((F.2.1 193 o k6).2.trans p2)
  · exact (t 194 o (by decide)).trans ((F.2.1 194 o k6).2.trans p3)
  · show up2 _ 195 o (some q) 195 o = some q
    rw [up2, if_pos ⟨rfl, rfl⟩]
  · exact (t 33 a1 (by decide)).trans ((F.2.1 33 a1 k1).2.trans p4)
  · obtain ⟨x1, x2, x3, x4⟩ := hN
    exact ⟨x1, x2, (t 97 q (by decide)).trans x3, x4⟩
  · rw [if_neg (by omega)]
    have := (F.2.2 11 a11 k11).2
    exact (congrFun this v).trans (q1 v)
section ROWS
variable {F : Fx} {cc : ByteArray} {own : String} {pc pc' tgt : Nat} {lv : List (Option Value)} {st : List Value} {S : Sto} {cs ss : Nat} {dF cF sF : Nat} {mi : MI} {mc ms : Nat} {Post : Option Value → Sto → Prop}
theorem ws_callIN (C : Cx F cc "ChainVersions" dF cF sF) {b : Nat} {rest : List Value} (hok : cOK mi_Cl_init 0) (hi : Cond.instanceMethod mi_Cl_init.1 ∈ TB) (hM : CT F.1 mi_Cl_init mc ms [.ref b] S Post) (d : At cc pc (.invokespecial 53) 3 pc') (hroom : (rest.map fun v => v.category).sum ≤ 8) (hd : mi_Cl_init.2.2.2.2 < dF) (hc : cs + mc ≤ cF) (hs : ss + ms ≤ sF)
    (k : ∀ (v : Option Value) (S' : Sto), Post v S' → WS F pc' lv (v.toList ++ rest) S' (cs + mc) (ss + ms)) : WS F pc lv (.ref b :: rest) S cs ss := by
  obtain ⟨d, rfl⟩ := d
  intro ls H locs hl hw hS
  obtain ⟨h1, h2, h3, h4, h5, h6⟩ := hok
  have hcb : va_CN (xR F) (xs F) (xa F) "ChainVersions" 53 mi_Cl_init.1 "ChainVersions" mi_Cl_init.2.1 mi_Cl_init.2.2.1 mi_Cl_init.2.2.2.1 (Cond.code mi_Cl_init.1 mi_Cl_init.2.1 mi_Cl_init.2.2.1 mi_Cl_init.2.2.2.1 :: TB) (rmD mi_Cl_init.2.2.2.2 mc ms) mc ms 0 := by
    refine va_cnB 0 C.2.2.2.2.2.1 (tb_good (fun _ h => h) h1) rfl rfl rfl C.E.2.2.1 (C.t h2) ⟨h3, h4, h5⟩ ⟨?_, ?_⟩
    · show mi_Cl_init.2.2.2.2 + 1 ≤ _
      have := C.1.1
      omega
    · show 8 + (mi_Cl_init.2.2.1 + 11) + 39 * mi_Cl_init.2.2.2.2 ≤ _
      have := C.1.2.1
      omega
  exact ws_back C hl hS (va_runIN (As := []) ⟨C.x, C.b, C.ml, C.o, C.2.2.2.2.2.1⟩ hM ⟨hcb, rfl, C.t hi⟩ (kk_pre C hw hS [.ref b]) rfl rfl hl.1 rfl (lv_room hroom) d ⟨by rw [C.1.2.2.1]; exact hc, by rw [C.1.2.2.2]; exact hs⟩) k
end ROWS
