/-! new cells beside old ones; a new configuration, a new node -/
def SF (S S' : Sto) : Prop := (∀ a, sK S a ≠ 0 → sK S' a = sK S a ∧ sZ S' a = sZ S a) ∧ (∀ f a, sK S a = f / 32 → sI S' f a = sI S f a ∧ sP S' f a = sP S f a) ∧ ∀ k a, sK S a = k → sE S' k a = sE S k a ∧ sQ S' k a = sQ S k a
theorem SF.rf (S : Sto) : SF S S := ⟨fun _ _ => ⟨rfl, rfl⟩, fun _ _ _ => ⟨rfl, rfl⟩, fun _ _ _ => ⟨rfl, rfl⟩⟩
theorem SF.z {S S1 : Sto} (H : SF S S1) {q : Nat} (hq : sK S1 q = 0) : sK S q = 0 := by
  by_cases h : sK S q = 0
  · exact h
  · rw [(H.1 q h).1] at hq
    exact absurd hq h
theorem SF.nO {S S1 : Sto} (H : SF S S1) {q kd : Nat} (hq : sK S1 q = 0) (hkd : kd ≠ 0) : SF S (newO S1 q kd) := by
  have hq0 := H.z hq
  refine ⟨fun a ha => ?_, fun f a ha => ?_, H.2.2⟩
  · have : a ≠ q := fun z => ha (z ▸ hq0)
    show va_up (sK S1) q kd a = _ ∧ _
    rw [va_up, if_neg this]
    exact H.1 a ha
  · have : ¬ (a = q ∧ f / 32 = kd) := fun z => by rw [z.1, hq0, z.2] at ha; exact hkd ha.symm
    show (if a = q ∧ f / 32 = kd then 0 else sI S1 f a) = _ ∧ (if a = q ∧ f / 32 = kd then none else sP S1 f a) = _
    rw [if_neg this, if_neg this]
    exact H.2.1 f a ha
theorem SF.nA {S S1 : Sto} (H : SF S S1) {q kd n : Nat} (hq : sK S1 q = 0) (hkd : kd ≠ 0) : SF S (newA S1 q kd n) := by
  have hq0 := H.z hq
  refine ⟨fun a ha => ?_, H.2.1, fun k a ha => ?_⟩
  · have : a ≠ q := fun z => ha (z ▸ hq0)
    show va_up (sK S1) q kd a = _ ∧ va_up (sZ S1) q n a = _
    rw [va_up, if_neg this, va_up, if_neg this]
    exact H.1 a ha
  · have : ¬ (k = kd ∧ a = q) := fun z => by rw [z.2, hq0, z.1] at ha; exact hkd ha.symm
    refine ⟨?_, ?_⟩
    · show (fun i => if k = kd ∧ a = q then 0 else sE S1 k a i) = _
      simp only [if_neg this]
      exact (H.2.2 k a ha).1
    · show (fun i => if k = kd ∧ a = q then none else sQ S1 k a i) = _
      simp only [if_neg this]
      exact (H.2.2 k a ha).2
theorem SF.I {S S1 : Sto} (H : SF S S1) {q f : Nat} {x : Int32} (hq : sK S q = 0) (hf : 32 ≤ f) : SF S (setI S1 f q x) := by
  refine ⟨H.1, fun g a ha => ?_, H.2.2⟩
  show up2 (sI S1) f q x g a = _ ∧ _
  rw [up2, if_neg (fun z => by rw [z.2, hq, z.1] at ha; omega)]
  exact H.2.1 g a ha
theorem SF.P {S S1 : Sto} (H : SF S S1) {q f : Nat} {x : Option Nat} (hq : sK S q = 0) (hf : 32 ≤ f) : SF S (setP S1 f q x) := by
  refine ⟨H.1, fun g a ha => ?_, H.2.2⟩
  show _ ∧ up2 (sP S1) f q x g a = _
  rw [up2, if_neg (fun z => by rw [z.2, hq, z.1] at ha; omega)]
  exact H.2.1 g a ha
theorem SF.E {S S1 : Sto} (H : SF S S1) {q k i : Nat} {x : Int32} (hq : sK S q = 0) (hk : k ≠ 0) : SF S (setE S1 k q i x) := by
  refine ⟨H.1, H.2.1, fun k' a ha => ?_⟩
  have : ∀ j, ¬ (k' = k ∧ a = q ∧ j = i) := fun j z => by rw [z.2.1, hq, z.1] at ha; exact hk ha.symm
  refine ⟨?_, (H.2.2 k' a ha).2⟩
  rw [← (H.2.2 k' a ha).1]
  funext j
  show up3 (sE S1) k q i x k' a j = _
  rw [up3, if_neg (this j)]
theorem SF.cpE {S S1 : Sto} (H : SF S S1) {q k a0 sp dp n : Nat} (hq : sK S q = 0) (hk : k ≠ 0) : SF S (cpyE S1 k a0 q sp dp n) := by
  refine ⟨H.1, H.2.1, fun k' a ha => ?_⟩
  have : ¬ (k' = k ∧ a = q) := fun z => by rw [z.2, hq, z.1] at ha; exact hk ha.symm
  refine ⟨?_, (H.2.2 k' a ha).2⟩
  rw [← (H.2.2 k' a ha).1]
  funext j
  show (if k' = k ∧ a = q then _ else sE S1 k' a j) = _
  rw [if_neg this]
theorem XR.sf {z : Nat} {h : Nat → Nat → Nat} {t : Nat → Nat} {r : Rg} {G : GS} {S S' : Sto} (H : XR z h t r G S) (F : SF S S') : XR z h t r G S' :=
  H.congr (fun _ _ => rfl) rfl (fun a ha => (F.1 a ha).1) (fun f a ha => (F.2.1 f a ha).2) (fun k a ha => (F.2.2 k a ha).1) (fun k a ha => (F.2.2 k a ha).2) (fun a ha => (F.1 a ha).2) (fun f a _ ha => (F.2.1 f a ha).1) (fun f k hd => by rw [(F.2.1 f _ (H.1.1 _ _ (dm_dk hd))).1]; exact H.2.1 f k hd)
/-- a configuration at q with its array at qa -/
def NC (S : Sto) (q qa e : Nat) (l : List Nat) : Prop := sK S q = 3 ∧ sI S 96 q = nI e ∧ sP S 97 q = some qa ∧ sK S qa = 9 ∧ sZ S qa = l.length ∧ ∀ i m, l[i]? = some m → sE S 9 qa i = nI m
theorem XR.conf {z : Nat} {h : Nat → Nat → Nat} {t : Nat → Nat} {r : Rg} {G : GS} {S : Sto} (H : XR z h t r G S) (hW : WF G) {q qa M : Nat} (hN : NC S q qa (G.1 8 0 + 1) (mem M)) : XR z (up2 (up2 h 3 (G.1 8 0 + 1) q) 9 (G.1 8 0 + 1) qa) t r (gN (gN G 8 0 (G.1 8 0 + 1)) 7 (G.1 8 0 + 1) M) (setP S 195 (h 6 0) (some q)) := by
  obtain ⟨c1, c2, c3, c4, c5, c6⟩ := hN
  have gg : ∀ j, j ≠ 7 → j ≠ 8 → (gN (gN G 8 0 (G.1 8 0 + 1)) 7 (G.1 8 0 + 1) M).1 j = G.1 j := fun j h7 h8 => by rw [gN_ne _ h7, gN_ne _ h8]
  have g8 : (gN (gN G 8 0 (G.1 8 0 + 1)) 7 (G.1 8 0 + 1) M).1 8 0 = G.1 8 0 + 1 := by rw [gN_ne _ (by decide), gN_eq]
  have g7 : ∀ e, e ≤ G.1 8 0 → (gN (gN G 8 0 (G.1 8 0 + 1)) 7 (G.1 8 0 + 1) M).1 7 e = G.1 7 e := fun e he => by rw [gN_ni _ (by omega), gN_ne _ (by decide)]
  have g7' : (gN (gN G 8 0 (G.1 8 0 + 1)) 7 (G.1 8 0 + 1) M).1 7 (G.1 8 0 + 1) = M := gN_eq _ _ _ _
  have g2 : (gN (gN G 8 0 (G.1 8 0 + 1)) 7 (G.1 8 0 + 1) M).2 = G.2 := rfl
  generalize gN (gN G 8 0 (G.1 8 0 + 1)) 7 (G.1 8 0 + 1) M = G' at *
  have hh : ∀ kd k, (kd = 3 ∨ kd = 9 → k ≤ G.1 8 0) → up2 (up2 h 3 (G.1 8 0 + 1) q) 9 (G.1 8 0 + 1) qa kd k = h kd k := fun kd k hk => by
    rw [up2, if_neg (fun z => by have := hk (Or.inr z.1); omega), up2, if_neg (fun z => by have := hk (Or.inl z.1); omega)]
  have h3 : up2 (up2 h 3 (G.1 8 0 + 1) q) 9 (G.1 8 0 + 1) qa 3 (G.1 8 0 + 1) = q := by rw [up2, if_neg (fun z => absurd z.1 (by decide)), up2, if_pos ⟨rfl, rfl⟩]
  have h9 : up2 (up2 h 3 (G.1 8 0 + 1) q) 9 (G.1 8 0 + 1) qa 9 (G.1 8 0 + 1) = qa := by rw [up2, if_pos ⟨rfl, rfl⟩]
  generalize up2 (up2 h 3 (G.1 8 0 + 1) q) 9 (G.1 8 0 + 1) qa = h' at *
  have hn : ∀ kd k, kd ≠ 3 → kd ≠ 9 → h' kd k = h kd k := fun kd k a b => hh kd k (fun z => by omega)
  obtain ⟨hK, hI, hP, hA, hU, hL, hH, hV⟩ := H
  have pn : ∀ f a, f ≠ 195 → sP (setP S 195 (h 6 0) (some q)) f a = sP S f a := fun f a hf => by
    show up2 (sP S) 195 (h 6 0) _ f a = _
    rw [up2, if_neg (fun z => hf z.1)]
  have mf : ∀ q' u k v' w e a b, MsgF S q' u k v' w e a b → MsgF (setP S 195 (h 6 0) (some q)) q' u k v' w e a b := fun q' u k v' w e a b hm => by
    obtain ⟨m0, m1, m2, m3, m4, m5, m6⟩ := hm
    exact ⟨m0, m1, m2, m3, m4, fun z => by rw [pn 228 q' (by decide)]; exact m5 z, m6⟩
  have dkc : ∀ kd k, dk G' kd k → dk G kd k ∨ ((kd = 3 ∨ kd = 9) ∧ k = G.1 8 0 + 1) := fun kd k hd => by
    unfold dk at hd ⊢
    rw [gg 0 (by decide) (by decide), g8] at hd
    omega
  have dkh : ∀ kd k, dk G kd k → h' kd k = h kd k := fun kd k hd => hh kd k (fun z => by unfold dk at hd; omega)
  refine ⟨⟨fun kd k hd => ?_, fun kd k k' hk hd hd' => ?_⟩, fun f k hd => ?_, fun f k hd => ?_, ⟨⟨?_, ?_, fun v hv => ?_⟩, fun e h1 h2 => ?_, fun v hv => ?_, fun c hc => ?_⟩, fun v' i hv' h1 h2 => ?_, ⟨?_, ?_, fun i hi => ?_⟩, fun ht => ?_, ?_⟩
  · rcases dkc kd k hd with hd | ⟨rfl | rfl, rfl⟩
    · rw [dkh kd k hd]; exact hK.1 kd k hd
    · rw [h3]; exact c1
    · rw [h9]; exact c4
  · have e1 : dk G kd k := by rcases dkc kd k hd with h | h; exact h; omega
    have e2 : dk G kd k' := by rcases dkc kd k' hd' with h | h; exact h; omega
    rw [dkh kd k e1, dkh kd k' e2]
    exact hK.2 kd k k' hk e1 e2
  · have hx : dm G f k ∨ (f = 96 ∧ k = G.1 8 0 + 1) := by
      unfold dm at hd ⊢
      rw [gg 0 (by decide) (by decide), g8] at hd
      omega
    rcases hx with hx | ⟨rfl, rfl⟩
    · rw [dkh _ k (dm_dk hx)]
      refine (hI f k hx).trans ?_
      unfold xv
      rw [g2]
      have j7 : ∀ f, jn f ≠ 7 ∧ jn f ≠ 8 := fun f => by
        unfold jn
        split <;> decide
      rw [gg (jn f) (j7 f).1 (j7 f).2]
    · show sI S 96 (h' 3 (G.1 8 0 + 1)) = _
      rw [h3]
      exact c2
  · have hx : (dp G f k ∧ f ≠ 195) ∨ (f = 97 ∧ k = G.1 8 0 + 1) ∨ (f = 195 ∧ k = 0) := by
      unfold dp at hd ⊢
      rw [gg 0 (by decide) (by decide), g8] at hd
      omega
    rcases hx with ⟨hx, hf⟩ | ⟨rfl, rfl⟩ | ⟨rfl, rfl⟩
    · rw [dkh _ k (dp_dk hx), pn f _ hf, hP f k hx]
      unfold xq
      by_cases e1 : f = 97
      · rw [if_pos e1, if_pos e1, dkh 9 k (by unfold dp at hx; exact dkM (by omega))]
      rw [if_neg e1, if_neg e1]
      by_cases e2 : f = 129
      · rw [if_pos e2, if_pos e2, hn 13 k (by decide) (by decide)]
      rw [if_neg e2, if_neg e2]
      by_cases e3 : f = 130
      · have hk0 : k < G.1 0 0 := by unfold dp at hx; omega
        rw [if_pos e3, if_pos e3, gg 3 (by decide) (by decide), dkh 3 _ (dkF (hW.vw hk0))]
      rw [if_neg e3, if_neg e3]
      by_cases e4 : f = 192
      · rw [if_pos e4, if_pos e4, hn 11 0 (by decide) (by decide)]
      rw [if_neg e4, if_neg e4]
      by_cases e5 : f = 193
      · rw [if_pos e5, if_pos e5, hn 12 0 (by decide) (by decide)]
      rw [if_neg e5, if_neg e5]
      by_cases e6 : f = 194
      · rw [if_pos e6, if_pos e6, hn 1 0 (by decide) (by decide)]
      exfalso
      unfold dp at hx
      omega
    · show sP (setP S 195 (h 6 0) (some q)) 97 (h' 3 (G.1 8 0 + 1)) = some (h' 9 (G.1 8 0 + 1))
      rw [pn 97 _ (by decide), h3, h9]
      exact c3
    · show up2 (sP S) 195 (h 6 0) (some q) 195 (h' 6 0) = some (h' 3 (G'.1 8 0))
      rw [hn 6 0 (by decide) (by decide), up2, if_pos ⟨rfl, rfl⟩, g8, h3]
  · rw [hn 11 0 (by decide) (by decide)]; exact hA.1.1
  · rw [hn 12 0 (by decide) (by decide)]; exact hA.1.2.1
  · rw [gg 0 (by decide) (by decide)] at hv
    rw [hn 13 v (by decide) (by decide)]; exact hA.1.2.2 v hv
  · rw [g8] at h2
    by_cases he : e = G.1 8 0 + 1
    · subst he
      rw [g7', h9]
      exact ⟨c5, c6⟩
    · rw [g7 e (by omega), hh 9 e (fun _ => by omega)]
      exact hA.2.1 e h1 (by omega)
  · rw [gg 0 (by decide) (by decide), hn 11 0 (by decide) (by decide), hn 4 v (by decide) (by decide)]
    exact hA.2.2.1 v hv
  · rw [hn 12 0 (by decide) (by decide), hn 2 c (by decide) (by decide)]
    exact hA.2.2.2 c hc
  · rw [gg 0 (by decide) (by decide)] at hv'
    rw [gg 4 (by decide) (by decide)] at h2
    rw [gg 9 (by decide) (by decide), gg 11 (by decide) (by decide), gg 12 (by decide) (by decide), g2, hn 13 v' (by decide) (by decide)]
    exact hU v' i hv' h1 h2
  · rw [hn 1 0 (by decide) (by decide), pn 33 _ (by decide)]
    exact hL.1
  · rw [gg 20 (by decide) (by decide)]
    exact hL.2.1
  · rw [gg 20 (by decide) (by decide)] at hi
    rw [gg 21 (by decide) (by decide), gg 22 (by decide) (by decide), gg 23 (by decide) (by decide), gg 24 (by decide) (by decide), gg 25 (by decide) (by decide), gg 26 (by decide) (by decide)]
    obtain ⟨q1, q2⟩ := hL.2.2 i hi
    exact ⟨q1, mf _ _ _ _ _ _ _ _ q2⟩
  · rw [hn 15 0 (by decide) (by decide)]
    exact mf _ _ _ _ _ _ _ _ (hH ht)
  · unfold UV at hV ⊢
    rw [gg 20 (by decide) (by decide), gg 21 (by decide) (by decide), gg 23 (by decide) (by decide), gg 25 (by decide) (by decide), gg 4 (by decide) (by decide)]
    exact hV
/-- a node at q with its log at ql -/
def NN (S : Sto) (q ql n vw rd : Nat) : Prop := sK S q = 4 ∧ (sI S 128 q = nI n ∧ sI S 131 q = nI 1 ∧ sI S 132 q = nI rd ∧ sI S 133 q = nI 0 ∧ sI S 134 q = nI 0 ∧ sI S 135 q = nI 0) ∧ (sP S 129 q = some ql ∧ sP S 130 q = some vw) ∧ sK S ql = 13 ∧ sZ S ql = 100
theorem XR.node {z : Nat} {h : Nat → Nat → Nat} {t : Nat → Nat} {r : Rg} {G : GS} {S : Sto} (H : XR z h t r G S) {q ql n : Nat} (hn0 : n = G.1 0 0) (hn6 : n < 6) (hN : NN S q ql n (h 3 (G.1 8 0)) 0) (hq : ∀ v, v < n → h 4 v ≠ q) (hql : ∀ v, v < n → h 13 v ≠ ql) (hz : G.1 2 n = 0 ∧ G.1 28 n = 0 ∧ G.1 4 n = 0 ∧ G.1 5 n = 0) : XR z (up2 (up2 h 4 n q) 13 n ql) t r (gN (gN (gN G 0 0 (n + 1)) 1 n 1) 3 n (G.1 8 0)) (setI (setQ S 11 (h 11 0) n (some q)) 196 (h 6 0) (nI (n + 1))) := by
  obtain ⟨c1, ⟨i0, i1, i2, i3, i4, i5⟩, ⟨p1, p2⟩, k1, k2⟩ := hN
  have gg : ∀ j, j ≠ 0 → j ≠ 1 → j ≠ 3 → (gN (gN (gN G 0 0 (n + 1)) 1 n 1) 3 n (G.1 8 0)).1 j = G.1 j := fun j h0 h1 h3 => by rw [gN_ne _ h3, gN_ne _ h1, gN_ne _ h0]
  have g0 : (gN (gN (gN G 0 0 (n + 1)) 1 n 1) 3 n (G.1 8 0)).1 0 0 = n + 1 := by rw [gN_ne _ (by decide), gN_ne _ (by decide), gN_eq]
  have g1 : ∀ k, (gN (gN (gN G 0 0 (n + 1)) 1 n 1) 3 n (G.1 8 0)).1 1 k = if k = n then 1 else G.1 1 k := fun k => by
    rw [gN_ne _ (by decide), gN_1]
    by_cases hk : k = n
    · rw [if_pos ⟨rfl, hk⟩, if_pos hk]
    · rw [if_neg (fun z => hk z.2), if_neg hk, gN_ne _ (by decide)]
  have g3 : ∀ k, (gN (gN (gN G 0 0 (n + 1)) 1 n 1) 3 n (G.1 8 0)).1 3 k = if k = n then G.1 8 0 else G.1 3 k := fun k => by
    rw [gN_1]
    by_cases hk : k = n
    · rw [if_pos ⟨rfl, hk⟩, if_pos hk]
    · rw [if_neg (fun z => hk z.2), if_neg hk, gN_ne _ (by decide), gN_ne _ (by decide)]
  have g2 : (gN (gN (gN G 0 0 (n + 1)) 1 n 1) 3 n (G.1 8 0)).2 = G.2 := rfl
  generalize gN (gN (gN G 0 0 (n + 1)) 1 n 1) 3 n (G.1 8 0) = G' at *
  have hh : ∀ kd k, (kd = 4 ∨ kd = 13 → k < n) → up2 (up2 h 4 n q) 13 n ql kd k = h kd k := fun kd k hk => by
    rw [up2, if_neg (fun z => by have := hk (Or.inr z.1); omega), up2, if_neg (fun z => by have := hk (Or.inl z.1); omega)]
  have h4 : up2 (up2 h 4 n q) 13 n ql 4 n = q := by rw [up2, if_neg (fun z => absurd z.1 (by decide)), up2, if_pos ⟨rfl, rfl⟩]
  have h13 : up2 (up2 h 4 n q) 13 n ql 13 n = ql := by rw [up2, if_pos ⟨rfl, rfl⟩]
  generalize up2 (up2 h 4 n q) 13 n ql = h' at *
  have hn : ∀ kd k, kd ≠ 4 → kd ≠ 13 → h' kd k = h kd k := fun kd k a b => hh kd k (fun z => by omega)
  obtain ⟨hK, hI, hP, hA, hU, hL, hH, hV⟩ := H
  have sin : ∀ f a, f ≠ 196 → sI (setI (setQ S 11 (h 11 0) n (some q)) 196 (h 6 0) (nI (n + 1))) f a = sI S f a := fun f a hf => by
    show up2 (sI S) 196 (h 6 0) _ f a = _
    rw [up2, if_neg (fun z => hf z.1)]
  have sqn : ∀ k a, k ≠ 11 → sQ (setI (setQ S 11 (h 11 0) n (some q)) 196 (h 6 0) (nI (n + 1))) k a = sQ S k a := fun k a hk => by
    funext i
    show up3 (sQ S) 11 (h 11 0) n _ k a i = _
    rw [up3, if_neg (fun z => hk z.1)]
  have mf : ∀ q' u k v' w e a b, MsgF S q' u k v' w e a b → MsgF (setI (setQ S 11 (h 11 0) n (some q)) 196 (h 6 0) (nI (n + 1))) q' u k v' w e a b := fun q' u k v' w e a b hm => by
    obtain ⟨m0, m1, m2, m3, m4, m5, m6, m7, m8, m9⟩ := hm
    refine ⟨m0, ?_, ?_, ?_, ?_, m5, fun z => ?_, fun z => ?_, fun z => ?_, fun z => ?_⟩
    · rw [sin _ _ (by decide)]; exact m1
    · rw [sin _ _ (by decide)]; exact m2
    · rw [sin _ _ (by decide)]; exact m3
    · rw [sin _ _ (by decide)]; exact m4
    · rw [sin _ _ (by decide)]; exact m6 z
    · rw [sin _ _ (by decide)]; exact m7 z
    · rw [sin _ _ (by decide)]; exact m8 z
    · rw [sin _ _ (by decide)]; exact m9 z
  have dkc : ∀ kd k, dk G' kd k → dk G kd k ∨ ((kd = 4 ∨ kd = 13) ∧ k = n) := fun kd k hd => by
    unfold dk at hd ⊢
    rw [g0, gg 8 (by decide) (by decide) (by decide)] at hd
    omega
  have dkh : ∀ kd k, dk G kd k → h' kd k = h kd k := fun kd k hd => hh kd k (fun z => by unfold dk at hd; omega)
  refine ⟨⟨fun kd k hd => ?_, fun kd k k' hk hd hd' => ?_⟩, fun f k hd => ?_, fun f k hd => ?_, ⟨⟨?_, ?_, fun v hv => ?_⟩, fun e h1 h2 => ?_, fun v hv => ?_, fun c hc => ?_⟩, fun v' i hv' h1 h2 => ?_, ⟨?_, ?_, fun i hi => ?_⟩, fun ht => ?_, ?_⟩
  · show sK S (h' kd k) = kd
    rcases dkc kd k hd with hd | ⟨rfl | rfl, rfl⟩
    · rw [dkh kd k hd]; exact hK.1 kd k hd
    · rw [h4]; exact c1
    · rw [h13]; exact k1
  · rcases dkc kd k hd with e1 | ⟨e1, f1⟩ <;> rcases dkc kd k' hd' with e2 | ⟨e2, f2⟩
    · rw [dkh kd k e1, dkh kd k' e2]
      exact hK.2 kd k k' hk e1 e2
    · subst f2
      rw [dkh kd k e1]
      intro hz
      exfalso
      rcases e2 with rfl | rfl
      · rw [h4] at hz; exact hq k (by unfold dk at e1; omega) hz
      · rw [h13] at hz; exact hql k (by unfold dk at e1; omega) hz
    · subst f1
      rw [dkh kd k' e2]
      intro hz
      exfalso
      rcases e1 with rfl | rfl
      · rw [h4] at hz; exact hq k' (by unfold dk at e2; omega) hz.symm
      · rw [h13] at hz; exact hql k' (by unfold dk at e2; omega) hz.symm
    · intro _; omega
  · have hx : (dm G f k ∧ f ≠ 196) ∨ ((f = 128 ∨ (131 ≤ f ∧ f ≤ 135)) ∧ k = n) ∨ (f = 196 ∧ k = 0) := by
      unfold dm at hd ⊢
      rw [g0, gg 8 (by decide) (by decide) (by decide)] at hd
      omega
    rcases hx with ⟨hx, hf⟩ | ⟨hf, rfl⟩ | ⟨rfl, rfl⟩
    · rw [dkh _ k (dm_dk hx), sin f _ hf]
      refine (hI f k hx).trans ?_
      unfold xv
      rw [g2]
      by_cases e1 : f = 96 ∨ f = 128
      · rw [if_pos e1, if_pos e1]
      rw [if_neg e1, if_neg e1]
      by_cases e2 : f = 67 ∨ f = 68 ∨ f = 70
      · rw [if_pos e2, if_pos e2]
      rw [if_neg e2, if_neg e2]
      by_cases e3 : f = 131
      · subst e3
        show nI (G.1 1 k) = nI (G'.1 1 k)
        rw [g1, if_neg (by unfold dm at hx; omega)]
      · have jx : ∀ f, f ≠ 131 → f ≠ 196 → jn f ≠ 0 ∧ jn f ≠ 1 ∧ jn f ≠ 3 := fun f a b => by
          unfold jn
          split <;> first | exact absurd rfl a | exact absurd rfl b | decide
        rw [gg (jn f) (jx f e3 hf).1 (jx f e3 hf).2.1 (jx f e3 hf).2.2]
    · have hf6 : f ≠ 196 := by omega
      rw [sin f _ hf6]
      have hc : f = 128 ∨ f = 131 ∨ f = 132 ∨ f = 133 ∨ f = 134 ∨ f = 135 := by omega
      rcases hc with rfl | rfl | rfl | rfl | rfl | rfl
      · show sI S 128 (h' 4 k) = nI k
        rw [h4]; exact i0
      · show sI S 131 (h' 4 k) = nI (G'.1 1 k)
        rw [h4, g1, if_pos rfl]; exact i1
      · show sI S 132 (h' 4 k) = nI (G'.1 2 k)
        rw [h4, gg 2 (by decide) (by decide) (by decide), hz.1]; exact i2
      · show sI S 133 (h' 4 k) = nI (G'.1 28 k)
        rw [h4, gg 28 (by decide) (by decide) (by decide), hz.2.1]; exact i3
      · show sI S 134 (h' 4 k) = nI (G'.1 4 k)
        rw [h4, gg 4 (by decide) (by decide) (by decide), hz.2.2.1]; exact i4
      · show sI S 135 (h' 4 k) = nI (G'.1 5 k)
        rw [h4, gg 5 (by decide) (by decide) (by decide), hz.2.2.2]; exact i5
    · show up2 (sI S) 196 (h 6 0) (nI (n + 1)) 196 (h' 6 0) = nI (G'.1 0 0)
      rw [hn 6 0 (by decide) (by decide), up2, if_pos ⟨rfl, rfl⟩, g0]
  · show sP S f (h' (f / 32) k) = _
    have hx : dp G f k ∨ ((f = 129 ∨ f = 130) ∧ k = n) := by
      unfold dp at hd ⊢
      rw [g0, gg 8 (by decide) (by decide) (by decide)] at hd
      omega
    rcases hx with hx | ⟨rfl | rfl, rfl⟩
    · rw [dkh _ k (dp_dk hx), hP f k hx]
      unfold xq
      by_cases e1 : f = 97
      · rw [if_pos e1, if_pos e1, hn 9 k (by decide) (by decide)]
      rw [if_neg e1, if_neg e1]
      by_cases e2 : f = 129
      · rw [if_pos e2, if_pos e2, dkh 13 k (dkG (by unfold dp at hx; omega))]
      rw [if_neg e2, if_neg e2]
      by_cases e3 : f = 130
      · rw [if_pos e3, if_pos e3, g3, if_neg (by unfold dp at hx; omega), hn 3 _ (by decide) (by decide)]
      rw [if_neg e3, if_neg e3, hn 11 0 (by decide) (by decide), hn 12 0 (by decide) (by decide), hn 1 0 (by decide) (by decide), gg 8 (by decide) (by decide) (by decide), hn 3 _ (by decide) (by decide)]
    · show sP S 129 (h' 4 k) = some (h' 13 k)
      rw [h4, h13]; exact p1
    · show sP S 130 (h' 4 k) = some (h' 3 (G'.1 3 k))
      rw [h4, g3, if_pos rfl, hn 3 _ (by decide) (by decide)]; exact p2
  · rw [hn 11 0 (by decide) (by decide)]; exact hA.1.1
  · rw [hn 12 0 (by decide) (by decide)]; exact hA.1.2.1
  · show sZ S (h' 13 v) = 100
    rw [g0] at hv
    by_cases hvn : v = n
    · subst hvn; rw [h13]; exact k2
    · rw [hh 13 v (fun _ => by omega)]; exact hA.1.2.2 v (by omega)
  · rw [gg 8 (by decide) (by decide) (by decide)] at h2
    rw [gg 7 (by decide) (by decide) (by decide), hn 9 e (by decide) (by decide)]
    exact hA.2.1 e h1 h2
  · show up3 (sQ S) 11 (h 11 0) n (some q) 11 (h' 11 0) v = _
    rw [g0, hn 11 0 (by decide) (by decide), up3]
    by_cases hvn : v = n
    · subst hvn
      rw [if_pos ⟨rfl, rfl, rfl⟩, if_pos (by omega), h4]
    · rw [if_neg (fun z => hvn z.2.2), hA.2.2.1 v hv]
      by_cases hv2 : v < G.1 0 0
      · rw [if_pos hv2, if_pos (by omega), hh 4 v (fun _ => by omega)]
      · rw [if_neg hv2, if_neg (by omega)]
  · rw [sqn 12 _ (by decide), hn 12 0 (by decide) (by decide), hn 2 c (by decide) (by decide)]
    exact hA.2.2.2 c hc
  · rw [g0] at hv'
    rw [gg 4 (by decide) (by decide) (by decide)] at h2
    by_cases hvn : v' = n
    · subst hvn; omega
    · rw [gg 9 (by decide) (by decide) (by decide), gg 11 (by decide) (by decide) (by decide), gg 12 (by decide) (by decide) (by decide), g2, hh 13 v' (fun _ => by omega), sqn 13 _ (by decide)]
      obtain ⟨u0, u1, u2, u3, u4, u5⟩ := hU v' i (by omega) h1 h2
      refine ⟨u0, u1, ?_, ?_, ?_, ?_⟩
      · rw [sin _ _ (by decide)]; exact u2
      · rw [sin _ _ (by decide)]; exact u3
      · rw [sin _ _ (by decide)]; exact u4
      · rw [sin _ _ (by decide)]; exact u5
  · rw [hn 1 0 (by decide) (by decide)]
    exact hL.1
  · rw [gg 20 (by decide) (by decide) (by decide)]
    exact hL.2.1
  · rw [gg 20 (by decide) (by decide) (by decide)] at hi
    rw [gg 21 (by decide) (by decide) (by decide), gg 22 (by decide) (by decide) (by decide), gg 23 (by decide) (by decide) (by decide), gg 24 (by decide) (by decide) (by decide), gg 25 (by decide) (by decide) (by decide), gg 26 (by decide) (by decide) (by decide), sqn 14 _ (by decide)]
    obtain ⟨q1, q2⟩ := hL.2.2 i hi
    exact ⟨q1, mf _ _ _ _ _ _ _ _ q2⟩
  · rw [hn 15 0 (by decide) (by decide)]
    exact mf _ _ _ _ _ _ _ _ (hH ht)
  · unfold UV at hV ⊢
    rw [gg 20 (by decide) (by decide) (by decide), gg 21 (by decide) (by decide) (by decide), gg 23 (by decide) (by decide) (by decide), gg 25 (by decide) (by decide) (by decide), gg 4 (by decide) (by decide) (by decide)]
    exact hV
