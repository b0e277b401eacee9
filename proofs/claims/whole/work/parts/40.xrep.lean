/-! the class's cells at a state G. h: addresses by kind (2 clients, 3 configurations, 9 their arrays, 4 nodes, 13 their logs, 6 the object, 1 its list, 11 and 12 its arrays, 15 the message in hand); t: the message in hand (kind, from, to, epoch, one, two); r: addresses of messages, the list's array, the updates' addresses -/
def mem (m : Nat) : List Nat := (List.range 6).filter (fun w => m.testBit w)
def dk (G : GS) (kd k : Nat) : Prop := (kd = 2 ∧ k < 3) ∨ ((kd = 3 ∨ kd = 9) ∧ 1 ≤ k ∧ k ≤ G.1 8 0) ∨ ((kd = 4 ∨ kd = 13) ∧ k < G.1 0 0) ∨ ((kd = 6 ∨ kd = 1 ∨ kd = 11 ∨ kd = 12) ∧ k = 0)
def dm (G : GS) (f k : Nat) : Prop := ((64 ≤ f ∧ f ≤ 70) ∧ k < 3) ∨ (f = 96 ∧ 1 ≤ k ∧ k ≤ G.1 8 0) ∨ ((f = 128 ∨ (131 ≤ f ∧ f ≤ 135)) ∧ k < G.1 0 0) ∨ ((f = 196 ∨ f = 197 ∨ f = 34) ∧ k = 0)
def jn : Nat → Nat
  | 64 => 13
  | 65 => 14
  | 66 => 15
  | 69 => 18
  | 131 => 1
  | 132 => 2
  | 133 => 28
  | 134 => 4
  | 135 => 5
  | 196 => 0
  | 197 => 27
  | 34 => 20
  | _ => 99
def jv : Nat → Nat
  | 67 => 16
  | 68 => 29
  | 70 => 19
  | _ => 99
def xv (G : GS) (f k : Nat) : Int32 := if f = 96 ∨ f = 128 then nI k else if f = 67 ∨ f = 68 ∨ f = 70 then G.2 (jv f) k else nI (G.1 (jn f) k)
def dp (G : GS) (f k : Nat) : Prop := (f = 97 ∧ 1 ≤ k ∧ k ≤ G.1 8 0) ∨ ((f = 129 ∨ f = 130) ∧ k < G.1 0 0) ∨ ((192 ≤ f ∧ f ≤ 195) ∧ k = 0)
def xq (h : Nat → Nat → Nat) (G : GS) (f k : Nat) : Nat := if f = 97 then h 9 k else if f = 129 then h 13 k else if f = 130 then h 3 (G.1 3 k) else if f = 192 then h 11 0 else if f = 193 then h 12 0 else if f = 194 then h 1 0 else h 3 (G.1 8 0)
def UPf (S : Sto) (q k : Nat) (x : Int32) (c r : Nat) : Prop := sK S q = 5 ∧ sI S 160 q = nI k ∧ sI S 161 q = x ∧ sI S 162 q = nI c ∧ sI S 163 q = nI r
def MsgF (S : Sto) (q : Nat) (u : Nat → Nat → Nat) (k v w e a b : Nat) : Prop := sK S q = 7 ∧ sI S 224 q = nI k ∧ sI S 225 q = nI v ∧ sI S 226 q = nI w ∧ sI S 227 q = nI e ∧ (k = 1 → sP S 228 q = some (u v a)) ∧ (k = 2 ∨ k = 4 ∨ k = 5 → sI S 229 q = nI a) ∧ (k = 5 → sI S 230 q = nI b) ∧ (k = 3 → sI S 231 q = nI a) ∧ (k = 3 ∨ k = 4 → sI S 232 q = nI b)
def XK (h : Nat → Nat → Nat) (G : GS) (S : Sto) : Prop := (∀ kd k, dk G kd k → sK S (h kd k) = kd) ∧ ∀ kd k k', (kd = 2 ∨ kd = 4 ∨ kd = 13) → dk G kd k → dk G kd k' → h kd k = h kd k' → k = k'
def XI (h : Nat → Nat → Nat) (G : GS) (S : Sto) : Prop := ∀ f k, dm G f k → sI S f (h (f / 32) k) = xv G f k
def XP (h : Nat → Nat → Nat) (G : GS) (S : Sto) : Prop := ∀ f k, dp G f k → sP S f (h (f / 32) k) = some (xq h G f k)
def XA (h : Nat → Nat → Nat) (G : GS) (S : Sto) : Prop := (sZ S (h 11 0) = 6 ∧ sZ S (h 12 0) = 3 ∧ ∀ v, v < G.1 0 0 → sZ S (h 13 v) = 100) ∧ (∀ e, 1 ≤ e → e ≤ G.1 8 0 → sZ S (h 9 e) = (mem (G.1 7 e)).length ∧ ∀ i m, (mem (G.1 7 e))[i]? = some m → sE S 9 (h 9 e) i = nI m) ∧ (∀ v, v < 6 → sQ S 11 (h 11 0) v = if v < G.1 0 0 then some (h 4 v) else none) ∧ ∀ c, c < 3 → sQ S 12 (h 12 0) c = some (h 2 c)
def XU (h : Nat → Nat → Nat) (u : Nat → Nat → Nat) (G : GS) (S : Sto) : Prop := ∀ v i, v < G.1 0 0 → 1 ≤ i → i ≤ G.1 4 v → sQ S 13 (h 13 v) (i - 1) = some (u v i) ∧ UPf S (u v i) (G.1 9 (128 * v + i)) (G.2 10 (128 * v + i)) (G.1 11 (128 * v + i)) (G.1 12 (128 * v + i))
abbrev Rg : Type := (Nat → Nat) × Nat × (Nat → Nat → Nat)
def XL (z : Nat) (h : Nat → Nat → Nat) (r : Rg) (G : GS) (S : Sto) : Prop := sP S 33 (h 1 0) = some r.2.1 ∧ ((sK S r.2.1 = 14 ∧ G.1 20 0 ≤ sZ S r.2.1 ∧ sZ S r.2.1 ≤ 2200) ∨ (r.2.1 = z ∧ G.1 20 0 = 0)) ∧ ∀ i, i < G.1 20 0 → sQ S 14 r.2.1 i = some (r.1 i) ∧ MsgF S (r.1 i) r.2.2 (G.1 23 i) (G.1 21 i) (G.1 22 i) (G.1 24 i) (G.1 25 i) (G.1 26 i)
def XH (h : Nat → Nat → Nat) (t : Nat → Nat) (u : Nat → Nat → Nat) (S : Sto) : Prop := t 0 ≠ 0 → MsgF S (h 15 0) u (t 0) (t 1) (t 2) (t 3) (t 4) (t 5)
def UV (t : Nat → Nat) (G : GS) : Prop := (∀ i, i < G.1 20 0 → G.1 23 i = 1 → G.1 25 i ≤ G.1 4 (G.1 21 i)) ∧ (t 0 = 1 → t 4 ≤ G.1 4 (t 1))
def XR (z : Nat) (h : Nat → Nat → Nat) (t : Nat → Nat) (r : Rg) (G : GS) (S : Sto) : Prop := XK h G S ∧ XI h G S ∧ XP h G S ∧ XA h G S ∧ XU h r.2.2 G S ∧ XL z h r G S ∧ XH h t r.2.2 S ∧ UV t G
def XE (z : Nat) (h : Nat → Nat → Nat) (t : Nat → Nat) (G : GS) (S : Sto) : Prop := ∃ r, XR z h t r G S
/-- what the class's walks need of the state -/
def WF (G : GS) : Prop := (1 ≤ G.1 0 0 ∧ G.1 0 0 ≤ 6) ∧ (1 ≤ G.1 8 0 ∧ G.1 8 0 ≤ 12) ∧ (∀ v, v < G.1 0 0 → 1 ≤ G.1 3 v ∧ G.1 3 v ≤ G.1 8 0 ∧ isIn G (G.1 3 v) v = true) ∧ (∀ v, G.1 0 0 ≤ v → G.1 1 v = 0) ∧ (∀ e w, e ≤ G.1 8 0 → isIn G e w = true → w < G.1 0 0) ∧ ∀ v, G.1 5 v ≤ G.1 4 v
theorem dkC {G : GS} {k : Nat} (h : k < 3) : dk G 2 k := Or.inl ⟨rfl, h⟩
theorem dkF {G : GS} {k : Nat} (h : 1 ≤ k ∧ k ≤ G.1 8 0) : dk G 3 k := Or.inr (Or.inl ⟨Or.inl rfl, h⟩)
theorem dkM {G : GS} {k : Nat} (h : 1 ≤ k ∧ k ≤ G.1 8 0) : dk G 9 k := Or.inr (Or.inl ⟨Or.inr rfl, h⟩)
theorem dkN {G : GS} {k : Nat} (h : k < G.1 0 0) : dk G 4 k := Or.inr (Or.inr (Or.inl ⟨Or.inl rfl, h⟩))
theorem dkG {G : GS} {k : Nat} (h : k < G.1 0 0) : dk G 13 k := Or.inr (Or.inr (Or.inl ⟨Or.inr rfl, h⟩))
theorem dk6 {G : GS} : dk G 6 0 := Or.inr (Or.inr (Or.inr ⟨Or.inl rfl, rfl⟩))
theorem dk1 {G : GS} : dk G 1 0 := Or.inr (Or.inr (Or.inr ⟨Or.inr (Or.inl rfl), rfl⟩))
theorem dk11 {G : GS} : dk G 11 0 := Or.inr (Or.inr (Or.inr ⟨Or.inr (Or.inr (Or.inl rfl)), rfl⟩))
theorem dk12 {G : GS} : dk G 12 0 := Or.inr (Or.inr (Or.inr ⟨Or.inr (Or.inr (Or.inr rfl)), rfl⟩))
theorem dmC {G : GS} {f k : Nat} (hf : 64 ≤ f ∧ f ≤ 70) (h : k < 3) : dm G f k := Or.inl ⟨hf, h⟩
theorem dmF {G : GS} {k : Nat} (h : 1 ≤ k ∧ k ≤ G.1 8 0) : dm G 96 k := Or.inr (Or.inl ⟨rfl, h⟩)
theorem dmN {G : GS} {f k : Nat} (hf : f = 128 ∨ (131 ≤ f ∧ f ≤ 135)) (h : k < G.1 0 0) : dm G f k := Or.inr (Or.inr (Or.inl ⟨hf, h⟩))
theorem dmX {G : GS} {f : Nat} (hf : f = 196 ∨ f = 197 ∨ f = 34) : dm G f 0 := Or.inr (Or.inr (Or.inr ⟨hf, rfl⟩))
theorem dpF {G : GS} {k : Nat} (h : 1 ≤ k ∧ k ≤ G.1 8 0) : dp G 97 k := Or.inl ⟨rfl, h⟩
theorem dpN {G : GS} {f k : Nat} (hf : f = 129 ∨ f = 130) (h : k < G.1 0 0) : dp G f k := Or.inr (Or.inl ⟨hf, h⟩)
theorem dpX {G : GS} {f : Nat} (hf : 192 ≤ f ∧ f ≤ 195) : dp G f 0 := Or.inr (Or.inr ⟨hf, rfl⟩)
/-- fields of the state that shape the class's cells -/
def shp (j : Nat) : Bool := j == 0 || j == 3 || j == 4 || j == 7 || j == 8 || j == 9 || j == 11 || j == 12 || (20 ≤ j && j ≤ 26)
theorem XR.congr {z : Nat} {h : Nat → Nat → Nat} {t : Nat → Nat} {r : Rg} {G G' : GS} {S S' : Sto} (H : XR z h t r G S) (hG : ∀ j, shp j = true → G'.1 j = G.1 j) (hV : G'.2 10 = G.2 10)
    (hK : ∀ a, sK S a ≠ 0 → sK S' a = sK S a) (hP : ∀ f a, sK S a = f / 32 → sP S' f a = sP S f a) (hE : ∀ k a, sK S a = k → sE S' k a = sE S k a) (hQ : ∀ k a, sK S a = k → sQ S' k a = sQ S k a) (hZ : ∀ a, sK S a ≠ 0 → sZ S' a = sZ S a)
    (hI : ∀ f a, f / 32 = 5 ∨ f / 32 = 7 → sK S a = f / 32 → sI S' f a = sI S f a) (hX : XI h G' S') : XR z h t r G' S' := by
  have g0 := hG 0 rfl
  have g3 := hG 3 rfl
  have g4 := hG 4 rfl
  have g7 := hG 7 rfl
  have g8 := hG 8 rfl
  have g9 := hG 9 rfl
  have g11 := hG 11 rfl
  have g12 := hG 12 rfl
  have g20 := hG 20 rfl
  have g21 := hG 21 rfl
  have g22 := hG 22 rfl
  have g23 := hG 23 rfl
  have g24 := hG 24 rfl
  have g25 := hG 25 rfl
  have g26 := hG 26 rfl
  have edk : ∀ kd k, dk G' kd k = dk G kd k := fun kd k => by unfold dk; rw [g0, g8]
  have edp : ∀ kd k, dp G' kd k = dp G kd k := fun kd k => by unfold dp; rw [g0, g8]
  have exq : ∀ f k, xq h G' f k = xq h G f k := fun f k => by unfold xq; rw [g3, g8]
  obtain ⟨hK0, hI0, hP0, hA0, hU0, hL0, hH0, hV0⟩ := H
  have kk : ∀ kd k, dk G kd k → sK S (h kd k) ≠ 0 := fun kd k hd => by
    rw [hK0.1 kd k hd]
    intro z0
    subst z0
    unfold dk at hd
    omega
  have mf : ∀ q u k v w e a b, MsgF S q u k v w e a b → MsgF S' q u k v w e a b := fun q u k v w e a b hm => by
    obtain ⟨m0, m1, m2, m3, m4, m5, m6, m7, m8, m9⟩ := hm
    have i : ∀ f, f / 32 = 7 → sI S' f q = sI S f q := fun f hf => hI f q (Or.inr hf) (by rw [hf]; exact m0)
    refine ⟨by rw [hK q (by rw [m0]; decide)]; exact m0, by rw [i 224 rfl]; exact m1, by rw [i 225 rfl]; exact m2, by rw [i 226 rfl]; exact m3, by rw [i 227 rfl]; exact m4, fun z => by rw [hP 228 q m0]; exact m5 z, fun z => by rw [i 229 rfl]; exact m6 z, fun z => by rw [i 230 rfl]; exact m7 z, fun z => by rw [i 231 rfl]; exact m8 z, fun z => by rw [i 232 rfl]; exact m9 z⟩
  refine ⟨⟨fun kd k hd => ?_, fun kd k k' hk hd hd' => ?_⟩, hX, fun f k hd => ?_, ⟨⟨?_, ?_, fun v hv => ?_⟩, fun e h1 h2 => ?_, fun v hv => ?_, fun c hc => ?_⟩, fun v i hv h1 h2 => ?_, ⟨?_, ?_, fun i hi => ?_⟩, fun ht => mf _ _ _ _ _ _ _ _ (hH0 ht), ?_⟩
  · rw [edk] at hd
    rw [hK _ (kk kd k hd)]
    exact hK0.1 kd k hd
  · rw [edk] at hd hd'
    exact hK0.2 kd k k' hk hd hd'
  · rw [edp] at hd
    rw [exq, hP f _ ?_]
    · exact hP0 f k hd
    · refine hK0.1 _ _ ?_
      unfold dp at hd
      rcases hd with ⟨rfl, hd⟩ | ⟨rfl | rfl, hd⟩ | ⟨hf, rfl⟩
      · exact dkF hd
      · exact dkN hd
      · exact dkN hd
      · have : f / 32 = 6 := by omega
        rw [this]
        exact dk6
  · rw [hZ _ (kk 11 0 dk11)]; exact hA0.1.1
  · rw [hZ _ (kk 12 0 dk12)]; exact hA0.1.2.1
  · rw [g0] at hv
    rw [hZ _ (kk 13 v (dkG hv))]; exact hA0.1.2.2 v hv
  · rw [g8] at h2
    rw [g7, hZ _ (kk 9 e (dkM ⟨h1, h2⟩)), hE 9 _ (hK0.1 9 e (dkM ⟨h1, h2⟩))]
    exact hA0.2.1 e h1 h2
  · rw [g0, hQ 11 _ (hK0.1 11 0 dk11)]; exact hA0.2.2.1 v hv
  · rw [hQ 12 _ (hK0.1 12 0 dk12)]; exact hA0.2.2.2 c hc
  · rw [g0] at hv
    rw [g4] at h2
    rw [hQ 13 _ (hK0.1 13 v (dkG hv)), g9, g11, g12, hV]
    obtain ⟨u0, u1, u2, u3, u4, u5⟩ := hU0 v i hv h1 h2
    have ii : ∀ f, f / 32 = 5 → sI S' f (r.2.2 v i) = sI S f (r.2.2 v i) := fun f hf => hI f _ (Or.inl hf) (by rw [hf]; exact u1)
    refine ⟨u0, by rw [hK _ (by rw [u1]; decide)]; exact u1, by rw [ii 160 rfl]; exact u2, by rw [ii 161 rfl]; exact u3, by rw [ii 162 rfl]; exact u4, by rw [ii 163 rfl]; exact u5⟩
  · rw [hP 33 _ (hK0.1 1 0 dk1)]; exact hL0.1
  · rw [g20]
    rcases hL0.2.1 with ⟨e1, e2, e3⟩ | e1
    · left
      rw [hK _ (by rw [e1]; decide), hZ _ (by rw [e1]; decide)]
      exact ⟨e1, e2, e3⟩
    · exact Or.inr e1
  · rw [g20] at hi
    rw [g21, g22, g23, g24, g25, g26]
    obtain ⟨q1, q2⟩ := hL0.2.2 i hi
    refine ⟨?_, mf _ _ _ _ _ _ _ _ q2⟩
    rcases hL0.2.1 with ⟨e1, e2, e3⟩ | e1
    · rw [hQ 14 _ e1]; exact q1
    · omega
  · unfold UV
    rw [g20, g23, g25, g4, g21]
    exact hV0
/-- fields of nodes, clients and the object that shape nothing -/
def smp (f : Nat) : Bool := f == 64 || f == 65 || f == 66 || f == 69 || f == 131 || f == 132 || f == 133 || f == 135 || f == 197
theorem smp_ok {f : Nat} (hs : smp f = true) : f < 198 ∧ shp (jn f) = false ∧ ¬ f / 32 = 5 ∧ ¬ f / 32 = 7 ∧ ¬ (f = 96 ∨ f = 128) ∧ ¬ (f = 67 ∨ f = 68 ∨ f = 70) ∧ (∀ f', f' < 198 → jn f' = jn f → f' = f) ∧ (f / 32 = 2 ∨ f / 32 = 4 ∨ f = 197) := by
  have hf : f < 198 := by
    simp only [smp, Bool.or_eq_true, beq_iff_eq] at hs
    omega
  have e : f = 64 ∨ f = 65 ∨ f = 66 ∨ f = 69 ∨ f = 131 ∨ f = 132 ∨ f = 133 ∨ f = 135 ∨ f = 197 := by
    simp only [smp, Bool.or_eq_true, beq_iff_eq] at hs
    omega
  refine ⟨hf, ?_⟩
  rcases e with rfl | rfl | rfl | rfl | rfl | rfl | rfl | rfl | rfl <;> exact ⟨by decide, by decide, by decide, by decide, by decide, by decide +kernel, by decide⟩
theorem dm_lt {G : GS} {f k : Nat} (h : dm G f k) : f < 198 := by unfold dm at h; omega
theorem dm_dk {G : GS} {f k : Nat} (h : dm G f k) : dk G (f / 32) k := by
  unfold dm at h
  rcases h with ⟨hf, h⟩ | ⟨hf, h⟩ | ⟨hf, h⟩ | ⟨hf, h⟩
  · have : f / 32 = 2 := by omega
    rw [this]; exact dkC h
  · subst hf; exact dkF h
  · have : f / 32 = 4 := by omega
    rw [this]; exact dkN h
  · subst h
    rcases hf with rfl | rfl | rfl
    · exact dk6
    · exact dk6
    · exact dk1
theorem XR.putN {z : Nat} {h : Nat → Nat → Nat} {t : Nat → Nat} {r : Rg} {G : GS} {S : Sto} (H : XR z h t r G S) (f k n : Nat) (hs : smp f = true) (hd : dm G f k) : XR z h t r (gN G (jn f) k n) (setI S f (h (f / 32) k) (nI n)) := by
  obtain ⟨h0, h1, h2, h3, h4, h5, h6, h7⟩ := smp_ok hs
  refine H.congr (fun j hj => gN_ne _ (fun z0 => by rw [z0, h1] at hj; cases hj)) rfl (fun _ _ => rfl) (fun _ _ _ => rfl) (fun _ _ _ => rfl) (fun _ _ _ => rfl) (fun _ _ => rfl) (fun f' a hf' _ => ?_) (fun f' k' hd' => ?_)
  · have : ¬ (f' = f ∧ a = h (f / 32) k) := fun z0 => by
      rw [z0.1] at hf'
      exact hf'.elim h2 h3
    simp only [setI, sI, up2, if_neg this]
  · have hd0 : dm G f' k' := by
      unfold dm at hd' ⊢
      rw [gN_ne _ (fun z0 => by rw [← z0] at h1; cases h1), gN_ne _ (fun z0 => by rw [← z0] at h1; cases h1)] at hd'
      exact hd'
    have h0' := dm_lt hd0
    by_cases e : f' = f ∧ k' = k
    · obtain ⟨rfl, rfl⟩ := e
      simp only [setI, sI, up2, and_self, if_true]
      unfold xv
      rw [if_neg h4, if_neg h5, gN_eq]
    · have hne : ¬ (f' = f ∧ h (f' / 32) k' = h (f / 32) k) := fun z0 => by
        obtain ⟨rfl, z2⟩ := z0
        apply e
        refine ⟨rfl, ?_⟩
        rcases h7 with h7 | h7 | h7
        · exact H.1.2 _ _ _ (by omega) (dm_dk hd0) (dm_dk hd) z2
        · exact H.1.2 _ _ _ (by omega) (dm_dk hd0) (dm_dk hd) z2
        · subst h7
          unfold dm at hd0 hd
          omega
      simp only [setI, up2]
      show (if f' = f ∧ h (f' / 32) k' = h (f / 32) k then nI n else sI S f' (h (f' / 32) k')) = _
      rw [if_neg hne, H.2.1 f' k' hd0]
      unfold xv
      by_cases c1 : f' = 96 ∨ f' = 128
      · rw [if_pos c1, if_pos c1]
      · rw [if_neg c1, if_neg c1]
        by_cases c2 : f' = 67 ∨ f' = 68 ∨ f' = 70
        · rw [if_pos c2, if_pos c2]; rfl
        · rw [if_neg c2, if_neg c2, gN_1, if_neg (fun z0 => e ⟨h6 f' h0' z0.1, z0.2⟩)]
theorem XR.putV {z : Nat} {h : Nat → Nat → Nat} {t : Nat → Nat} {r : Rg} {G : GS} {S : Sto} (H : XR z h t r G S) (f k : Nat) (x : Int32) (hs : f = 67 ∨ f = 68 ∨ f = 70) (hd : k < 3) : XR z h t r (gV G (jv f) k x) (setI S f (h 2 k) x) := by
  have hj10 : (10 : Nat) ≠ jv f := by rcases hs with rfl | rfl | rfl <;> decide
  have hf2 : f / 32 = 2 := by omega
  refine H.congr (fun j hj => rfl) (gV_ne _ hj10) (fun _ _ => rfl) (fun _ _ _ => rfl) (fun _ _ _ => rfl) (fun _ _ _ => rfl) (fun _ _ => rfl) (fun f' a hf' _ => ?_) (fun f' k' hd' => ?_)
  · have : ¬ (f' = f ∧ a = h 2 k) := by omega
    simp only [setI, sI, up2, if_neg this]
  · have hd0 : dm G f' k' := hd'
    by_cases e : f' = f ∧ k' = k
    · obtain ⟨rfl, rfl⟩ := e
      have n4 : ¬ (f' = 96 ∨ f' = 128) := by omega
      rw [hf2]
      simp only [setI, sI, up2, and_self, if_true]
      unfold xv
      rw [if_neg n4, if_pos hs, gV_2, if_pos ⟨rfl, rfl⟩]
    · have hne : ¬ (f' = f ∧ h (f' / 32) k' = h 2 k) := fun z0 => by
        obtain ⟨rfl, z2⟩ := z0
        rw [hf2] at z2
        have hd1 := dm_dk hd0
        rw [hf2] at hd1
        exact e ⟨rfl, H.1.2 2 _ _ (by omega) hd1 (dkC hd) z2⟩
      show (if f' = f ∧ h (f' / 32) k' = h 2 k then x else sI S f' (h (f' / 32) k')) = _
      rw [if_neg hne, H.2.1 f' k' hd0]
      unfold xv
      by_cases c1 : f' = 96 ∨ f' = 128
      · rw [if_pos c1, if_pos c1]
      · rw [if_neg c1, if_neg c1]
        by_cases c2 : f' = 67 ∨ f' = 68 ∨ f' = 70
        · rw [if_pos c2, if_pos c2, gV_2, if_neg]
          intro z0
          apply e
          refine ⟨?_, z0.2⟩
          rcases hs with rfl | rfl | rfl <;> rcases c2 with rfl | rfl | rfl <;> first | rfl | (exact absurd z0.1 (by decide))
        · rw [if_neg c2, if_neg c2]; rfl
