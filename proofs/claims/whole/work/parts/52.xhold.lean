/-! new objects; fields of a message that is not under way yet; an update taken into a log -/
theorem XR.nz {z : Nat} {h : Nat → Nat → Nat} {t : Nat → Nat} {r : Rg} {G : GS} {S : Sto} (H : XR z h t r G S) {kd k : Nat} (hd : dk G kd k) : sK S (h kd k) ≠ 0 := by
  rw [H.1.1 kd k hd]
  intro z0
  subst z0
  unfold dk at hd
  omega
theorem XR.nwO {z : Nat} {h : Nat → Nat → Nat} {t : Nat → Nat} {r : Rg} {G : GS} {S : Sto} (H : XR z h t r G S) {q kd : Nat} (hq : sK S q = 0) (hkd : kd ≠ 0) : XR z h t r G (newO S q kd) := by
  have nq : ∀ a, sK S a ≠ 0 → a ≠ q := fun a ha e => ha (by rw [e]; exact hq)
  have i1 : ∀ f a, a ≠ q ∨ f / 32 ≠ kd → sI (newO S q kd) f a = sI S f a := fun f a ha => by
    show (if a = q ∧ f / 32 = kd then 0 else sI S f a) = _
    rw [if_neg (fun z0 => ha.elim (fun y => y z0.1) (fun y => y z0.2))]
  have p1 : ∀ f a, a ≠ q ∨ f / 32 ≠ kd → sP (newO S q kd) f a = sP S f a := fun f a ha => by
    show (if a = q ∧ f / 32 = kd then none else sP S f a) = _
    rw [if_neg (fun z0 => ha.elim (fun y => y z0.1) (fun y => y z0.2))]
  have cs : ∀ f a, sK S a = f / 32 → a ≠ q ∨ f / 32 ≠ kd := fun f a ha => by
    by_cases e : a = q
    · right; rw [← ha, e, hq]; exact hkd.symm
    · exact Or.inl e
  refine H.congr (fun _ _ => rfl) rfl (fun a ha => ?_) (fun f a ha => p1 f a (cs f a ha)) (fun _ _ _ => rfl) (fun _ _ _ => rfl) (fun _ _ => rfl) (fun f a _ ha => i1 f a (cs f a ha)) (fun f k hd => ?_)
  · show va_up (sK S) q kd a = _
    rw [va_up, if_neg (nq a ha)]
  · rw [i1 f _ (Or.inl (nq _ (H.nz (dm_dk hd))))]
    exact H.2.1 f k hd
theorem XR.nwA {z : Nat} {h : Nat → Nat → Nat} {t : Nat → Nat} {r : Rg} {G : GS} {S : Sto} (H : XR z h t r G S) {q kd n : Nat} (hq : sK S q = 0) (hkd : kd ≠ 0) : XR z h t r G (newA S q kd n) := by
  have nq : ∀ a, sK S a ≠ 0 → a ≠ q := fun a ha e => ha (by rw [e]; exact hq)
  have cs : ∀ k a, sK S a = k → a ≠ q ∨ k ≠ kd := fun k a ha => by
    by_cases e : a = q
    · right; rw [← ha, e, hq]; exact hkd.symm
    · exact Or.inl e
  refine H.congr (fun _ _ => rfl) rfl (fun a ha => ?_) (fun _ _ _ => rfl) (fun k a ha => ?_) (fun k a ha => ?_) (fun a ha => ?_) (fun _ _ _ _ => rfl) (fun f k hd => H.2.1 f k hd)
  · show va_up (sK S) q kd a = _
    rw [va_up, if_neg (nq a ha)]
  · funext i
    show (if k = kd ∧ a = q then 0 else sE S k a i) = _
    rw [if_neg (fun z0 => (cs k a ha).elim (fun y => y z0.2) (fun y => y z0.1))]
  · funext i
    show (if k = kd ∧ a = q then none else sQ S k a i) = _
    rw [if_neg (fun z0 => (cs k a ha).elim (fun y => y z0.2) (fun y => y z0.1))]
  · show va_up (sZ S) q n a = _
    rw [va_up, if_neg (nq a ha)]
/-- a message that is not under way, nor in hand -/
def NM (h : Nat → Nat → Nat) (t : Nat → Nat) (r : Rg) (G : GS) (q : Nat) : Prop := (∀ i, i < G.1 20 0 → r.1 i ≠ q) ∧ (t 0 ≠ 0 → h 15 0 ≠ q)
theorem XR.nm {z : Nat} {h : Nat → Nat → Nat} {t : Nat → Nat} {r : Rg} {G : GS} {S : Sto} (H : XR z h t r G S) {q : Nat} (hq : sK S q = 0) : NM h t r G q :=
  ⟨fun i hi e => (by have := (H.2.2.2.2.2.1.2.2 i hi).2.1; rw [e, hq] at this; cases this), fun ht e => (by have := (H.2.2.2.2.2.2.1 ht).1; rw [e, hq] at this; cases this)⟩
theorem XR.mset {z : Nat} {h : Nat → Nat → Nat} {t : Nat → Nat} {r : Rg} {G : GS} {S S' : Sto} (H : XR z h t r G S) {q : Nat} (hN : NM h t r G q) (hK : sK S' = sK S) (hI : ∀ f a, ¬ (a = q ∧ f / 32 = 7) → sI S' f a = sI S f a) (hP : ∀ f a, ¬ (a = q ∧ f / 32 = 7) → sP S' f a = sP S f a) (hE : sE S' = sE S) (hQ : sQ S' = sQ S) (hZ : sZ S' = sZ S) : XR z h t r G S' := by
  obtain ⟨hK0, hI0, hP0, hA0, hU0, hL0, hH0, hV0⟩ := H
  have mf : ∀ x u k v w e a b, x ≠ q → MsgF S x u k v w e a b → MsgF S' x u k v w e a b := fun x u k v w e a b hx hm => by
    obtain ⟨m0, m1, m2, m3, m4, m5, m6, m7, m8, m9⟩ := hm
    have i : ∀ f, sI S' f x = sI S f x := fun f => hI f x (fun z0 => hx z0.1)
    exact ⟨by rw [hK]; exact m0, by rw [i]; exact m1, by rw [i]; exact m2, by rw [i]; exact m3, by rw [i]; exact m4, fun z => by rw [hP 228 x (fun z0 => hx z0.1)]; exact m5 z, fun z => by rw [i]; exact m6 z, fun z => by rw [i]; exact m7 z, fun z => by rw [i]; exact m8 z, fun z => by rw [i]; exact m9 z⟩
  refine ⟨⟨fun kd k hd => by rw [hK]; exact hK0.1 kd k hd, hK0.2⟩, fun f k hd => ?_, fun f k hd => ?_, ?_, fun v i hv h1 h2 => ?_, ⟨?_, ?_, fun i hi => ⟨?_, mf _ _ _ _ _ _ _ _ (hN.1 i hi) (hL0.2.2 i hi).2⟩⟩, fun ht => mf _ _ _ _ _ _ _ _ (hN.2 ht) (hH0 ht), hV0⟩
  · rw [hI f _ (fun z0 => by have := dm_lt hd; omega)]; exact hI0 f k hd
  · rw [hP f _ (fun z0 => by unfold dp at hd; omega)]; exact hP0 f k hd
  · unfold XA; rw [hE, hQ, hZ]; exact hA0
  · obtain ⟨u0, u1, u2, u3, u4, u5⟩ := hU0 v i hv h1 h2
    have ii : ∀ f x, f / 32 = 5 → sI S' f x = sI S f x := fun f x hf => hI f x (fun z0 => by omega)
    exact ⟨by rw [hQ]; exact u0, by rw [hK]; exact u1, by rw [ii 160 _ rfl]; exact u2, by rw [ii 161 _ rfl]; exact u3, by rw [ii 162 _ rfl]; exact u4, by rw [ii 163 _ rfl]; exact u5⟩
  · rw [hP 33 _ (fun z0 => by omega)]; exact hL0.1
  · rw [hK, hZ]; exact hL0.2.1
  · rw [hQ]; exact (hL0.2.2 i hi).1
theorem XR.mI {z : Nat} {h : Nat → Nat → Nat} {t : Nat → Nat} {r : Rg} {G : GS} {S : Sto} (H : XR z h t r G S) {q f : Nat} {x : Int32} (hN : NM h t r G q) (hf : f / 32 = 7) : XR z h t r G (setI S f q x) :=
  H.mset hN rfl (fun f' a hn => by show up2 (sI S) f q x f' a = _; rw [up2, if_neg (fun z0 => hn ⟨z0.2, by rw [z0.1]; exact hf⟩)]) (fun _ _ _ => rfl) rfl rfl rfl
theorem XR.mP {z : Nat} {h : Nat → Nat → Nat} {t : Nat → Nat} {r : Rg} {G : GS} {S : Sto} (H : XR z h t r G S) {q : Nat} {x : Option Nat} (hN : NM h t r G q) : XR z h t r G (setP S 228 q x) :=
  H.mset hN rfl (fun _ _ _ => rfl) (fun f' a hn => by show up2 (sP S) 228 q x f' a = _; rw [up2, if_neg (fun z0 => hn ⟨z0.2, by rw [z0.1]⟩)]) rfl rfl rfl
/-- an update's own constructor writes at an object that no log holds -/
theorem XR.uI {z : Nat} {h : Nat → Nat → Nat} {t : Nat → Nat} {r : Rg} {G : GS} {S : Sto} (H : XR z h t r G S) {q f : Nat} {x : Int32} (hN : ∀ v i, v < G.1 0 0 → 1 ≤ i → i ≤ G.1 4 v → r.2.2 v i ≠ q) (hf : f / 32 = 5) : XR z h t r G (setI S f q x) := by
  have ne : ∀ f' a, f' / 32 ≠ 5 → sI (setI S f q x) f' a = sI S f' a := fun f' a hf' => by
    show up2 (sI S) f q x f' a = _
    rw [up2, if_neg (fun z0 => hf' (by rw [z0.1]; exact hf))]
  obtain ⟨hK0, hI0, hP0, hA0, hU0, hL0, hH0, hV0⟩ := H
  have mf : ∀ x0 u k v w e a b, MsgF S x0 u k v w e a b → MsgF (setI S f q x) x0 u k v w e a b := fun x0 u k v w e a b hm => by
    obtain ⟨m0, m1, m2, m3, m4, m5, m6, m7, m8, m9⟩ := hm
    exact ⟨m0, by rw [ne _ _ (by decide)]; exact m1, by rw [ne _ _ (by decide)]; exact m2, by rw [ne _ _ (by decide)]; exact m3, by rw [ne _ _ (by decide)]; exact m4, m5, fun z => by rw [ne _ _ (by decide)]; exact m6 z, fun z => by rw [ne _ _ (by decide)]; exact m7 z, fun z => by rw [ne _ _ (by decide)]; exact m8 z, fun z => by rw [ne _ _ (by decide)]; exact m9 z⟩
  refine ⟨hK0, fun f' k hd => ?_, hP0, hA0, fun v i hv h1 h2 => ?_, ⟨hL0.1, hL0.2.1, fun i hi => ⟨(hL0.2.2 i hi).1, mf _ _ _ _ _ _ _ _ (hL0.2.2 i hi).2⟩⟩, fun ht => mf _ _ _ _ _ _ _ _ (hH0 ht), hV0⟩
  · rw [ne f' _ (by unfold dm at hd; omega)]; exact hI0 f' k hd
  · obtain ⟨u0, u1, u2, u3, u4, u5⟩ := hU0 v i hv h1 h2
    have ii : ∀ f', sI (setI S f q x) f' (r.2.2 v i) = sI S f' (r.2.2 v i) := fun f' => by
      show up2 (sI S) f q x f' _ = _
      rw [up2, if_neg (fun z0 => hN v i hv h1 h2 z0.2)]
    exact ⟨u0, u1, by rw [ii]; exact u2, by rw [ii]; exact u3, by rw [ii]; exact u4, by rw [ii]; exact u5⟩
theorem hol_9 (G : GS) (v k : Nat) (x : Int32) (c r i : Nat) : (hol G v k x c r).1 9 i = if i = 128 * v + (G.1 4 v + 1) then k else G.1 9 i := by simp [hol, gN_1, gV_1]
theorem hol_11 (G : GS) (v k : Nat) (x : Int32) (c r i : Nat) : (hol G v k x c r).1 11 i = if i = 128 * v + (G.1 4 v + 1) then c else G.1 11 i := by simp [hol, gN_1, gV_1]
theorem hol_12 (G : GS) (v k : Nat) (x : Int32) (c r i : Nat) : (hol G v k x c r).1 12 i = if i = 128 * v + (G.1 4 v + 1) then r else G.1 12 i := by simp [hol, gN_1, gV_1]
theorem hol_10 (G : GS) (v k : Nat) (x : Int32) (c r i : Nat) : (hol G v k x c r).2 10 i = if i = 128 * v + (G.1 4 v + 1) then x else G.2 10 i := by simp [hol, gN_2, gV_2]
theorem hol_n2 (G : GS) (v k : Nat) (x : Int32) (c r : Nat) {j : Nat} (h : j ≠ 10) : (hol G v k x c r).2 j = G.2 j := by
  unfold hol
  rw [gN_2, gN_2, gV_ne _ h, gN_2, gN_2]
theorem hol_4a (G : GS) (v k : Nat) (x : Int32) (c r u : Nat) : G.1 4 u ≤ (hol G v k x c r).1 4 u := by
  by_cases e : u = v
  · subst e; rw [hol_4]; omega
  · rw [hol_4n _ _ _ _ _ e]; exact Nat.le_refl _
theorem XR.hld {z : Nat} {h : Nat → Nat → Nat} {t : Nat → Nat} {r : Rg} {G : GS} {S : Sto} (H : XR z h t r G S) (hO : OK G) {v q k c rq : Nat} {x : Int32} (hv : v < G.1 0 0) (hl : G.1 4 v + 1 ≤ 100) (hq : UPf S q k x c rq) : XR z h t (r.1, r.2.1, up2 r.2.2 v (G.1 4 v + 1) q) (hol G v k x c rq) (setI (setQ S 13 (h 13 v) (G.1 4 v) (some q)) 134 (h 4 v) (nI (G.1 4 v + 1))) := by
  obtain ⟨hK0, hI0, hP0, hA0, hU0, hL0, hH0, hV0⟩ := H
  have gn : ∀ j, j ≠ 4 → j ≠ 9 → j ≠ 11 → j ≠ 12 → (hol G v k x c rq).1 j = G.1 j := fun j a1 a2 a3 a4 => hol_ne _ _ _ _ _ _ a1 a2 a3 a4
  have g0 := gn 0 (by decide) (by decide) (by decide) (by decide)
  have g3 := gn 3 (by decide) (by decide) (by decide) (by decide)
  have g7 := gn 7 (by decide) (by decide) (by decide) (by decide)
  have g8 := gn 8 (by decide) (by decide) (by decide) (by decide)
  have g20 := gn 20 (by decide) (by decide) (by decide) (by decide)
  have g21 := gn 21 (by decide) (by decide) (by decide) (by decide)
  have g22 := gn 22 (by decide) (by decide) (by decide) (by decide)
  have g23 := gn 23 (by decide) (by decide) (by decide) (by decide)
  have g24 := gn 24 (by decide) (by decide) (by decide) (by decide)
  have g25 := gn 25 (by decide) (by decide) (by decide) (by decide)
  have g26 := gn 26 (by decide) (by decide) (by decide) (by decide)
  have edk : ∀ kd k0, dk (hol G v k x c rq) kd k0 = dk G kd k0 := fun kd k0 => by unfold dk; rw [g0, g8]
  have edm : ∀ kd k0, dm (hol G v k x c rq) kd k0 = dm G kd k0 := fun kd k0 => by unfold dm; rw [g0, g8]
  have edp : ∀ kd k0, dp (hol G v k x c rq) kd k0 = dp G kd k0 := fun kd k0 => by unfold dp; rw [g0, g8]
  have exq : ∀ f k0, xq h (hol G v k x c rq) f k0 = xq h G f k0 := fun f k0 => by unfold xq; rw [g3, g8]
  have i1 : ∀ f a, f ≠ 134 → sI (setI (setQ S 13 (h 13 v) (G.1 4 v) (some q)) 134 (h 4 v) (nI (G.1 4 v + 1))) f a = sI S f a := fun f a hf => by
    show up2 (sI S) 134 (h 4 v) _ f a = _
    rw [up2, if_neg (fun z0 => hf z0.1)]
  have q1 : ∀ k0 a i, ¬ (k0 = 13 ∧ a = h 13 v ∧ i = G.1 4 v) → sQ (setI (setQ S 13 (h 13 v) (G.1 4 v) (some q)) 134 (h 4 v) (nI (G.1 4 v + 1))) k0 a i = sQ S k0 a i := fun k0 a i hn => by
    show up3 (sQ S) 13 (h 13 v) (G.1 4 v) (some q) k0 a i = _
    rw [up3, if_neg hn]
  have uu : ∀ v' a', a' ≤ G.1 4 v' → up2 r.2.2 v (G.1 4 v + 1) q v' a' = r.2.2 v' a' := fun v' a' ha => by
    rw [up2, if_neg (fun z0 => by obtain ⟨rfl, z2⟩ := z0; omega)]
  have mf : ∀ x0 k0 v0 w e a b, (k0 = 1 → a ≤ G.1 4 v0) → MsgF S x0 r.2.2 k0 v0 w e a b → MsgF (setI (setQ S 13 (h 13 v) (G.1 4 v) (some q)) 134 (h 4 v) (nI (G.1 4 v + 1))) x0 (up2 r.2.2 v (G.1 4 v + 1) q) k0 v0 w e a b := fun x0 k0 v0 w e a b hu hm => by
    obtain ⟨m0, m1, m2, m3, m4, m5, m6, m7, m8, m9⟩ := hm
    exact ⟨m0, by rw [i1 _ _ (by decide)]; exact m1, by rw [i1 _ _ (by decide)]; exact m2, by rw [i1 _ _ (by decide)]; exact m3, by rw [i1 _ _ (by decide)]; exact m4, fun z => by rw [uu _ _ (hu z)]; exact m5 z, fun z => by rw [i1 _ _ (by decide)]; exact m6 z, fun z => by rw [i1 _ _ (by decide)]; exact m7 z, fun z => by rw [i1 _ _ (by decide)]; exact m8 z, fun z => by rw [i1 _ _ (by decide)]; exact m9 z⟩
  have up : ∀ y k0 x0 c0 r0, UPf S y k0 x0 c0 r0 → UPf (setI (setQ S 13 (h 13 v) (G.1 4 v) (some q)) 134 (h 4 v) (nI (G.1 4 v + 1))) y k0 x0 c0 r0 := fun y k0 x0 c0 r0 hu => by
    obtain ⟨u1, u2, u3, u4, u5⟩ := hu
    exact ⟨u1, by rw [i1 _ _ (by decide)]; exact u2, by rw [i1 _ _ (by decide)]; exact u3, by rw [i1 _ _ (by decide)]; exact u4, by rw [i1 _ _ (by decide)]; exact u5⟩
  refine ⟨⟨fun kd k0 hd => by rw [edk] at hd; exact hK0.1 kd k0 hd, fun kd k0 k1 hk hd hd' => by rw [edk] at hd hd'; exact hK0.2 kd k0 k1 hk hd hd'⟩, fun f k0 hd => ?_, fun f k0 hd => by rw [edp] at hd; rw [exq]; exact hP0 f k0 hd, ⟨⟨hA0.1.1, hA0.1.2.1, fun v0 hv0 => by rw [g0] at hv0; exact hA0.1.2.2 v0 hv0⟩, fun e h1 h2 => by rw [g8] at h2; rw [g7]; exact hA0.2.1 e h1 h2, fun v0 hv0 => ?_, fun c0 hc0 => ?_⟩, fun v0 i hv0 h1 h2 => ?_, ⟨hL0.1, by rw [g20]; exact hL0.2.1, fun i hi => ?_⟩, fun ht => mf _ _ _ _ _ _ _ (fun z => hV0.2 z) (hH0 ht), ⟨fun i hi h1 => ?_, fun h1 => Nat.le_trans (hV0.2 h1) (hol_4a _ _ _ _ _ _ _)⟩⟩
  · rw [edm] at hd
    by_cases e : f = 134
    · subst e
      have hk0 : k0 < G.1 0 0 := by unfold dm at hd; omega
      by_cases e2 : k0 = v
      · subst e2
        show up2 (sI S) 134 (h 4 k0) _ 134 (h 4 k0) = _
        rw [up2, if_pos ⟨rfl, rfl⟩]
        show _ = nI ((hol G k0 k x c rq).1 4 k0)
        rw [hol_4]
      · show up2 (sI S) 134 (h 4 v) _ 134 (h 4 k0) = _
        rw [up2, if_neg (fun z0 => e2 (hK0.2 4 k0 v (by omega) (dkN hk0) (dkN hv) z0.2))]
        have := hI0 134 k0 hd
        show _ = nI ((hol G v k x c rq).1 4 k0)
        rw [hol_4n _ _ _ _ _ e2]
        exact this
    · rw [i1 f _ e, hI0 f k0 hd]
      unfold xv
      by_cases c1 : f = 96 ∨ f = 128
      · rw [if_pos c1, if_pos c1]
      · rw [if_neg c1, if_neg c1]
        by_cases c2 : f = 67 ∨ f = 68 ∨ f = 70
        · rw [if_pos c2, if_pos c2, hol_n2]
          rcases c2 with rfl | rfl | rfl <;> decide
        · rw [if_neg c2, if_neg c2]
          have h9 : f = 64 ∨ f = 65 ∨ f = 66 ∨ f = 69 ∨ f = 131 ∨ f = 132 ∨ f = 133 ∨ f = 135 ∨ f = 196 ∨ f = 197 ∨ f = 34 := by unfold dm at hd; omega
          rcases h9 with rfl | rfl | rfl | rfl | rfl | rfl | rfl | rfl | rfl | rfl | rfl <;> rw [gn _ (by decide) (by decide) (by decide) (by decide)]
  · rw [q1 _ _ _ (by omega), g0]; exact hA0.2.2.1 v0 hv0
  · rw [q1 _ _ _ (by omega)]; exact hA0.2.2.2 c0 hc0
  · rw [g0] at hv0
    rw [hol_9, hol_10, hol_11, hol_12]
    have b4 := ok_hol hO hl (x := x) (k := 0) (c := 0) (r := 0) (by decide) (by decide) (by decide) 4 v0
    have b4' : G.1 4 v0 ≤ 100 := hO 4 v0
    by_cases e : v0 = v ∧ i = G.1 4 v + 1
    · obtain ⟨rfl, rfl⟩ := e
      refine ⟨?_, ?_⟩
      · show up3 (sQ S) 13 (h 13 v0) (G.1 4 v0) (some q) 13 (h 13 v0) (G.1 4 v0 + 1 - 1) = some (up2 r.2.2 v0 (G.1 4 v0 + 1) q v0 (G.1 4 v0 + 1))
        rw [Nat.add_sub_cancel, up3, if_pos ⟨rfl, rfl, rfl⟩, up2, if_pos ⟨rfl, rfl⟩]
      · show UPf _ (up2 r.2.2 v0 (G.1 4 v0 + 1) q v0 (G.1 4 v0 + 1)) _ _ _ _
        rw [up2, if_pos ⟨rfl, rfl⟩]
        simp only [if_true]
        exact up _ _ _ _ _ hq
    · have hi4 : i ≤ G.1 4 v0 := by
        by_cases ev : v0 = v
        · subst ev; rw [hol_4] at h2; omega
        · rw [hol_4n _ _ _ _ _ ev] at h2; exact h2
      have hne : ¬ 128 * v0 + i = 128 * v + (G.1 4 v + 1) := by omega
      rw [if_neg hne, if_neg hne, if_neg hne, if_neg hne]
      obtain ⟨u0, u1⟩ := hU0 v0 i hv0 h1 hi4
      refine ⟨?_, ?_⟩
      · rw [q1 13 _ _ (fun z0 => ?_)]
        · show _ = some (up2 r.2.2 v (G.1 4 v + 1) q v0 i)
          rw [uu _ _ hi4]; exact u0
        · have := hK0.2 13 v0 v (by omega) (dkG hv0) (dkG hv) z0.2.1
          omega
      · show UPf _ (up2 r.2.2 v (G.1 4 v + 1) q v0 i) _ _ _ _
        rw [uu _ _ hi4]
        exact up _ _ _ _ _ u1
  · rw [g20] at hi
    rw [g21, g22, g23, g24, g25, g26]
    obtain ⟨y1, y2⟩ := hL0.2.2 i hi
    exact ⟨by rw [q1 _ _ _ (by omega)]; exact y1, mf _ _ _ _ _ _ _ (hV0.1 i hi) y2⟩
  · rw [g20] at hi
    rw [g23] at h1
    rw [g25, g21]
    exact Nat.le_trans (hV0.1 i hi h1) (hol_4a _ _ _ _ _ _ _)
