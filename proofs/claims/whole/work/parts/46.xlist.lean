/-! the list of messages: what changes it keeps the rest -/
theorem XR.relist {z : Nat} {h : Nat → Nat → Nat} {t : Nat → Nat} {r r' : Rg} {G G' : GS} {S S' : Sto} (H : XR z h t r G S) (hG : ∀ j, j < 20 ∨ 26 < j → G'.1 j = G.1 j) (hV : G'.2 = G.2) (hu : r'.2.2 = r.2.2)
    (hK : ∀ a, sK S a ≠ 0 → sK S' a = sK S a) (hP : ∀ f a, f ≠ 33 → sK S a = f / 32 → sP S' f a = sP S f a) (hE : ∀ a, sK S a = 9 → sE S' 9 a = sE S 9 a) (hQ : ∀ k a, k = 11 ∨ k = 12 ∨ k = 13 → sK S a = k → sQ S' k a = sQ S k a) (hZ : ∀ a, sK S a ≠ 0 → sZ S' a = sZ S a) (hI : ∀ f a, f ≠ 34 → f ≠ 32 → sK S a = f / 32 → sI S' f a = sI S f a)
    (h34 : sI S' 34 (h 1 0) = nI (G'.1 20 0)) (hL : XL z h r' G' S') (hUV : UV t G') : XR z h t r' G' S' := by
  have g0 := hG 0 (by decide)
  have g3 := hG 3 (by decide)
  have g4 := hG 4 (by decide)
  have g7 := hG 7 (by decide)
  have g8 := hG 8 (by decide)
  have g9 := hG 9 (by decide)
  have g11 := hG 11 (by decide)
  have g12 := hG 12 (by decide)
  have edk : ∀ kd k, dk G' kd k = dk G kd k := fun kd k => by unfold dk; rw [g0, g8]
  have edp : ∀ kd k, dp G' kd k = dp G kd k := fun kd k => by unfold dp; rw [g0, g8]
  have edm : ∀ kd k, dm G' kd k = dm G kd k := fun kd k => by unfold dm; rw [g0, g8]
  have exq : ∀ f k, xq h G' f k = xq h G f k := fun f k => by unfold xq; rw [g3, g8]
  obtain ⟨hK0, hI0, hP0, hA0, hU0, hL0, hH0, hV0⟩ := H
  have kk : ∀ kd k, dk G kd k → sK S (h kd k) ≠ 0 := fun kd k hd => by
    rw [hK0.1 kd k hd]
    intro z0
    subst z0
    unfold dk at hd
    omega
  refine ⟨⟨fun kd k hd => ?_, fun kd k k' hk hd hd' => ?_⟩, fun f k hd => ?_, fun f k hd => ?_, ⟨⟨?_, ?_, fun v hv => ?_⟩, fun e h1 h2 => ?_, fun v hv => ?_, fun c hc => ?_⟩, fun v i hv h1 h2 => ?_, hL, fun ht => ?_, hUV⟩
  · rw [edk] at hd
    rw [hK _ (kk kd k hd)]
    exact hK0.1 kd k hd
  · rw [edk] at hd hd'
    exact hK0.2 kd k k' hk hd hd'
  · rw [edm] at hd
    by_cases e34 : f = 34
    · subst e34
      have : k = 0 := by unfold dm at hd; omega
      subst this
      exact h34
    · have n32 : f ≠ 32 := by unfold dm at hd; omega
      rw [hI f _ e34 n32 (hK0.1 _ _ (dm_dk hd)), hI0 f k hd]
      unfold xv
      rw [hV]
      by_cases c1 : f = 96 ∨ f = 128
      · rw [if_pos c1, if_pos c1]
      · rw [if_neg c1, if_neg c1]
        by_cases c2 : f = 67 ∨ f = 68 ∨ f = 70
        · rw [if_pos c2, if_pos c2]
        · rw [if_neg c2, if_neg c2, hG (jn f) (by
            have h9 : f = 64 ∨ f = 65 ∨ f = 66 ∨ f = 69 ∨ f = 131 ∨ f = 132 ∨ f = 133 ∨ f = 134 ∨ f = 135 ∨ f = 196 ∨ f = 197 := by unfold dm at hd; omega
            rcases h9 with rfl | rfl | rfl | rfl | rfl | rfl | rfl | rfl | rfl | rfl | rfl <;> decide)]
  · rw [edp] at hd
    have n33 : f ≠ 33 := by unfold dp at hd; omega
    rw [exq, hP f _ n33 (hK0.1 _ _ (dp_dk hd))]
    exact hP0 f k hd
  · rw [hZ _ (kk 11 0 dk11)]; exact hA0.1.1
  · rw [hZ _ (kk 12 0 dk12)]; exact hA0.1.2.1
  · rw [g0] at hv
    rw [hZ _ (kk 13 v (dkG hv))]; exact hA0.1.2.2 v hv
  · rw [g8] at h2
    rw [g7, hZ _ (kk 9 e (dkM ⟨h1, h2⟩)), hE _ (hK0.1 9 e (dkM ⟨h1, h2⟩))]
    exact hA0.2.1 e h1 h2
  · rw [g0, hQ 11 _ (by decide) (hK0.1 11 0 dk11)]; exact hA0.2.2.1 v hv
  · rw [hQ 12 _ (by decide) (hK0.1 12 0 dk12)]; exact hA0.2.2.2 c hc
  · rw [g0] at hv
    rw [g4] at h2
    rw [hQ 13 _ (by decide) (hK0.1 13 v (dkG hv)), g9, g11, g12, hV, hu]
    obtain ⟨u0, u1, u2, u3, u4, u5⟩ := hU0 v i hv h1 h2
    have ii : ∀ f, f / 32 = 5 → sI S' f (r.2.2 v i) = sI S f (r.2.2 v i) := fun f hf => hI f _ (by omega) (by omega) (by rw [hf]; exact u1)
    exact ⟨u0, by rw [hK _ (by rw [u1]; decide)]; exact u1, by rw [ii 160 rfl]; exact u2, by rw [ii 161 rfl]; exact u3, by rw [ii 162 rfl]; exact u4, by rw [ii 163 rfl]; exact u5⟩
  · rw [hu]
    obtain ⟨m0, m1, m2, m3, m4, m5, m6, m7, m8, m9⟩ := hH0 ht
    have i : ∀ f, f / 32 = 7 → sI S' f (h 15 0) = sI S f (h 15 0) := fun f hf => hI f _ (by omega) (by omega) (by rw [hf]; exact m0)
    exact ⟨by rw [hK _ (by rw [m0]; decide)]; exact m0, by rw [i 224 rfl]; exact m1, by rw [i 225 rfl]; exact m2, by rw [i 226 rfl]; exact m3, by rw [i 227 rfl]; exact m4, fun z => by rw [hP 228 _ (by decide) m0]; exact m5 z, fun z => by rw [i 229 rfl]; exact m6 z, fun z => by rw [i 230 rfl]; exact m7 z, fun z => by rw [i 231 rfl]; exact m8 z, fun z => by rw [i 232 rfl]; exact m9 z⟩
/-- messages and updates that were there are there as they were -/
def Fm (S S' : Sto) : Prop := ∀ a, sK S a ≠ 0 → sK S' a = sK S a ∧ ∀ f, f / 32 = 5 ∨ f / 32 = 7 → sK S a = f / 32 → sI S' f a = sI S f a ∧ sP S' f a = sP S f a
theorem Fm.rf (S : Sto) : Fm S S := fun _ _ => ⟨rfl, fun _ _ _ => ⟨rfl, rfl⟩⟩
theorem Fm.tr {S S' S'' : Sto} (h : Fm S S') (h' : Fm S' S'') : Fm S S'' := fun a ha => by
  obtain ⟨h1, h2⟩ := h a ha
  obtain ⟨h3, h4⟩ := h' a (by rw [h1]; exact ha)
  refine ⟨h3.trans h1, fun f hf hk => ?_⟩
  obtain ⟨i1, p1⟩ := h2 f hf hk
  obtain ⟨i2, p2⟩ := h4 f hf (by rw [h1]; exact hk)
  exact ⟨i2.trans i1, p2.trans p1⟩
theorem MsgF.fm {S S' : Sto} {q : Nat} {u : Nat → Nat → Nat} {k v w e a b : Nat} (h : MsgF S q u k v w e a b) (hf : Fm S S') : MsgF S' q u k v w e a b := by
  obtain ⟨m0, m1, m2, m3, m4, m5, m6, m7, m8, m9⟩ := h
  obtain ⟨e1, e2⟩ := hf q (by rw [m0]; decide)
  have i : ∀ f, f / 32 = 7 → sI S' f q = sI S f q := fun f hf => (e2 f (Or.inr hf) (by rw [hf]; exact m0)).1
  exact ⟨e1.trans m0, by rw [i 224 rfl]; exact m1, by rw [i 225 rfl]; exact m2, by rw [i 226 rfl]; exact m3, by rw [i 227 rfl]; exact m4, fun z => by rw [(e2 228 (Or.inr rfl) m0).2]; exact m5 z, fun z => by rw [i 229 rfl]; exact m6 z, fun z => by rw [i 230 rfl]; exact m7 z, fun z => by rw [i 231 rfl]; exact m8 z, fun z => by rw [i 232 rfl]; exact m9 z⟩
theorem UPf.fm {S S' : Sto} {q k c r : Nat} {x : Int32} (h : UPf S q k x c r) (hf : Fm S S') : UPf S' q k x c r := by
  obtain ⟨m0, m1, m2, m3, m4⟩ := h
  obtain ⟨e1, e2⟩ := hf q (by rw [m0]; decide)
  have i : ∀ f, f / 32 = 5 → sI S' f q = sI S f q := fun f hf => (e2 f (Or.inl hf) (by rw [hf]; exact m0)).1
  exact ⟨e1.trans m0, by rw [i 160 rfl]; exact m1, by rw [i 161 rfl]; exact m2, by rw [i 162 rfl]; exact m3, by rw [i 163 rfl]; exact m4⟩
theorem XR.cnt_el {z : Nat} {h : Nat → Nat → Nat} {t : Nat → Nat} {r : Rg} {G : GS} {S : Sto} (H : XR z h t r G S) (hc : 0 < G.1 20 0) : sK S r.2.1 = 14 ∧ G.1 20 0 ≤ sZ S r.2.1 ∧ sZ S r.2.1 ≤ 2200 := by
  rcases H.2.2.2.2.2.1.2.1 with e | e
  · exact e
  · omega
/-- modCount -/
theorem XR.modc {z : Nat} {h : Nat → Nat → Nat} {t : Nat → Nat} {r : Rg} {G : GS} {S : Sto} (H : XR z h t r G S) (x : Int32) : XR z h t r G (setI S 32 (h 1 0) x) := by
  have ne : ∀ f a, f ≠ 32 → sI (setI S 32 (h 1 0) x) f a = sI S f a := fun f a hf => by
    have : ¬ (f = 32 ∧ a = h 1 0) := fun z => hf z.1
    simp only [setI, sI, up2, if_neg this]
  refine H.congr (fun _ _ => rfl) rfl (fun _ _ => rfl) (fun _ _ _ => rfl) (fun _ _ _ => rfl) (fun _ _ _ => rfl) (fun _ _ => rfl) (fun f a hf _ => ne f a (by omega)) (fun f k hd => ?_)
  have n32 : f ≠ 32 := by unfold dm at hd; omega
  rw [ne _ _ n32]
  exact H.2.1 f k hd
/-- another array for the list, with the same messages -/
theorem XR.newel {z : Nat} {h : Nat → Nat → Nat} {t : Nat → Nat} {r : Rg} {G : GS} {S S' : Sto} (H : XR z h t r G S) (q : Nat) (hq : sK S q = 0) (hK : sK S' = va_up (sK S) q 14) (hI : sI S' = sI S) (hP : sP S' = up2 (sP S) 33 (h 1 0) (some q)) (hE : ∀ a, a ≠ q → sE S' 9 a = sE S 9 a) (hQ : ∀ k a, a ≠ q → sQ S' k a = sQ S k a) (hZ : ∀ a, a ≠ q → sZ S' a = sZ S a) (hz : G.1 20 0 ≤ sZ S' q ∧ sZ S' q ≤ 2200) (hm : ∀ i, i < G.1 20 0 → sQ S' 14 q i = some (r.1 i)) : XR z h t (r.1, q, r.2.2) G S' := by
  have nq : ∀ a, sK S a ≠ 0 → a ≠ q := fun a ha e => ha (by rw [e]; exact hq)
  have k1 : ∀ a, sK S a ≠ 0 → sK S' a = sK S a := fun a ha => by rw [hK, va_up, if_neg (nq a ha)]
  have p1 : ∀ f a, f ≠ 33 → sP S' f a = sP S f a := fun f a hf => by rw [hP, up2, if_neg (fun z0 => hf z0.1)]
  refine H.relist (fun _ _ => rfl) rfl rfl k1 (fun f a hf _ => p1 f a hf) (fun a ha => hE a (nq a (by rw [ha]; decide))) (fun k a hk3 hk => hQ k a (nq a (by rw [hk]; omega))) (fun a ha => hZ a (nq a ha)) (fun f a _ _ _ => by rw [hI]) ?_ ⟨?_, Or.inl ⟨?_, hz.1, hz.2⟩, fun i hi => ⟨hm i hi, ?_⟩⟩ H.2.2.2.2.2.2.2
  · rw [hI]; exact H.2.1 34 0 (dmX (by decide))
  · show sP S' 33 (h 1 0) = some q
    rw [hP, up2, if_pos ⟨rfl, rfl⟩]
  · show sK S' q = 14
    rw [hK, va_up, if_pos rfl]
  · have hm0 := (H.2.2.2.2.2.1.2.2 i hi).2
    refine hm0.fm (fun a ha => ⟨k1 a ha, fun f hf _ => ⟨by rw [hI], p1 f a (by omega)⟩⟩)
