/-! helpers for the list's growth -/
theorem shr1 {n : Nat} (h : n ≤ 2200) : nI n >>> (nI 1 &&& 31) = nI (n / 2) := by
  have : ∀ n, n < 2201 → nI n >>> (nI 1 &&& 31) = nI (n / 2) := by decide +kernel
  exact this n (by omega)
theorem fm_newel {S : Sto} {q n a0 k : Nat} {h1 : Nat} (hq : sK S q = 0) : Fm S (setP (cpyQ (newA S q 14 n) 14 a0 q 0 0 k) 33 h1 (some q)) := fun x hx => by
  have hxq : x ≠ q := fun e => hx (by rw [e]; exact hq)
  refine ⟨?_, fun f hf _ => ⟨rfl, ?_⟩⟩
  · show va_up (sK S) q 14 x = sK S x
    rw [va_up, if_neg hxq]
  · show up2 (sP S) 33 h1 (some q) f x = sP S f x
    rw [up2, if_neg (by omega)]
theorem fm_newel0 {S : Sto} {q n : Nat} {h1 : Nat} (hq : sK S q = 0) : Fm S (setP (newA S q 14 n) 33 h1 (some q)) := fun x hx => by
  have hxq : x ≠ q := fun e => hx (by rw [e]; exact hq)
  refine ⟨?_, fun f hf _ => ⟨rfl, ?_⟩⟩
  · show va_up (sK S) q 14 x = sK S x
    rw [va_up, if_neg hxq]
  · show up2 (sP S) 33 h1 (some q) f x = sP S f x
    rw [up2, if_neg (by omega)]
theorem fm_modc {S : Sto} {a : Nat} {x : Int32} : Fm S (setI S 32 a x) := fun y _ => ⟨rfl, fun f hf _ => ⟨by show up2 (sI S) 32 a x f y = _; rw [up2, if_neg (by omega)], rfl⟩⟩
theorem XR.grow {z : Nat} {h : Nat → Nat → Nat} {t : Nat → Nat} {r : Rg} {G : GS} {S : Sto} (H : XR z h t r G S) {q n : Nat} (hq : sK S q = 0) (hel : sK S r.2.1 = 14) (hn0 : G.1 20 0 ≤ sZ S r.2.1) (hn : G.1 20 0 ≤ n ∧ n ≤ 2200) : XR z h t (r.1, q, r.2.2) G (setP (cpyQ (newA S q 14 n) 14 r.2.1 q 0 0 (sZ S r.2.1)) 33 (h 1 0) (some q)) := by
  have elq : r.2.1 ≠ q := fun e => by rw [e, hq] at hel; cases hel
  refine H.newel q hq rfl rfl rfl (fun a ha => ?_) (fun k a ha => ?_) (fun a ha => ?_) ?_ (fun i hi => ?_)
  · funext i
    show (if 9 = 14 ∧ a = q then (0 : Int32) else sE S 9 a i) = _
    rw [if_neg (fun z0 => ha z0.2)]
  · funext i
    show (if k = 14 ∧ a = q then _ else (if k = 14 ∧ a = q then none else sQ S k a i)) = _
    rw [if_neg (fun z0 => ha z0.2), if_neg (fun z0 => ha z0.2)]
  · show va_up (sZ S) q n a = _
    rw [va_up, if_neg ha]
  · show G.1 20 0 ≤ va_up (sZ S) q n q ∧ va_up (sZ S) q n q ≤ 2200
    rw [va_up, if_pos rfl]; exact hn
  · show (if 14 = 14 ∧ q = q then va_cpy (fun i => if 14 = 14 ∧ r.2.1 = q then none else sQ S 14 r.2.1 i) _ 0 0 (sZ S r.2.1) i else _) = _
    rw [if_pos ⟨rfl, rfl⟩, va_cpy, if_pos (by omega)]
    rw [if_neg (fun z0 => elq z0.2), Nat.zero_add, Nat.sub_zero]
    exact (H.2.2.2.2.2.1.2.2 i hi).1
theorem XR.grow0 {z : Nat} {h : Nat → Nat → Nat} {t : Nat → Nat} {r : Rg} {G : GS} {S : Sto} (H : XR z h t r G S) {q n : Nat} (hq : sK S q = 0) (hc : G.1 20 0 = 0) (hn : n ≤ 2200) : XR z h t (r.1, q, r.2.2) G (setP (newA S q 14 n) 33 (h 1 0) (some q)) := by
  refine H.newel q hq rfl rfl rfl (fun a ha => ?_) (fun k a ha => ?_) (fun a ha => ?_) ?_ (fun i hi => by omega)
  · funext i
    show (if 9 = 14 ∧ a = q then (0 : Int32) else sE S 9 a i) = _
    rw [if_neg (fun z0 => ha z0.2)]
  · funext i
    show (if k = 14 ∧ a = q then none else sQ S k a i) = _
    rw [if_neg (fun z0 => ha z0.2)]
  · show va_up (sZ S) q n a = _
    rw [va_up, if_neg ha]
  · show G.1 20 0 ≤ va_up (sZ S) q n q ∧ va_up (sZ S) q n q ≤ 2200
    rw [va_up, if_pos rfl]; omega
theorem tyk_el : tyk 1 1 = .array (.object "java/lang/Object") := by decide +kernel
