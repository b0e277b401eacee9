/-! rows: fields, arrays, new cells, calls, returns -/
theorem lys {kd : Nat} (h0 : 0 < kd) (h8 : kd ≤ 8) : ∀ w ∈ u_ws (cnm kd) (ctb kd) (nf kd), w ∈ TB := by
  have : kd = 1 ∨ kd = 2 ∨ kd = 3 ∨ kd = 4 ∨ kd = 5 ∨ kd = 6 ∨ kd = 7 ∨ kd = 8 := by omega
  rcases this with rfl | rfl | rfl | rfl | rfl | rfl | rfl | rfl
  · exact lys_1
  · exact lys_2
  · exact lys_3
  · exact lys_4
  · exact lys_5
  · exact lys_6
  · exact lys_7
  · exact lys_8
/-- a field by its number: f = 32 * kd + k; the word that links it; whether it is final -/
def FLk (own : String) (idx f : Nat) (ref : String) : Prop := Cond.fieldLink own idx ref (ctb (f / 32) (f % 32)).2.1 (ctb (f / 32) (f % 32)).2.2.1 ∈ TB ∧ 0 < f / 32 ∧ f / 32 ≤ 8 ∧ f % 32 < nf (f / 32)
def FLs (own : String) (idx f : Nat) : Prop := ∃ ref : String, FLk own idx f ref ∧ ((ctb (f / 32) (f % 32)).1 = ref ∨ Cond.sameField ref (ctb (f / 32) (f % 32)).1 (ctb (f / 32) (f % 32)).2.1 (ctb (f / 32) (f % 32)).2.2.1 ∈ TB)
theorem cel_up {Y : Nat → ClassId} {S : Sto} {a f : Nat} {x : Int32} : ∀ b, b ≠ a → cel Y (setI S f a x) b = cel Y S b := fun b hb => cel_congr rfl (fun g => by simp [setI, sI, up2, hb]) (fun _ => rfl) (fun _ => rfl) (fun _ => rfl) rfl
theorem cel_upP {Y : Nat → ClassId} {S : Sto} {a f : Nat} {x : Option Nat} : ∀ b, b ≠ a → cel Y (setP S f a x) b = cel Y S b := fun b hb => cel_congr rfl (fun _ => rfl) (fun g => by simp [setP, sP, up2, hb]) (fun _ => rfl) (fun _ => rfl) rfl
theorem cel_upE {Y : Nat → ClassId} {S : Sto} {k a i : Nat} {x : Int32} : ∀ b, b ≠ a → cel Y (setE S k a i x) b = cel Y S b := fun b hb => cel_congr rfl (fun _ => rfl) (fun _ => rfl) (fun g => by funext j; simp [setE, sE, up3, hb]) (fun _ => rfl) rfl
theorem cel_upQ {Y : Nat → ClassId} {S : Sto} {k a i : Nat} {x : Option Nat} : ∀ b, b ≠ a → cel Y (setQ S k a i x) b = cel Y S b := fun b hb => cel_congr rfl (fun _ => rfl) (fun _ => rfl) (fun _ => rfl) (fun g => by funext j; simp [setQ, sQ, up3, hb]) rfl
theorem cel_nO {Y : Nat → ClassId} {S : Sto} {q kd : Nat} : ∀ b, b ≠ q → cel Y (newO S q kd) b = cel Y S b := fun b hb => cel_congr (by simp [newO, sK, va_up, hb]) (fun g => by simp [newO, sI, hb]) (fun g => by simp [newO, sP, hb]) (fun _ => rfl) (fun _ => rfl) rfl
theorem cel_nA {Y : Nat → ClassId} {S : Sto} {q kd n : Nat} : ∀ b, b ≠ q → cel Y (newA S q kd n) b = cel Y S b := fun b hb => cel_congr (by simp [newA, sK, va_up, hb]) (fun _ => rfl) (fun _ => rfl) (fun g => by funext j; simp [newA, sE, hb]) (fun g => by funext j; simp [newA, sQ, hb]) (by simp [newA, sZ, va_up, hb])
section ROWS
variable {F : Fx} {cc : ByteArray} {own : String} {pc pc' tgt : Nat} {lv : List (Option Value)} {st : List Value} {S : Sto} {cs ss : Nat} {dF cF sF : Nat}
theorem fls_link (C : Cx F cc own dF cF sF) {idx f : Nat} (h : FLs own idx f) : ∃ ref : String, (Cond.fieldLink own idx ref (ctb (f / 32) (f % 32)).2.1 (ctb (f / 32) (f % 32)).2.2.1).before (xa F) (xs F) = true ∧ (∀ x, (xs F).fieldFound? (ctb (f / 32) (f % 32)).1 (ctb (f / 32) (f % 32)).2.1 (ctb (f / 32) (f % 32)).2.2.1 = some x → (xs F).fieldFound? ref (ctb (f / 32) (f % 32)).2.1 (ctb (f / 32) (f % 32)).2.2.1 = some x) ∧ 0 < f / 32 ∧ f / 32 ≤ 8 ∧ f % 32 < nf (f / 32) := by
  obtain ⟨ref, ⟨h1, h2, h3, h4⟩, h5⟩ := h
  refine ⟨ref, C.t h1, ?_, h2, h3, h4⟩
  rcases h5 with h5 | h5
  · intro x hx
    rw [← h5]
    exact hx
  · exact u_same (C.t h5)
theorem f_eq (f : Nat) : 32 * (f / 32) + f % 32 = f := Nat.div_add_mod f 32
theorem ws_getI (C : Cx F cc own dF cF sF) {idx f a : Nat} (d : At cc pc (.getfield idx) 3 pc') (h : FLs own idx f) (hr : rfk f = false) (hk : sK S a = f / 32) (k : WS F pc' lv (.int (sI S f a) :: st) S cs ss) : WS F pc lv (.ref a :: st) S cs ss := by
  obtain ⟨d, rfl⟩ := d
  obtain ⟨ref, h1, h2, h3, h4, h5⟩ := fls_link C h
  intro ls H locs hl hw hS
  obtain ⟨q, hq⟩ := wl_get hw (cel_o hk h3 h4)
  refine va_get (D := xD F) C.x C.b (Ts := TB) C.2.2.2.2.2.1 (lys h3 h4) C.o C.k (wl_P hw) q hq (vCl_at h3 h4) (f % 32) h5 h1 h2 (v := .int (sI S f a)) ?_ d (k ls H locs hl hw hS)
  rw [fl_get h5, f_eq, fv_I hr]
theorem ws_getP (C : Cx F cc own dF cF sF) {idx f a b : Nat} (d : At cc pc (.getfield idx) 3 pc') (h : FLs own idx f) (hr : rfk f = true) (hk : sK S a = f / 32) (hb : sP S f a = some b) (k : WS F pc' lv (.ref b :: st) S cs ss) : WS F pc lv (.ref a :: st) S cs ss := by
  obtain ⟨d, rfl⟩ := d
  obtain ⟨ref, h1, h2, h3, h4, h5⟩ := fls_link C h
  intro ls H locs hl hw hS
  obtain ⟨q, hq⟩ := wl_get hw (cel_o hk h3 h4)
  refine va_get (D := xD F) C.x C.b (Ts := TB) C.2.2.2.2.2.1 (lys h3 h4) C.o C.k (wl_P hw) q hq (vCl_at h3 h4) (f % 32) h5 h1 h2 (v := .ref b) ?_ d (k ls H locs hl hw hS)
  rw [fl_get h5, f_eq, fv_P hr, hb]
  rfl
theorem ws_getN (C : Cx F cc own dF cF sF) {idx f a : Nat} (d : At cc pc (.getfield idx) 3 pc') (h : FLs own idx f) (hr : rfk f = true) (hk : sK S a = f / 32) (hb : sP S f a = none) (k : WS F pc' lv (.null :: st) S cs ss) : WS F pc lv (.ref a :: st) S cs ss := by
  obtain ⟨d, rfl⟩ := d
  obtain ⟨ref, h1, h2, h3, h4, h5⟩ := fls_link C h
  intro ls H locs hl hw hS
  obtain ⟨q, hq⟩ := wl_get hw (cel_o hk h3 h4)
  refine va_get (D := xD F) C.x C.b (Ts := TB) C.2.2.2.2.2.1 (lys h3 h4) C.o C.k (wl_P hw) q hq (vCl_at h3 h4) (f % 32) h5 h1 h2 (v := .null) ?_ d (k ls H locs hl hw hS)
  rw [fl_get h5, f_eq, fv_P hr, hb]
  rfl
/-- int-like fields that are not final -/
theorem ws_putI (C : Cx F cc own dF cF sF) {idx f a : Nat} {x : Int32} (d : At cc pc (.putfield idx) 3 pc') (h : FLs own idx f) (hr : rfk f = false) (hf : (ctb (f / 32) (f % 32)).2.2.2 = false) (hn : narrow (tyk (f / 32) (f % 32)) (.int x) = .int x ∧ fits (tyk (f / 32) (f % 32)) (.int x) = true) (hk : sK S a = f / 32) (k : WS F pc' lv st (setI S f a x) cs ss) : WS F pc lv (.int x :: .ref a :: st) S cs ss := by
  obtain ⟨d, rfl⟩ := d
  obtain ⟨ref, h1, h2, h3, h4, h5⟩ := fls_link C h
  intro ls H locs hl hw hS
  obtain ⟨q, hq⟩ := wl_get hw (cel_o hk h3 h4)
  refine va_put (D := xD F) C.x C.b (Ts := TB) C.2.2.2.2.2.1 (lys h3 h4) (tyk (f / 32)) (tyk_ok _ h3 h4) (nmk_ok _ h3 h4) C.o C.k (wl_P hw) (wl_D hw) hS q hq (vCl_at h3 h4) (f % 32) h5 h1 h2 hf (tyk_ok _ h3 h4 _ h5) hn.1 hn.2 (by rw [fl_len]; exact h5) d (fun H1 locs1 hP1 _ hS1 => k ls H1 locs1 hl ?_ hS1)
  refine wl_set hw hq hP1 ?_ cel_up
  have hk' : sK (setI S f a x) a = f / 32 := hk
  rw [cel_o hk' h3 h4, fl_setI h5 (by rw [f_eq]; exact hr), f_eq]
theorem ws_putR (C : Cx F cc own dF cF sF) {idx f a : Nat} (x : Option Nat) {v : Value} (hv : va_rf x = v) (d : At cc pc (.putfield idx) 3 pc') (h : FLs own idx f) (hr : rfk f = true) (hf : (ctb (f / 32) (f % 32)).2.2.2 = false) (hn : narrow (tyk (f / 32) (f % 32)) v = v ∧ fits (tyk (f / 32) (f % 32)) v = true) (hk : sK S a = f / 32) (k : WS F pc' lv st (setP S f a x) cs ss) : WS F pc lv (v :: .ref a :: st) S cs ss := by
  subst hv
  obtain ⟨d, rfl⟩ := d
  obtain ⟨ref, h1, h2, h3, h4, h5⟩ := fls_link C h
  intro ls H locs hl hw hS
  obtain ⟨q, hq⟩ := wl_get hw (cel_o hk h3 h4)
  refine va_put (D := xD F) C.x C.b (Ts := TB) C.2.2.2.2.2.1 (lys h3 h4) (tyk (f / 32)) (tyk_ok _ h3 h4) (nmk_ok _ h3 h4) C.o C.k (wl_P hw) (wl_D hw) hS q hq (vCl_at h3 h4) (f % 32) h5 h1 h2 hf (tyk_ok _ h3 h4 _ h5) hn.1 hn.2 (by rw [fl_len]; exact h5) d (fun H1 locs1 hP1 _ hS1 => k ls H1 locs1 hl ?_ hS1)
  refine wl_set hw hq hP1 ?_ cel_upP
  have hk' : sK (setP S f a x) a = f / 32 := hk
  rw [cel_o hk' h3 h4, fl_setP h5 (by rw [f_eq]; exact hr), f_eq]
/-- final fields, in the constructor -/
theorem ws_putFI (C : Cx F cc own dF cF sF) (hin : (xt F).name = "<init>") {idx f a : Nat} {x : Int32} (d : At cc pc (.putfield idx) 3 pc') (h : FLs own idx f) (hr : rfk f = false) (hf : (ctb (f / 32) (f % 32)).2.2.2 = true) (ho : (ctb (f / 32) (f % 32)).1 = own) (hn : narrow (tyk (f / 32) (f % 32)) (.int x) = .int x ∧ fits (tyk (f / 32) (f % 32)) (.int x) = true) (hk : sK S a = f / 32) (k : WS F pc' lv st (setI S f a x) cs ss) : WS F pc lv (.int x :: .ref a :: st) S cs ss := by
  obtain ⟨d, rfl⟩ := d
  obtain ⟨ref, h1, h2, h3, h4, h5⟩ := fls_link C h
  intro ls H locs hl hw hS
  obtain ⟨q, hq⟩ := wl_get hw (cel_o hk h3 h4)
  refine va_putF (D := xD F) C.x C.b (Ts := TB) C.2.2.2.2.2.1 (lys h3 h4) (tyk (f / 32)) (tyk_ok _ h3 h4) (nmk_ok _ h3 h4) C.o C.k (wl_P hw) (wl_D hw) hS q hq (vCl_at h3 h4) (f % 32) h5 h1 h2 hf hin ho (tyk_ok _ h3 h4 _ h5) hn.1 hn.2 (by rw [fl_len]; exact h5) d (fun H1 locs1 hP1 _ hS1 => k ls H1 locs1 hl ?_ hS1)
  refine wl_set hw hq hP1 ?_ cel_up
  have hk' : sK (setI S f a x) a = f / 32 := hk
  rw [cel_o hk' h3 h4, fl_setI h5 (by rw [f_eq]; exact hr), f_eq]
theorem ws_putFR (C : Cx F cc own dF cF sF) (hin : (xt F).name = "<init>") {idx f a : Nat} (x : Option Nat) {v : Value} (hv : va_rf x = v) (d : At cc pc (.putfield idx) 3 pc') (h : FLs own idx f) (hr : rfk f = true) (hf : (ctb (f / 32) (f % 32)).2.2.2 = true) (ho : (ctb (f / 32) (f % 32)).1 = own) (hn : narrow (tyk (f / 32) (f % 32)) v = v ∧ fits (tyk (f / 32) (f % 32)) v = true) (hk : sK S a = f / 32) (k : WS F pc' lv st (setP S f a x) cs ss) : WS F pc lv (v :: .ref a :: st) S cs ss := by
  subst hv
  obtain ⟨d, rfl⟩ := d
  obtain ⟨ref, h1, h2, h3, h4, h5⟩ := fls_link C h
  intro ls H locs hl hw hS
  obtain ⟨q, hq⟩ := wl_get hw (cel_o hk h3 h4)
  refine va_putF (D := xD F) C.x C.b (Ts := TB) C.2.2.2.2.2.1 (lys h3 h4) (tyk (f / 32)) (tyk_ok _ h3 h4) (nmk_ok _ h3 h4) C.o C.k (wl_P hw) (wl_D hw) hS q hq (vCl_at h3 h4) (f % 32) h5 h1 h2 hf hin ho (tyk_ok _ h3 h4 _ h5) hn.1 hn.2 (by rw [fl_len]; exact h5) d (fun H1 locs1 hP1 _ hS1 => k ls H1 locs1 hl ?_ hS1)
  refine wl_set hw hq hP1 ?_ cel_upP
  have hk' : sK (setP S f a x) a = f / 32 := hk
  rw [cel_o hk' h3 h4, fl_setP h5 (by rw [f_eq]; exact hr), f_eq]
-- arrays
theorem ws_iald (C : Cx F cc own dF cF sF) {a i : Nat} (d : At cc pc .iaload 1 pc') (hk : sK S a = 9) (hi : i < sZ S a) (hz : sZ S a < 2 ^ 31) (k : WS F pc' lv (.int (sE S 9 a i) :: st) S cs ss) : WS F pc lv (.int (nI i) :: .ref a :: st) S cs ss := by
  obtain ⟨d, rfl⟩ := d
  intro ls H locs hl hw hS
  obtain ⟨q, hq⟩ := wl_get hw (cel_i hk (by decide) (by decide))
  refine va_iald C.x C.b C.k (wl_P hw) q 0 hq rfl (vp_in_nI hi hz) d ?_
  rw [nI_clamp (by omega)]
  exact k ls H locs hl hw hS
theorem ws_zald (C : Cx F cc own dF cF sF) {a i : Nat} (d : At cc pc .baload 1 pc') (hk : sK S a = 10) (hi : i < sZ S a) (hz : sZ S a < 2 ^ 31) (k : WS F pc' lv (.int (sE S 10 a i) :: st) S cs ss) : WS F pc lv (.int (nI i) :: .ref a :: st) S cs ss := by
  obtain ⟨d, rfl⟩ := d
  intro ls H locs hl hw hS
  obtain ⟨q, hq⟩ := wl_get hw (cel_i hk (by decide) (by decide))
  refine va_zald C.x C.b C.k (wl_P hw) q 1 hq rfl (vp_in_nI hi hz) d ?_
  rw [nI_clamp (by omega)]
  exact k ls H locs hl hw hS
theorem ws_aald (C : Cx F cc own dF cF sF) {a i kd : Nat} (h0 : 11 ≤ kd) (h1 : kd ≤ 14) (d : At cc pc .aaload 1 pc') (hk : sK S a = kd) (hi : i < sZ S a) (hz : sZ S a < 2 ^ 31) (k : WS F pc' lv (va_rf (sQ S kd a i) :: st) S cs ss) : WS F pc lv (.int (nI i) :: .ref a :: st) S cs ss := by
  obtain ⟨d, rfl⟩ := d
  intro ls H locs hl hw hS
  obtain ⟨q, hq⟩ := wl_get hw (cel_q hk (by omega))
  have hty : ∃ Cn, aty kd = .object Cn := by
    have : kd = 11 ∨ kd = 12 ∨ kd = 13 ∨ kd = 14 := by omega
    rcases this with rfl | rfl | rfl | rfl <;> exact ⟨_, rfl⟩
  obtain ⟨Cn, hCn⟩ := hty
  refine va_aldq C.x C.b C.k (wl_P hw) q (kd - 9) hq (by rw [tYs_at _ (by omega) h1, hCn]) (vp_in_nI hi hz) d ?_
  rw [nI_clamp (by omega)]
  exact k ls H locs hl hw hS
theorem ws_alen (C : Cx F cc own dF cF sF) {a kd : Nat} (h0 : 9 ≤ kd) (h1 : kd ≤ 14) (d : At cc pc .arraylength 1 pc') (hk : sK S a = kd) (k : WS F pc' lv (.int (nI (sZ S a)) :: st) S cs ss) : WS F pc lv (.ref a :: st) S cs ss := by
  obtain ⟨d, rfl⟩ := d
  intro ls H locs hl hw hS
  by_cases h10 : kd ≤ 10
  · obtain ⟨q, hq⟩ := wl_get hw (cel_i hk (by omega) h10)
    exact va_alen C.x C.b C.k (wl_P hw) q (kd - 9) hq (tYs_at _ h0 h1) rfl d (k ls H locs hl hw hS)
  · obtain ⟨q, hq⟩ := wl_get hw (cel_q hk (by omega))
    exact va_alen C.x C.b C.k (wl_P hw) q (kd - 9) hq (tYs_at _ h0 h1) rfl d (k ls H locs hl hw hS)
theorem upd_E {S : Sto} {k a i : Nat} {x : Int32} : upd (sE S k a) i x = sE (setE S k a i x) k a := by
  funext j
  simp [upd, setE, sE, up3]
theorem upd_Q {S : Sto} {k a i : Nat} {x : Option Nat} : va_up (sQ S k a) i x = sQ (setQ S k a i x) k a := by
  funext j
  simp [va_up, setQ, sQ, up3]
theorem ws_iast (C : Cx F cc own dF cF sF) {a i : Nat} {x : Int32} (d : At cc pc .iastore 1 pc') (hk : sK S a = 9) (hi : i < sZ S a) (hz : sZ S a < 2 ^ 31) (k : WS F pc' lv st (setE S 9 a i x) cs ss) : WS F pc lv (.int x :: .int (nI i) :: .ref a :: st) S cs ss := by
  obtain ⟨d, rfl⟩ := d
  intro ls H locs hl hw hS
  obtain ⟨q, hq⟩ := wl_get hw (cel_i hk (by decide) (by decide))
  refine va_iast C.x C.b C.k (wl_P hw) (wl_D hw) hS q 0 hq rfl (vp_in_nI hi hz) d (fun H1 locs1 hP1 _ hS1 => k ls H1 locs1 hl ?_ hS1)
  rw [nI_clamp (by omega), upd_E] at hP1
  refine wl_set hw hq hP1 ?_ cel_upE
  have hk' : sK (setE S 9 a i x) a = 9 := hk
  rw [cel_i hk' (by decide) (by decide)]
  rfl
theorem ws_zast (C : Cx F cc own dF cF sF) {a i : Nat} {x : Int32} (d : At cc pc .bastore 1 pc') (hx : vp_nar .boolean x = x) (hk : sK S a = 10) (hi : i < sZ S a) (hz : sZ S a < 2 ^ 31) (k : WS F pc' lv st (setE S 10 a i x) cs ss) : WS F pc lv (.int x :: .int (nI i) :: .ref a :: st) S cs ss := by
  obtain ⟨d, rfl⟩ := d
  intro ls H locs hl hw hS
  obtain ⟨q, hq⟩ := wl_get hw (cel_i hk (by decide) (by decide))
  refine va_zast C.x C.b C.k (wl_P hw) (wl_D hw) hS q 1 hq rfl (vp_in_nI hi hz) d (fun H1 locs1 hP1 _ hS1 => k ls H1 locs1 hl ?_ hS1)
  rw [nI_clamp (by omega), hx, upd_E] at hP1
  refine wl_set hw hq hP1 ?_ cel_upE
  have hk' : sK (setE S 10 a i x) a = 10 := hk
  rw [cel_i hk' (by decide) (by decide)]
  rfl
/-- an object into an array of its own class -/
theorem ws_aast (C : Cx F cc own dF cF sF) {a i b kd ko : Nat} (d : At cc pc .aastore 1 pc') (hko : (kd = 11 ∧ ko = 4) ∨ (kd = 12 ∧ ko = 2) ∨ (kd = 13 ∧ ko = 5)) (hk : sK S a = kd) (hb : sK S b = ko) (hi : i < sZ S a) (hz : sZ S a < 2 ^ 31) (k : WS F pc' lv st (setQ S kd a i (some b)) cs ss) : WS F pc lv (.ref b :: .int (nI i) :: .ref a :: st) S cs ss := by
  obtain ⟨d, rfl⟩ := d
  intro ls H locs hl hw hS
  have hkd : 11 ≤ kd ∧ kd ≤ 14 ∧ 0 < ko ∧ ko ≤ 8 := by omega
  obtain ⟨q, hq⟩ := wl_get hw (cel_q hk (by omega))
  obtain ⟨q2, hq2⟩ := wl_get hw (cel_o hb (by omega) (by omega))
  refine va_astq C.x C.b C.k (wl_P hw) (wl_D hw) hS q (kd - 9) q2 (ko - 1) hq ?_ hq2 (vCl_at (by omega) (by omega)) (vp_in_nI hi hz) d (fun H1 locs1 hP1 _ hS1 => k ls H1 locs1 hl ?_ hS1)
  · rw [tYs_at _ (by omega) (by omega)]
    rcases hko with ⟨rfl, rfl⟩ | ⟨rfl, rfl⟩ | ⟨rfl, rfl⟩ <;> rfl
  rw [nI_clamp (by omega), upd_Q] at hP1
  refine wl_set hw hq hP1 ?_ cel_upQ
  have hk' : sK (setQ S kd a i (some b)) a = kd := hk
  rw [cel_q hk' (by omega)]
  rfl
theorem ws_aastN (C : Cx F cc own dF cF sF) {a i kd : Nat} (d : At cc pc .aastore 1 pc') (h0 : 11 ≤ kd) (h1 : kd ≤ 14) (hk : sK S a = kd) (hi : i < sZ S a) (hz : sZ S a < 2 ^ 31) (k : WS F pc' lv st (setQ S kd a i none) cs ss) : WS F pc lv (.null :: .int (nI i) :: .ref a :: st) S cs ss := by
  obtain ⟨d, rfl⟩ := d
  intro ls H locs hl hw hS
  obtain ⟨q, hq⟩ := wl_get hw (cel_q hk (by omega))
  have hty : ∃ Cn, aty kd = .object Cn := by
    have : kd = 11 ∨ kd = 12 ∨ kd = 13 ∨ kd = 14 := by omega
    rcases this with rfl | rfl | rfl | rfl <;> exact ⟨_, rfl⟩
  obtain ⟨Cn, hCn⟩ := hty
  refine va_astqN C.x C.b C.k (wl_P hw) (wl_D hw) hS q (kd - 9) hq (by rw [tYs_at _ (by omega) h1, hCn]) (vp_in_nI hi hz) d (fun H1 locs1 hP1 _ hS1 => k ls H1 locs1 hl ?_ hS1)
  rw [nI_clamp (by omega), upd_Q] at hP1
  refine wl_set hw hq hP1 ?_ cel_upQ
  have hk' : sK (setQ S kd a i none) a = kd := hk
  rw [cel_q hk' (by omega)]
  rfl
/-- a Message into an array of Objects -/
theorem ws_aastO (C : Cx F cc own dF cF sF) {a i b : Nat} (d : At cc pc .aastore 1 pc') (hk : sK S a = 14) (hb : sK S b = 7) (hi : i < sZ S a) (hz : sZ S a < 2 ^ 31) (k : WS F pc' lv st (setQ S 14 a i (some b)) cs ss) : WS F pc lv (.ref b :: .int (nI i) :: .ref a :: st) S cs ss := by
  obtain ⟨d, rfl⟩ := d
  intro ls H locs hl hw hS
  obtain ⟨q, hq⟩ := wl_get hw (cel_q hk (by omega))
  obtain ⟨q2, hq2⟩ := wl_get hw (cel_o hb (by decide) (by decide))
  refine va_astqO (E := "java/lang/Object") C.x C.b C.k (wl_P hw) (wl_D hw) hS q 5 q2 6 hq rfl C.E.1 hq2 (vCl_at (kd := 7) (by decide) (by decide)) (vp_in_nI hi hz) d (fun H1 locs1 hP1 _ hS1 => k ls H1 locs1 hl ?_ hS1)
  rw [nI_clamp (by omega), upd_Q] at hP1
  refine wl_set hw hq hP1 ?_ cel_upQ
  have hk' : sK (setQ S 14 a i (some b)) a = 14 := hk
  rw [cel_q hk' (by omega)]
  rfl
-- new cells
theorem ws_new (C : Cx F cc own dF cF sF) {idx kd n : Nat} (d : At cc pc (.new idx) 3 pc') (h0 : 0 < kd) (h8 : kd ≤ 8) (hn : nf kd = n) (hc : Cond.classLink own idx (cnm kd) ∈ TB) (hi : Cond.instantiable (cnm kd) (nf kd) ∈ TB) (hini : Cond.initialized (cnm kd) ∈ TB) (h1 : cs + 1 ≤ cF) (h2 : ss + n ≤ sF)
    (k : ∀ q, sK S q = 0 → WS F pc' lv (.ref q :: st) (newO S q kd) (cs + 1) (ss + n)) : WS F pc lv st S cs ss := by
  subst hn
  obtain ⟨d, rfl⟩ := d
  intro ls H locs hl hw hS
  refine va_new (D := xD F) C.x C.b (Ts := TB) C.2.2.2.2.2.1 (lys h0 h8) (tyk kd) (tyk_ok _ h0 h8) C.o (C.t hc) (C.t hi) (C.t hini) C.k (wl_P hw) (wl_D hw) hS C.A (vCl_at h0 h8) (fs := (List.range (nf kd)).map (fun j => defaultValue (tyk kd j))) ?_ (by rw [C.1.2.2.1]; exact h1) (by rw [C.1.2.2.2]; exact h2) d (fun q H1 hP1 hD1 hS1 => ?_)
  · intro j hj
    show _ = List.getD _ _ _
    rw [List.getD_eq_getElem?_getD, List.getElem?_map, List.getElem?_range hj]
    rfl
  have hcel : cel (xY F) (newO S q kd) q = some (.inr (kd - 1, (List.range (nf kd)).map (fun j => defaultValue (tyk kd j)))) := by
    have hk' : sK (newO S q kd) q = kd := by simp [newO, sK, va_up]
    rw [cel_o hk' h0 h8]
    congr 3
    unfold fl
    refine List.map_congr_left (fun j hj => ?_)
    rw [List.mem_range] at hj
    rw [dfk_ok kd h0 h8 j hj]
    unfold fv
    have e : (32 * kd + j) / 32 = kd := by have := nf_le kd; omega
    by_cases hr : rfk (32 * kd + j) = true
    · rw [if_pos hr, if_pos hr]
      simp [newO, sP, e, va_rf]
    · rw [if_neg hr, if_neg hr]
      simp [newO, sI, e]
  obtain ⟨w1, w2⟩ := wl_push (S' := newO S q kd) hw hP1 hD1 hcel cel_nO
  exact k q w2 ls H1 locs hl w1 hS1
theorem arr_cls (C : Cx F cc own dF cF sF) {kd : Nat} (h0 : 9 ≤ kd) (h1 : kd ≤ 14) {cA : ClassId} (h : va_K (xD F) vCl (tYs (xY F) ++ [(cA, aty kd)]) (xs F)) : cA = xY F (kd - 9) := by
  have e1 := (h.2 6 (cA, aty kd) (by simp [tYs])).2
  have e2 := (C.k.2 (kd - 9) _ (tYs_at (xY F) h0 h1)).2
  have : kd = 9 ∨ kd = 10 ∨ kd = 11 ∨ kd = 12 ∨ kd = 13 ∨ kd = 14 := by omega
  rcases this with rfl | rfl | rfl | rfl | rfl | rfl
  · exact Option.some.inj (e1.symm.trans e2)
  · exact Option.some.inj (e1.symm.trans e2)
  all_goals
    obtain ⟨_, _, _, _, _, q1⟩ := e1
    obtain ⟨_, _, _, _, _, q2⟩ := e2
    exact Option.some.inj (q1.symm.trans q2)
theorem ws_newi (C : Cx F cc own dF cF sF) {n : Nat} (d : At cc pc (.newarray .int) 2 pc') (hn : n < 100000) (hc : Cond.arrayClass .int ∈ TB) (h1 : cs + 1 ≤ cF) (h2 : ss + n ≤ sF)
    (k : ∀ q, sK S q = 0 → WS F pc' lv (.ref q :: st) (newA S q 9 n) (cs + 1) (ss + n)) : WS F pc lv (.int (nI n) :: st) S cs ss := by
  obtain ⟨d, rfl⟩ := d
  intro ls H locs hl hw hS
  refine va_newa (atype := .int) (ty := .int) (N' := n) (a0 := (n, .inl (fun _ => 0))) C.x C.b (C.t hc) rfl C.k (wl_P hw) (wl_D hw) hS C.A (fun cA => rfl) (nI_pos (by omega)) (nI_clamp (by omega)) (by show n * 4 ≤ _; omega) (by rw [C.1.2.2.1]; exact h1) (by rw [C.1.2.2.2]; exact h2) d (fun q cA H1 hK1 hP1 hD1 hS1 => ?_)
  have hcA := arr_cls C (kd := 9) (by decide) (by decide) hK1
  subst hcA
  have hcel : cel (xY F) (newA S q 9 n) q = some (.inl (xY F (9 - 9), n, .inl (fun _ => 0))) := by
    have hk' : sK (newA S q 9 n) q = 9 := by simp [newA, sK, va_up]
    rw [cel_i hk' (by decide) (by decide)]
    have e1 : sZ (newA S q 9 n) q = n := by simp [newA, sZ, va_up]
    have e2 : sE (newA S q 9 n) 9 q = fun _ => 0 := by funext j; simp [newA, sE]
    rw [e1, e2]
  obtain ⟨w1, w2⟩ := wl_push (S' := newA S q 9 n) hw hP1 hD1 hcel cel_nA
  exact k q w2 ls H1 locs hl w1 hS1
theorem ws_newz (C : Cx F cc own dF cF sF) {n : Nat} (d : At cc pc (.newarray .boolean) 2 pc') (hn : n < 100000) (hc : Cond.arrayClass .boolean ∈ TB) (h1 : cs + 1 ≤ cF) (h2 : ss + n ≤ sF)
    (k : ∀ q, sK S q = 0 → WS F pc' lv (.ref q :: st) (newA S q 10 n) (cs + 1) (ss + n)) : WS F pc lv (.int (nI n) :: st) S cs ss := by
  obtain ⟨d, rfl⟩ := d
  intro ls H locs hl hw hS
  refine va_newa (atype := .boolean) (ty := .boolean) (N' := n) (a0 := (n, .inl (fun _ => 0))) C.x C.b (C.t hc) rfl C.k (wl_P hw) (wl_D hw) hS C.A (fun cA => rfl) (nI_pos (by omega)) (nI_clamp (by omega)) (by show n * 1 ≤ _; omega) (by rw [C.1.2.2.1]; exact h1) (by rw [C.1.2.2.2]; exact h2) d (fun q cA H1 hK1 hP1 hD1 hS1 => ?_)
  have hcA := arr_cls C (kd := 10) (by decide) (by decide) hK1
  subst hcA
  have hcel : cel (xY F) (newA S q 10 n) q = some (.inl (xY F (10 - 9), n, .inl (fun _ => 0))) := by
    have hk' : sK (newA S q 10 n) q = 10 := by simp [newA, sK, va_up]
    rw [cel_i hk' (by decide) (by decide)]
    have e1 : sZ (newA S q 10 n) q = n := by simp [newA, sZ, va_up]
    have e2 : sE (newA S q 10 n) 10 q = fun _ => 0 := by funext j; simp [newA, sE]
    rw [e1, e2]
  obtain ⟨w1, w2⟩ := wl_push (S' := newA S q 10 n) hw hP1 hD1 hcel cel_nA
  exact k q w2 ls H1 locs hl w1 hS1
theorem ws_newq (C : Cx F cc own dF cF sF) {idx n kd : Nat} {Cn : String} (d : At cc pc (.anewarray idx) 3 pc') (hn : n < 100000) (h0 : 11 ≤ kd) (h14 : kd ≤ 14) (hC : aty kd = .object Cn) (hc : Cond.classLink own idx Cn ∈ TB) (ha : va_AO Cn (xs F)) (h1 : cs + 1 ≤ cF) (h2 : ss + n ≤ sF)
    (k : ∀ q, sK S q = 0 → WS F pc' lv (.ref q :: st) (newA S q kd n) (cs + 1) (ss + n)) : WS F pc lv (.int (nI n) :: st) S cs ss := by
  obtain ⟨d, rfl⟩ := d
  intro ls H locs hl hw hS
  refine va_newq (N' := n) C.x C.b C.o (C.t hc) ha C.k (wl_P hw) (wl_D hw) hS C.A (nI_pos (by omega)) (nI_clamp (by omega)) (by omega) (by rw [C.1.2.2.1]; exact h1) (by rw [C.1.2.2.2]; exact h2) d (fun q cA H1 hK1 hP1 hD1 hS1 => ?_)
  have hcA := arr_cls C (kd := kd) (by omega) (by omega) (by rw [hC]; exact hK1)
  subst hcA
  have hcel : cel (xY F) (newA S q kd n) q = some (.inl (xY F (kd - 9), n, .inr (.inr (.inr (.inr (fun _ => none)))))) := by
    have hk' : sK (newA S q kd n) q = kd := by simp [newA, sK, va_up]
    rw [cel_q hk' (by omega)]
    have e1 : sZ (newA S q kd n) q = n := by simp [newA, sZ, va_up]
    have e2 : sQ (newA S q kd n) kd q = fun _ => none := by funext j; simp [newA, sQ]
    rw [e1, e2]
  obtain ⟨w1, w2⟩ := wl_push (S' := newA S q kd n) hw hP1 hD1 hcel cel_nA
  exact k q w2 ls H1 locs hl w1 hS1
end ROWS
