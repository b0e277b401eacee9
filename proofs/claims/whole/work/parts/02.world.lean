/-! stores: what each cell of a world holds, by kind of cell, number of field, address; worlds as stores -/
def up2 {α : Type} (f : Nat → Nat → α) (j i : Nat) (v : α) : Nat → Nat → α := fun j' i' => if j' = j ∧ i' = i then v else f j' i'
def up3 {α : Type} (f : Nat → Nat → Nat → α) (k j i : Nat) (v : α) : Nat → Nat → Nat → α := fun k' j' i' => if k' = k ∧ j' = j ∧ i' = i then v else f k' j' i'
abbrev Sto : Type := (Nat → Nat) × (Nat → Nat → Int32) × (Nat → Nat → Option Nat) × (Nat → Nat → Nat → Int32) × (Nat → Nat → Nat → Option Nat) × (Nat → Nat)
def sK (S : Sto) : Nat → Nat := S.1
def sI (S : Sto) : Nat → Nat → Int32 := S.2.1
def sP (S : Sto) : Nat → Nat → Option Nat := S.2.2.1
def sE (S : Sto) : Nat → Nat → Nat → Int32 := S.2.2.2.1
def sQ (S : Sto) : Nat → Nat → Nat → Option Nat := S.2.2.2.2.1
def sZ (S : Sto) : Nat → Nat := S.2.2.2.2.2
def setI (S : Sto) (f a : Nat) (v : Int32) : Sto := (sK S, up2 (sI S) f a v, sP S, sE S, sQ S, sZ S)
def setP (S : Sto) (f a : Nat) (v : Option Nat) : Sto := (sK S, sI S, up2 (sP S) f a v, sE S, sQ S, sZ S)
def setE (S : Sto) (k a i : Nat) (v : Int32) : Sto := (sK S, sI S, sP S, up3 (sE S) k a i v, sQ S, sZ S)
def setQ (S : Sto) (k a i : Nat) (v : Option Nat) : Sto := (sK S, sI S, sP S, sE S, up3 (sQ S) k a i v, sZ S)
def newO (S : Sto) (q kd : Nat) : Sto := (va_up (sK S) q kd, fun f a => if a = q ∧ f / 32 = kd then 0 else sI S f a, fun f a => if a = q ∧ f / 32 = kd then none else sP S f a, sE S, sQ S, sZ S)
def newA (S : Sto) (q kd n : Nat) : Sto := (va_up (sK S) q kd, sI S, sP S, fun k a i => if k = kd ∧ a = q then 0 else sE S k a i, fun k a i => if k = kd ∧ a = q then none else sQ S k a i, va_up (sZ S) q n)
/-- kinds: 1 ArrayList, 2 Client, 3 Configuration, 4 Node, 5 Update, 6 ChainVersions, 7 Message, 8 ChainVersionsModel; arrays: 9 int, 10 boolean, 11 Node, 12 Client, 13 Update, 14 Object -/
def nf : Nat → Nat
  | 1 => 3
  | 2 => 7
  | 3 => 2
  | 4 => 8
  | 5 => 4
  | 6 => 6
  | 7 => 9
  | 8 => 27
  | _ => 0
def rfk (f : Nat) : Bool := f == 33 || f == 97 || f == 129 || f == 130 || (192 ≤ f && f < 196) || f == 228 || (256 < f && f < 283 && !(f == 264) && !(f == 276))
def fv (S : Sto) (a f : Nat) : Value := if rfk f = true then va_rf (sP S f a) else .int (sI S f a)
def fl (S : Sto) (kd a : Nat) : List Value := (List.range (nf kd)).map (fun k => fv S a (32 * kd + k))
def cel (Y : Nat → ClassId) (S : Sto) (a : Nat) : Option va_E :=
  if sK S a = 0 then none else if sK S a ≤ 8 then some (.inr (sK S a - 1, fl S (sK S a) a))
  else if sK S a ≤ 10 then some (.inl (Y (sK S a - 9), sZ S a, .inl (sE S (sK S a) a)))
  else some (.inl (Y (sK S a - 9), sZ S a, .inr (.inr (.inr (.inr (sQ S (sK S a) a))))))
theorem cel_o {Y : Nat → ClassId} {S : Sto} {a kd : Nat} (h : sK S a = kd) (h0 : 0 < kd) (h8 : kd ≤ 8) : cel Y S a = some (.inr (kd - 1, fl S kd a)) := by
  unfold cel; rw [h, if_neg (by omega), if_pos h8]
theorem cel_i {Y : Nat → ClassId} {S : Sto} {a kd : Nat} (h : sK S a = kd) (h0 : 8 < kd) (h8 : kd ≤ 10) : cel Y S a = some (.inl (Y (kd - 9), sZ S a, .inl (sE S kd a))) := by
  unfold cel; rw [h, if_neg (by omega), if_neg (by omega), if_pos h8]
theorem cel_q {Y : Nat → ClassId} {S : Sto} {a kd : Nat} (h : sK S a = kd) (h0 : 10 < kd) : cel Y S a = some (.inl (Y (kd - 9), sZ S a, .inr (.inr (.inr (.inr (sQ S kd a)))))) := by
  unfold cel; rw [h, if_neg (by omega), if_neg (by omega), if_neg (by omega)]
theorem cel_n {Y : Nat → ClassId} {S : Sto} {a : Nat} (h : cel Y S a = none) : sK S a = 0 := by
  unfold cel at h
  by_cases h0 : sK S a = 0
  · exact h0
  · rw [if_neg h0] at h
    split at h
    · cases h
    · split at h <;> cases h
-- class tables
def T_AL : u_T := fun k => match k with
  | 0 => ("java/util/AbstractList", "modCount", "I", false)
  | 1 => ("java/util/ArrayList", "elementData", "[Ljava/lang/Object;", false)
  | _ => ("java/util/ArrayList", "size", "I", false)
def T_Cl : u_T := fun k => match k with
  | 0 => ("ChainVersions$Client", "state", "I", false)
  | 1 => ("ChainVersions$Client", "writes", "I", false)
  | 2 => ("ChainVersions$Client", "key", "I", false)
  | 3 => ("ChainVersions$Client", "written", "I", false)
  | 4 => ("ChainVersions$Client", "waitsAt", "I", false)
  | 5 => ("ChainVersions$Client", "doneNumber", "I", false)
  | _ => ("ChainVersions$Client", "doneValue", "I", false)
def T_Cf : u_T := fun k => match k with
  | 0 => ("ChainVersions$Configuration", "epoch", "I", true)
  | _ => ("ChainVersions$Configuration", "members", "[I", true)
def T_Nd : u_T := fun k => match k with
  | 0 => ("ChainVersions$Node", "number", "I", true)
  | 1 => ("ChainVersions$Node", "log", "[LChainVersions$Update;", true)
  | 2 => ("ChainVersions$Node", "view", "LChainVersions$Configuration;", false)
  | 3 => ("ChainVersions$Node", "living", "Z", false)
  | 4 => ("ChainVersions$Node", "ready", "Z", false)
  | 5 => ("ChainVersions$Node", "stoppedAt", "I", false)
  | 6 => ("ChainVersions$Node", "length", "I", false)
  | _ => ("ChainVersions$Node", "settled", "I", false)
def T_Up : u_T := fun k => match k with
  | 0 => ("ChainVersions$Update", "key", "I", true)
  | 1 => ("ChainVersions$Update", "value", "I", true)
  | 2 => ("ChainVersions$Update", "client", "I", true)
  | _ => ("ChainVersions$Update", "request", "I", true)
def T_X : u_T := fun k => match k with
  | 0 => ("ChainVersions", "nodes", "[LChainVersions$Node;", true)
  | 1 => ("ChainVersions", "clients", "[LChainVersions$Client;", true)
  | 2 => ("ChainVersions", "underWay", "Ljava/util/ArrayList;", true)
  | 3 => ("ChainVersions", "newest", "LChainVersions$Configuration;", false)
  | 4 => ("ChainVersions", "nodeCount", "I", false)
  | _ => ("ChainVersions", "clock", "I", false)
def T_Mg : u_T := fun k => match k with
  | 0 => ("ChainVersions$Message", "kind", "I", true)
  | 1 => ("ChainVersions$Message", "from", "I", true)
  | 2 => ("ChainVersions$Message", "to", "I", true)
  | 3 => ("ChainVersions$Message", "epoch", "I", true)
  | 4 => ("ChainVersions$Message", "update", "LChainVersions$Update;", false)
  | 5 => ("ChainVersions$Message", "number", "I", false)
  | 6 => ("ChainVersions$Message", "settled", "I", false)
  | 7 => ("ChainVersions$Message", "key", "I", false)
  | _ => ("ChainVersions$Message", "client", "I", false)
def T_M : u_T := fun k => match k with
  | 0 => ("ChainVersionsModel", "made", "I", false)
  | 1 => ("ChainVersionsModel", "living", "[Z", true)
  | 2 => ("ChainVersionsModel", "ready", "[Z", true)
  | 3 => ("ChainVersionsModel", "view", "[I", true)
  | 4 => ("ChainVersionsModel", "length", "[I", true)
  | 5 => ("ChainVersionsModel", "settled", "[I", true)
  | 6 => ("ChainVersionsModel", "silent", "[I", true)
  | 7 => ("ChainVersionsModel", "members", "[I", true)
  | 8 => ("ChainVersionsModel", "newest", "I", false)
  | 9 => ("ChainVersionsModel", "keys", "[I", true)
  | 10 => ("ChainVersionsModel", "values", "[I", true)
  | 11 => ("ChainVersionsModel", "writers", "[I", true)
  | 12 => ("ChainVersionsModel", "numbers", "[I", true)
  | 13 => ("ChainVersionsModel", "status", "[I", true)
  | 14 => ("ChainVersionsModel", "writes", "[I", true)
  | 15 => ("ChainVersionsModel", "key", "[I", true)
  | 16 => ("ChainVersionsModel", "value", "[I", true)
  | 17 => ("ChainVersionsModel", "at", "[I", true)
  | 18 => ("ChainVersionsModel", "number", "[I", true)
  | 19 => ("ChainVersionsModel", "result", "[I", true)
  | 20 => ("ChainVersionsModel", "count", "I", false)
  | 21 => ("ChainVersionsModel", "from", "[I", true)
  | 22 => ("ChainVersionsModel", "to", "[I", true)
  | 23 => ("ChainVersionsModel", "kind", "[I", true)
  | 24 => ("ChainVersionsModel", "epochs", "[I", true)
  | 25 => ("ChainVersionsModel", "one", "[I", true)
  | _ => ("ChainVersionsModel", "two", "[I", true)
def cnm : Nat → String
  | 1 => "java/util/ArrayList"
  | 2 => "ChainVersions$Client"
  | 3 => "ChainVersions$Configuration"
  | 4 => "ChainVersions$Node"
  | 5 => "ChainVersions$Update"
  | 6 => "ChainVersions"
  | 7 => "ChainVersions$Message"
  | _ => "ChainVersionsModel"
def ctb : Nat → u_T
  | 1 => T_AL
  | 2 => T_Cl
  | 3 => T_Cf
  | 4 => T_Nd
  | 5 => T_Up
  | 6 => T_X
  | 7 => T_Mg
  | _ => T_M
def vCl : List vw_C := [(cnm 1, ctb 1, 3), (cnm 2, ctb 2, 7), (cnm 3, ctb 3, 2), (cnm 4, ctb 4, 8), (cnm 5, ctb 5, 4), (cnm 6, ctb 6, 6), (cnm 7, ctb 7, 9), (cnm 8, ctb 8, 27)]
def aty : Nat → FieldType
  | 9 => .int
  | 10 => .boolean
  | 11 => .object "ChainVersions$Node"
  | 12 => .object "ChainVersions$Client"
  | 13 => .object "ChainVersions$Update"
  | _ => .object "java/lang/Object"
def tYs (Y : Nat → ClassId) : List (ClassId × FieldType) := [(Y 0, .int), (Y 1, .boolean), (Y 2, .object "ChainVersions$Node"), (Y 3, .object "ChainVersions$Client"), (Y 4, .object "ChainVersions$Update"), (Y 5, .object "java/lang/Object")]
theorem vCl_at {kd : Nat} (h0 : 0 < kd) (h8 : kd ≤ 8) : vCl[kd - 1]? = some (cnm kd, ctb kd, nf kd) := by
  have : kd = 1 ∨ kd = 2 ∨ kd = 3 ∨ kd = 4 ∨ kd = 5 ∨ kd = 6 ∨ kd = 7 ∨ kd = 8 := by omega
  rcases this with rfl | rfl | rfl | rfl | rfl | rfl | rfl | rfl <;> rfl
theorem tYs_at (Y : Nat → ClassId) {kd : Nat} (h0 : 9 ≤ kd) (h8 : kd ≤ 14) : (tYs Y)[kd - 9]? = some (Y (kd - 9), aty kd) := by
  have : kd = 9 ∨ kd = 10 ∨ kd = 11 ∨ kd = 12 ∨ kd = 13 ∨ kd = 14 := by omega
  rcases this with rfl | rfl | rfl | rfl | rfl | rfl <;> rfl
/-- the heap holds the store's cells, and they lie in A -/
def Wd (D : va_G) (Y : Nat → ClassId) (A : Nat → Prop) (S : Sto) (H : Heap) : Prop := ∀ (a : Nat) (e : va_E), cel Y S a = some e → va_at D vCl (a, e) H ∧ A a
def wl (Y : Nat → ClassId) (S : Sto) (n : Nat) : va_W := (List.range n).filterMap (fun a => (cel Y S a).map (fun e => (a, e)))
theorem wl_in {Y : Nat → ClassId} {S : Sto} {n : Nat} {q : Nat × va_E} : q ∈ wl Y S n ↔ q.1 < n ∧ cel Y S q.1 = some q.2 := by
  unfold wl
  rw [List.mem_filterMap]
  constructor
  · rintro ⟨a, ha, h⟩
    rw [List.mem_range] at ha
    cases hc : cel Y S a with
    | none => rw [hc] at h; cases h
    | some e => rw [hc] at h; cases h; exact ⟨ha, hc⟩
  · rintro ⟨h1, h2⟩
    exact ⟨q.1, List.mem_range.mpr h1, by rw [h2]; rfl⟩
theorem wl_get {D : va_G} {Y : Nat → ClassId} {A : Nat → Prop} {S : Sto} {H : Heap} (h : Wd D Y A S H) {a : Nat} {e : va_E} (he : cel Y S a = some e) : ∃ q : Nat, (wl Y S H.size)[q]? = some (a, e) :=
  List.getElem?_of_mem (wl_in.mpr ⟨(h a e he).1.lt, he⟩)
theorem wl_P {D : va_G} {Y : Nat → ClassId} {A : Nat → Prop} {S : Sto} {H : Heap} (h : Wd D Y A S H) : va_P D vCl (wl Y S H.size) H := fun _ q hk => (h q.1 q.2 (wl_in.mp (List.mem_of_getElem? hk)).2).1
theorem wl_pw (Y : Nat → ClassId) (S : Sto) (n : Nat) : (wl Y S n).Pairwise (fun x y => x.1 < y.1) := by
  unfold wl
  refine List.Pairwise.filterMap _ ?_ (List.pairwise_lt_range (n := n))
  intro a a' haa b hb b' hb'
  cases hc : cel Y S a with
  | none => rw [hc] at hb; cases hb
  | some e =>
    cases hc' : cel Y S a' with
    | none => rw [hc'] at hb'; cases hb'
    | some e' =>
      rw [hc] at hb; rw [hc'] at hb'
      cases hb; cases hb'
      exact haa
theorem wl_D {D : va_G} {Y : Nat → ClassId} {A : Nat → Prop} {S : Sto} {H : Heap} (h : Wd D Y A S H) : va_D A (wl Y S H.size) := by
  refine ⟨fun i j x y hi hj hxy => ?_, fun k q hk => (h q.1 q.2 (wl_in.mp (List.mem_of_getElem? hk)).2).2⟩
  have hp := List.pairwise_iff_getElem.mp (wl_pw Y S H.size)
  obtain ⟨li, ei⟩ := List.getElem?_eq_some_iff.mp hi
  obtain ⟨lj, ej⟩ := List.getElem?_eq_some_iff.mp hj
  rcases Nat.lt_trichotomy i j with hl | hl | hl
  · have := hp i j li lj hl
    rw [ei, ej] at this
    omega
  · exact hl
  · have := hp j i lj li hl
    rw [ei, ej] at this
    omega
theorem wl_set {D : va_G} {Y : Nat → ClassId} {A : Nat → Prop} {S S' : Sto} {H H' : Heap} (h : Wd D Y A S H) {q a : Nat} {e e' : va_E} (hq : (wl Y S H.size)[q]? = some (a, e))
    (hP : va_P D vCl ((wl Y S H.size).set q (a, e')) H') (ha : cel Y S' a = some e') (ho : ∀ b, b ≠ a → cel Y S' b = cel Y S b) : Wd D Y A S' H' := by
  intro b x hb
  have hl := (List.getElem?_eq_some_iff.mp hq).1
  by_cases hba : b = a
  · subst hba
    rw [ha] at hb
    cases hb
    refine ⟨?_, (h b e (wl_in.mp (List.mem_of_getElem? hq)).2).2⟩
    exact hP q _ (List.getElem?_set_self hl)
  · rw [ho b hba] at hb
    obtain ⟨k, hk⟩ := wl_get h hb
    refine ⟨?_, (h b x hb).2⟩
    have hne : q ≠ k := fun z => by
      subst z
      rw [hq] at hk
      cases hk
      exact hba rfl
    exact hP k _ (by rw [List.getElem?_set_ne hne]; exact hk)
theorem wl_push {D : va_G} {Y : Nat → ClassId} {A : Nat → Prop} {S S' : Sto} {H H' : Heap} (h : Wd D Y A S H) {a : Nat} {e' : va_E}
    (hP : va_P D vCl (wl Y S H.size ++ [(a, e')]) H') (hD : va_D A (wl Y S H.size ++ [(a, e')])) (ha : cel Y S' a = some e') (ho : ∀ b, b ≠ a → cel Y S' b = cel Y S b) : Wd D Y A S' H' ∧ sK S a = 0 := by
  have hlast : (wl Y S H.size ++ [(a, e')])[(wl Y S H.size).length]? = some (a, e') := by simp
  have hno : cel Y S a = none := by
    cases hc : cel Y S a with
    | none => rfl
    | some e =>
      obtain ⟨k, hk⟩ := wl_get h hc
      have hl := (List.getElem?_eq_some_iff.mp hk).1
      have := hD.1 k _ (a, e) _ (by rw [List.getElem?_append_left hl]; exact hk) hlast rfl
      omega
  refine ⟨fun b x hb => ?_, cel_n hno⟩
  by_cases hba : b = a
  · subst hba
    rw [ha] at hb
    cases hb
    exact ⟨hP _ _ hlast, hD.2 _ _ hlast⟩
  · rw [ho b hba] at hb
    obtain ⟨k, hk⟩ := wl_get h hb
    have hl := (List.getElem?_eq_some_iff.mp hk).1
    have hk' : (wl Y S H.size ++ [(a, e')])[k]? = some (b, x) := by rw [List.getElem?_append_left hl]; exact hk
    exact ⟨hP k _ hk', hD.2 k _ hk'⟩
theorem fl_get {S : Sto} {kd a k : Nat} (hk : k < nf kd) : (fl S kd a)[k]? = some (fv S a (32 * kd + k)) := by
  unfold fl
  rw [List.getElem?_map, List.getElem?_range hk]
  rfl
theorem fl_len (S : Sto) (kd a : Nat) : (fl S kd a).length = nf kd := by unfold fl; rw [List.length_map, List.length_range]
theorem nf_le (kd : Nat) : nf kd ≤ 27 := by
  unfold nf
  split <;> omega
theorem fv_I {S : Sto} {a f : Nat} (h : rfk f = false) : fv S a f = .int (sI S f a) := by unfold fv; rw [h]; rfl
theorem fv_P {S : Sto} {a f : Nat} (h : rfk f = true) : fv S a f = va_rf (sP S f a) := by unfold fv; rw [h]; rfl
theorem fl_setI {S : Sto} {kd a k : Nat} {x : Int32} (hk : k < nf kd) (hr : rfk (32 * kd + k) = false) : (fl S kd a).set k (.int x) = fl (setI S (32 * kd + k) a x) kd a := by
  apply List.ext_getElem?
  intro j
  by_cases hj : j < nf kd
  · rw [fl_get hj]
    by_cases hjk : j = k
    · subst hjk
      rw [List.getElem?_set_self (by rw [fl_len]; exact hj), fv_I hr]
      simp [setI, sI, up2]
    · rw [List.getElem?_set_ne (fun z => hjk z.symm), fl_get hj]
      unfold fv
      by_cases h : rfk (32 * kd + j) = true
      · rw [if_pos h, if_pos h]; rfl
      · rw [if_neg h, if_neg h]
        simp [setI, sI, up2, hjk]
  · rw [List.getElem?_eq_none (by rw [List.length_set, fl_len]; omega), List.getElem?_eq_none (by rw [fl_len]; omega)]
theorem fl_setP {S : Sto} {kd a k : Nat} {x : Option Nat} (hk : k < nf kd) (hr : rfk (32 * kd + k) = true) : (fl S kd a).set k (va_rf x) = fl (setP S (32 * kd + k) a x) kd a := by
  apply List.ext_getElem?
  intro j
  by_cases hj : j < nf kd
  · rw [fl_get hj]
    by_cases hjk : j = k
    · subst hjk
      rw [List.getElem?_set_self (by rw [fl_len]; exact hj), fv_P hr]
      simp [setP, sP, up2]
    · rw [List.getElem?_set_ne (fun z => hjk z.symm), fl_get hj]
      unfold fv
      by_cases h : rfk (32 * kd + j) = true
      · rw [if_pos h, if_pos h]
        simp [setP, sP, up2, hjk]
      · rw [if_neg h, if_neg h]; rfl
  · rw [List.getElem?_eq_none (by rw [List.length_set, fl_len]; omega), List.getElem?_eq_none (by rw [fl_len]; omega)]
theorem cel_congr {Y : Nat → ClassId} {S S' : Sto} {b : Nat} (hK : sK S' b = sK S b) (hI : ∀ f, sI S' f b = sI S f b) (hP : ∀ f, sP S' f b = sP S f b) (hE : ∀ k, sE S' k b = sE S k b) (hQ : ∀ k, sQ S' k b = sQ S k b) (hZ : sZ S' b = sZ S b) : cel Y S' b = cel Y S b := by
  have hfl : ∀ kd, fl S' kd b = fl S kd b := fun kd => by
    unfold fl
    refine List.map_congr_left (fun k _ => ?_)
    unfold fv
    rw [hI, hP]
  unfold cel
  rw [hK, hZ, hE, hQ, hfl]
