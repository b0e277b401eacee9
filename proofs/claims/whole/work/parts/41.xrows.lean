/-! rows over the class's cells -/
theorem WF.vw {G : GS} (h : WF G) {v : Nat} (hv : v < G.1 0 0) : 1 ≤ G.1 3 v ∧ G.1 3 v ≤ G.1 8 0 := ⟨(h.2.2.1 v hv).1, (h.2.2.1 v hv).2.1⟩
theorem WF.nw {G : GS} (h : WF G) : 1 ≤ G.1 8 0 ∧ G.1 8 0 ≤ G.1 8 0 := ⟨h.2.1.1, Nat.le_refl _⟩
theorem WF.m6 {G : GS} (h : WF G) {v : Nat} (hv : v < G.1 0 0) : v < 6 := Nat.lt_of_lt_of_le hv h.1.2
theorem WF.c {G G' : GS} (h : WF G) (h0 : G'.1 0 = G.1 0) (h1 : G'.1 1 = G.1 1) (h3 : G'.1 3 = G.1 3) (h7 : G'.1 7 = G.1 7) (h8 : G'.1 8 = G.1 8) (h5 : ∀ v, G'.1 5 v ≤ G'.1 4 v) : WF G' := by
  obtain ⟨a, b, c, d, e, f⟩ := h
  refine ⟨by rw [h0]; exact a, by rw [h8]; exact b, fun v hv => ?_, fun v hv => ?_, fun e w he hw => ?_, h5⟩
  · rw [h0] at hv
    rw [h3, h8, isIn_c h7]
    exact c v hv
  · rw [h0] at hv
    rw [h1]; exact d v hv
  · rw [h8] at he
    rw [isIn_c h7] at hw
    rw [h0]
    exact (‹∀ e w, e ≤ G.1 8 0 → isIn G e w = true → w < G.1 0 0›) e w he hw
section ROWS
variable {F : Fx} {cc : ByteArray} {own : String} {pc pc' tgt : Nat} {lv : List (Option Value)} {st : List Value} {S : Sto} {cs ss : Nat} {dF cF sF : Nat} {z : Nat} {h : Nat → Nat → Nat} {t : Nat → Nat} {G : GS}
theorem wx_getI (C : Cx F cc own dF cF sF) (hR : XE z h t G S) (f k : Nat) (x : Int32) {kd idx : Nat} (d : At cc pc (.getfield idx) 3 pc') (hf : FLs own idx f) (hkd : f / 32 = kd) (hr : rfk f = false) (hd : dm G f k) (hx : xv G f k = x) (kk : WS F pc' lv (.int x :: st) S cs ss) : WS F pc lv (.ref (h kd k) :: st) S cs ss := by
  subst hkd; subst hx
  obtain ⟨r, hR⟩ := hR
  refine ws_getI C d hf hr (hR.1.1 _ _ (dm_dk hd)) ?_
  rw [hR.2.1 f k hd]
  exact kk
theorem dp_dk {G : GS} {f k : Nat} (h : dp G f k) : dk G (f / 32) k := by
  unfold dp at h
  rcases h with ⟨rfl, hd⟩ | ⟨rfl | rfl, hd⟩ | ⟨hf, rfl⟩
  · exact dkF hd
  · exact dkN hd
  · exact dkN hd
  · have : f / 32 = 6 := by omega
    rw [this]
    exact dk6
theorem wx_getP (C : Cx F cc own dF cF sF) (hR : XE z h t G S) (f k b : Nat) {kd idx : Nat} (d : At cc pc (.getfield idx) 3 pc') (hf : FLs own idx f) (hkd : f / 32 = kd) (hr : rfk f = true) (hd : dp G f k) (hx : xq h G f k = b) (kk : WS F pc' lv (.ref b :: st) S cs ss) : WS F pc lv (.ref (h kd k) :: st) S cs ss := by
  subst hkd; subst hx
  obtain ⟨r, hR⟩ := hR
  exact ws_getP C d hf hr (hR.1.1 _ _ (dp_dk hd)) (hR.2.2.1 f k hd) kk
theorem wx_putN (C : Cx F cc own dF cF sF) (hR : XE z h t G S) (f k j : Nat) {n kd idx : Nat} (d : At cc pc (.putfield idx) 3 pc') (hf : FLs own idx f) (hkd : f / 32 = kd) (hj : jn f = j) (hs : smp f = true) (hr : rfk f = false) (hfin : (ctb (f / 32) (f % 32)).2.2.2 = false) (hn : narrow (tyk (f / 32) (f % 32)) (.int (nI n)) = .int (nI n) ∧ fits (tyk (f / 32) (f % 32)) (.int (nI n)) = true) (hd : dm G f k) (kk : ∀ S' : Sto, XE z h t (gN G j k n) S' → WS F pc' lv st S' cs ss) : WS F pc lv (.int (nI n) :: .ref (h kd k) :: st) S cs ss := by
  subst hkd; subst hj
  obtain ⟨r, hR⟩ := hR
  exact ws_putI C d hf hr hfin hn (hR.1.1 _ _ (dm_dk hd)) (kk _ ⟨r, hR.putN f k n hs hd⟩)
theorem wx_putV (C : Cx F cc own dF cF sF) (hR : XE z h t G S) (f k j : Nat) {x : Int32} {idx : Nat} (d : At cc pc (.putfield idx) 3 pc') (hf : FLs own idx f) (hj : jv f = j) (hs : f = 67 ∨ f = 68 ∨ f = 70) (hd : k < 3) (kk : ∀ S' : Sto, XE z h t (gV G j k x) S' → WS F pc' lv st S' cs ss) : WS F pc lv (.int x :: .ref (h 2 k) :: st) S cs ss := by
  subst hj
  obtain ⟨r, hR⟩ := hR
  have hk := hR.1.1 2 k (dkC hd)
  have hp := hR.putV f k x hs hd
  rcases hs with rfl | rfl | rfl
  · exact ws_putI C d hf rfl rfl ⟨rfl, rfl⟩ hk (kk _ ⟨r, hp⟩)
  · exact ws_putI C d hf rfl rfl ⟨rfl, rfl⟩ hk (kk _ ⟨r, hp⟩)
  · exact ws_putI C d hf rfl rfl ⟨rfl, rfl⟩ hk (kk _ ⟨r, hp⟩)
/-- nodes[v] -/
theorem wx_nod (C : Cx F cc own dF cF sF) (hR : XE z h t G S) {v : Nat} (d : At cc pc .aaload 1 pc') (hv : v < 6) (k1 : v < G.1 0 0 → WS F pc' lv (.ref (h 4 v) :: st) S cs ss) (k2 : ¬ v < G.1 0 0 → WS F pc' lv (.null :: st) S cs ss) : WS F pc lv (.int (nI v) :: .ref (h 11 0) :: st) S cs ss := by
  obtain ⟨r, hR⟩ := hR
  have hz := hR.2.2.2.1.1.1
  refine ws_aald C (kd := 11) (by decide) (by decide) d (hR.1.1 11 0 dk11) (by rw [hz]; exact hv) (by rw [hz]; decide) ?_
  rw [hR.2.2.2.1.2.2.1 v hv]
  by_cases hm : v < G.1 0 0
  · rw [if_pos hm]; exact k1 hm
  · rw [if_neg hm]; exact k2 hm
/-- clients[c] -/
theorem wx_cli (C : Cx F cc own dF cF sF) (hR : XE z h t G S) {c : Nat} (d : At cc pc .aaload 1 pc') (hc : c < 3) (k1 : WS F pc' lv (.ref (h 2 c) :: st) S cs ss) : WS F pc lv (.int (nI c) :: .ref (h 12 0) :: st) S cs ss := by
  obtain ⟨r, hR⟩ := hR
  have hz := hR.2.2.2.1.1.2.1
  refine ws_aald C (kd := 12) (by decide) (by decide) d (hR.1.1 12 0 dk12) (by rw [hz]; exact hc) (by rw [hz]; decide) ?_
  rw [hR.2.2.2.1.2.2.2 c hc]
  exact k1
/-- the members of a configuration -/
theorem mem_len (m : Nat) : (mem m).length ≤ 6 := by
  have := List.length_filter_le (fun w => m.testBit w) (List.range 6)
  rw [List.length_range] at this
  exact this
theorem wx_mln (C : Cx F cc own dF cF sF) (hR : XE z h t G S) {e : Nat} (d : At cc pc .arraylength 1 pc') (he : 1 ≤ e ∧ e ≤ G.1 8 0) (k1 : WS F pc' lv (.int (nI (mem (G.1 7 e)).length) :: st) S cs ss) : WS F pc lv (.ref (h 9 e) :: st) S cs ss := by
  obtain ⟨r, hR⟩ := hR
  refine ws_alen C (kd := 9) (by decide) (by decide) d (hR.1.1 9 e (dkM he)) ?_
  rw [(hR.2.2.2.1.2.1 e he.1 he.2).1]
  exact k1
theorem wx_mld (C : Cx F cc own dF cF sF) (hR : XE z h t G S) {e i m : Nat} (d : At cc pc .iaload 1 pc') (he : 1 ≤ e ∧ e ≤ G.1 8 0) (hi : (mem (G.1 7 e))[i]? = some m) (k1 : WS F pc' lv (.int (nI m) :: st) S cs ss) : WS F pc lv (.int (nI i) :: .ref (h 9 e) :: st) S cs ss := by
  obtain ⟨r, hR⟩ := hR
  have hA := hR.2.2.2.1.2.1 e he.1 he.2
  have hl := (List.getElem?_eq_some_iff.mp hi).1
  have h6 := mem_len (G.1 7 e)
  refine ws_iald C d (hR.1.1 9 e (dkM he)) (by rw [hA.1]; exact hl) (by rw [hA.1]; omega) ?_
  rw [hA.2 i m hi]
  exact k1
/-- fields of an update -/
theorem wx_up0 (C : Cx F cc own dF cF sF) {q k c r : Nat} {x : Int32} {idx : Nat} (hU : UPf S q k x c r) (d : At cc pc (.getfield idx) 3 pc') (hf : FLs own idx 160) (kk : WS F pc' lv (.int (nI k) :: st) S cs ss) : WS F pc lv (.ref q :: st) S cs ss := ws_getI C d hf rfl hU.1 (hU.2.1 ▸ kk)
theorem wx_up1 (C : Cx F cc own dF cF sF) {q k c r : Nat} {x : Int32} {idx : Nat} (hU : UPf S q k x c r) (d : At cc pc (.getfield idx) 3 pc') (hf : FLs own idx 161) (kk : WS F pc' lv (.int x :: st) S cs ss) : WS F pc lv (.ref q :: st) S cs ss := ws_getI C d hf rfl hU.1 (hU.2.2.1 ▸ kk)
theorem wx_up2 (C : Cx F cc own dF cF sF) {q k c r : Nat} {x : Int32} {idx : Nat} (hU : UPf S q k x c r) (d : At cc pc (.getfield idx) 3 pc') (hf : FLs own idx 162) (kk : WS F pc' lv (.int (nI c) :: st) S cs ss) : WS F pc lv (.ref q :: st) S cs ss := ws_getI C d hf rfl hU.1 (hU.2.2.2.1 ▸ kk)
theorem wx_up3 (C : Cx F cc own dF cF sF) {q k c r : Nat} {x : Int32} {idx : Nat} (hU : UPf S q k x c r) (d : At cc pc (.getfield idx) 3 pc') (hf : FLs own idx 163) (kk : WS F pc' lv (.int (nI r) :: st) S cs ss) : WS F pc lv (.ref q :: st) S cs ss := ws_getI C d hf rfl hU.1 (hU.2.2.2.2 ▸ kk)
/-- fields of a message -/
theorem wx_msI (C : Cx F cc own dF cF sF) {q idx f : Nat} {x : Int32} (d : At cc pc (.getfield idx) 3 pc') (hf : FLs own idx f) (h7 : f / 32 = 7) (hr : rfk f = false) (hk : sK S q = 7) (hx : sI S f q = x) (kk : WS F pc' lv (.int x :: st) S cs ss) : WS F pc lv (.ref q :: st) S cs ss := ws_getI C d hf hr (hk.trans h7.symm) (hx ▸ kk)
end ROWS
