/-! answers of contracts; calls by the kind of answer -/
def Pi (r : Int32) (P : Sto → Prop) : Option Value → Sto → Prop := fun v S' => v = some (.int r) ∧ P S'
def Pv (P : Sto → Prop) : Option Value → Sto → Prop := fun v S' => v = none ∧ P S'
def Pr (x : Option Nat) (P : Sto → Prop) : Option Value → Sto → Prop := fun v S' => v = some (va_rf x) ∧ P S'
theorem inc1 (x : Nat) : nI x + Int32.ofInt 1 = nI (x + 1) := (nI_succ x).symm
theorem dec1 {x : Nat} (h : 0 < x) : nI x + Int32.ofInt (-1) = nI (x - 1) := by
  obtain ⟨y, rfl⟩ : ∃ y, x = y + 1 := ⟨x - 1, by omega⟩
  have e : Int32.ofInt (-1) = -1 := by decide
  rw [e, Nat.add_sub_cancel, nI_succ, Int32.add_assoc]
  have : (1 : Int32) + -1 = 0 := by decide
  rw [this, Int32.add_zero]
theorem okl {G : GS} (h : OK G) (j i : Nat) : G.1 j i < 2 ^ 31 := by
  have h1 := h j i
  have h2 : mbd j ≤ 1399 := by
    unfold mbd
    split <;> decide
  omega
section ROWS
variable {F : Fx} {cc : ByteArray} {own : String} {pc pc' tgt : Nat} {lv : List (Option Value)} {st : List Value} {S : Sto} {cs ss : Nat} {dF cF sF : Nat} {mi : MI} {mc ms : Nat} {P : Sto → Prop}
theorem ws_callVi (C : Cx F cc own dF cF sF) {idx kd n b : Nat} {As rest : List Value} {r : Int32} (hw0 : cV own idx kd mi n) (hM : CT F.1 mi mc ms (.ref b :: As) S (Pi r P)) (d : At cc pc (.invokevirtual idx) 3 pc') (hst : st = As.reverse ++ .ref b :: rest) (hn : As.length = n) (hb : sK S b = kd) (hroom : (rest.map fun v => v.category).sum ≤ 8) (hd : mi.2.2.2.2 < dF) (hc : cs + mc ≤ cF) (hs : ss + ms ≤ sF)
    (k : ∀ S' : Sto, P S' → WS F pc' lv (.int r :: rest) S' (cs + mc) (ss + ms)) : WS F pc lv st S cs ss :=
  ws_callV C hw0 hM d hst hn hb hroom hd hc hs (fun v S' h => by obtain ⟨rfl, h⟩ := h; exact k S' h)
theorem ws_callVv (C : Cx F cc own dF cF sF) {idx kd n b : Nat} {As rest : List Value} (hw0 : cV own idx kd mi n) (hM : CT F.1 mi mc ms (.ref b :: As) S (Pv P)) (d : At cc pc (.invokevirtual idx) 3 pc') (hst : st = As.reverse ++ .ref b :: rest) (hn : As.length = n) (hb : sK S b = kd) (hroom : (rest.map fun v => v.category).sum ≤ 8) (hd : mi.2.2.2.2 < dF) (hc : cs + mc ≤ cF) (hs : ss + ms ≤ sF)
    (k : ∀ S' : Sto, P S' → WS F pc' lv rest S' (cs + mc) (ss + ms)) : WS F pc lv st S cs ss :=
  ws_callV C hw0 hM d hst hn hb hroom hd hc hs (fun v S' h => by obtain ⟨rfl, h⟩ := h; exact k S' h)
theorem ws_callVr (C : Cx F cc own dF cF sF) {idx kd n b : Nat} {As rest : List Value} {x : Option Nat} (hw0 : cV own idx kd mi n) (hM : CT F.1 mi mc ms (.ref b :: As) S (Pr x P)) (d : At cc pc (.invokevirtual idx) 3 pc') (hst : st = As.reverse ++ .ref b :: rest) (hn : As.length = n) (hb : sK S b = kd) (hroom : (rest.map fun v => v.category).sum ≤ 8) (hd : mi.2.2.2.2 < dF) (hc : cs + mc ≤ cF) (hs : ss + ms ≤ sF)
    (k : ∀ S' : Sto, P S' → WS F pc' lv (va_rf x :: rest) S' (cs + mc) (ss + ms)) : WS F pc lv st S cs ss :=
  ws_callV C hw0 hM d hst hn hb hroom hd hc hs (fun v S' h => by obtain ⟨rfl, h⟩ := h; exact k S' h)
theorem ws_callSi (C : Cx F cc own dF cF sF) {idx n : Nat} {As rest : List Value} {r : Int32} (hw0 : cS own idx mi n) (hM : CT F.1 mi mc ms As S (Pi r P)) (d : At cc pc (.invokestatic idx) 3 pc') (hst : st = As.reverse ++ rest) (hn : As.length = n) (hroom : (rest.map fun v => v.category).sum ≤ 8) (hd : mi.2.2.2.2 < dF) (hc : cs + mc ≤ cF) (hs : ss + ms ≤ sF)
    (k : ∀ S' : Sto, P S' → WS F pc' lv (.int r :: rest) S' (cs + mc) (ss + ms)) : WS F pc lv st S cs ss :=
  ws_callS C hw0 hM d hst hn hroom hd hc hs (fun v S' h => by obtain ⟨rfl, h⟩ := h; exact k S' h)
theorem ws_callSv (C : Cx F cc own dF cF sF) {idx n : Nat} {As rest : List Value} (hw0 : cS own idx mi n) (hM : CT F.1 mi mc ms As S (Pv P)) (d : At cc pc (.invokestatic idx) 3 pc') (hst : st = As.reverse ++ rest) (hn : As.length = n) (hroom : (rest.map fun v => v.category).sum ≤ 8) (hd : mi.2.2.2.2 < dF) (hc : cs + mc ≤ cF) (hs : ss + ms ≤ sF)
    (k : ∀ S' : Sto, P S' → WS F pc' lv rest S' (cs + mc) (ss + ms)) : WS F pc lv st S cs ss :=
  ws_callS C hw0 hM d hst hn hroom hd hc hs (fun v S' h => by obtain ⟨rfl, h⟩ := h; exact k S' h)
theorem ws_callSr (C : Cx F cc own dF cF sF) {idx n : Nat} {As rest : List Value} {x : Option Nat} (hw0 : cS own idx mi n) (hM : CT F.1 mi mc ms As S (Pr x P)) (d : At cc pc (.invokestatic idx) 3 pc') (hst : st = As.reverse ++ rest) (hn : As.length = n) (hroom : (rest.map fun v => v.category).sum ≤ 8) (hd : mi.2.2.2.2 < dF) (hc : cs + mc ≤ cF) (hs : ss + ms ≤ sF)
    (k : ∀ S' : Sto, P S' → WS F pc' lv (va_rf x :: rest) S' (cs + mc) (ss + ms)) : WS F pc lv st S cs ss :=
  ws_callS C hw0 hM d hst hn hroom hd hc hs (fun v S' h => by obtain ⟨rfl, h⟩ := h; exact k S' h)
theorem ws_callIv (C : Cx F cc own dF cF sF) {idx n b : Nat} {As rest : List Value} (hw0 : cI own idx mi n) (hM : CT F.1 mi mc ms (.ref b :: As) S (Pv P)) (d : At cc pc (.invokespecial idx) 3 pc') (hst : st = As.reverse ++ .ref b :: rest) (hn : As.length = n) (hroom : (rest.map fun v => v.category).sum ≤ 8) (hd : mi.2.2.2.2 < dF) (hc : cs + mc ≤ cF) (hs : ss + ms ≤ sF)
    (k : ∀ S' : Sto, P S' → WS F pc' lv rest S' (cs + mc) (ss + ms)) : WS F pc lv st S cs ss :=
  ws_callI C hw0 hM d hst hn hroom hd hc hs (fun v S' h => by obtain ⟨rfl, h⟩ := h; exact k S' h)
end ROWS
