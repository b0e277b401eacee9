/-! the state of the store of numbers, as the reference holds it; what each of its methods does to it.
    fields (by number): 0 made, 1 living, 2 ready, 3 view, 4 length, 5 settled, 6 silent, 7 members, 8 newest, 9 keys, 10 values, 11 writers, 12 numbers, 13 status, 14 writes, 15 key, 16 value, 17 at, 18 number, 19 result, 20 count, 21 from, 22 to, 23 kind, 24 epochs, 25 one, 26 two;
    of the class alone: 27 clock, 28 stoppedAt, 29 waitsAt. 10, 16, 19, 29 lie in the second part. -/
abbrev GS : Type := (Nat → Nat → Nat) × (Nat → Nat → Int32)
def gN (G : GS) (j i v : Nat) : GS := (up2 G.1 j i v, G.2)
def gV (G : GS) (j i : Nat) (v : Int32) : GS := (G.1, up2 G.2 j i v)
theorem gN_1 (G : GS) (j i v j' i' : Nat) : (gN G j i v).1 j' i' = if j' = j ∧ i' = i then v else G.1 j' i' := rfl
theorem gN_2 (G : GS) (j i v : Nat) : (gN G j i v).2 = G.2 := rfl
theorem gV_1 (G : GS) (j i : Nat) (v : Int32) : (gV G j i v).1 = G.1 := rfl
theorem gV_2 (G : GS) (j i : Nat) (v : Int32) (j' i' : Nat) : (gV G j i v).2 j' i' = if j' = j ∧ i' = i then v else G.2 j' i' := rfl
def oI (o : Option Nat) : Int32 := match o with
  | some n => nI n
  | none => -1
def isIn (G : GS) (e w : Nat) : Bool := (G.1 7 e).testBit w
/-- the greatest member below n -/
def prdF (G : GS) (e : Nat) : Nat → Option Nat
  | 0 => none
  | w + 1 => if isIn G e w = true then some w else prdF G e w
/-- the least member from 6 - n on -/
def sucF (G : GS) (e : Nat) : Nat → Option Nat
  | 0 => none
  | n + 1 => if isIn G e (5 - n) = true then some (5 - n) else sucF G e n
def prd (G : GS) (v : Nat) : Option Nat := prdF G (G.1 3 v) v
def suc (G : GS) (v : Nat) : Option Nat := sucF G (G.1 3 v) (5 - v)
def tlo (G : GS) (e : Nat) : Option Nat := prdF G e 6
/-- keys of the log from i on, n of them: none is k -/
def clF (G : GS) (v k : Nat) : Nat → Nat → Bool
  | 0, _ => true
  | n + 1, i => if G.1 9 (128 * v + i) = k then false else clF G v k n (i + 1)
def isCl (G : GS) (v k : Nat) : Bool := clF G v k (G.1 4 v - G.1 5 v) (G.1 5 v + 1)
def cnF (G : GS) (v k : Nat) : Nat → Nat
  | 0 => 0
  | i + 1 => if G.1 9 (128 * v + (i + 1)) = k then i + 1 else cnF G v k i
def clN (G : GS) (v k : Nat) : Nat := cnF G v k (G.1 5 v)
def valAt (G : GS) (v i : Nat) : Int32 := if i = 0 then 0 else G.2 10 (128 * v + i)
def pushM (G : GS) (v w k e a b : Nat) : GS := gN (gN (gN (gN (gN (gN (gN G 21 (G.1 20 0) v) 22 (G.1 20 0) w) 23 (G.1 20 0) k) 24 (G.1 20 0) e) 25 (G.1 20 0) a) 26 (G.1 20 0) b) 20 0 (G.1 20 0 + 1)
def snd (G : GS) (v : Nat) (w : Option Nat) (k a b : Nat) : GS := match w with
  | none => G
  | some w => if G.1 1 w = 0 ∨ G.1 3 v < G.1 3 w then G else pushM G v w k (G.1 3 v) a b
/-- the first message on a link, among the last n -/
def frF (G : GS) (v w : Nat) : Nat → Option Nat
  | 0 => none
  | n + 1 => if G.1 21 (G.1 20 0 - (n + 1)) = v ∧ G.1 22 (G.1 20 0 - (n + 1)) = w then some (G.1 20 0 - (n + 1)) else frF G v w n
def frs (G : GS) (v w : Nat) : Option Nat := frF G v w (G.1 20 0)
/-- message m struck; the shift done up to k -/
def stkT (G : GS) (m k : Nat) : GS := (fun j i => if 21 ≤ j ∧ j ≤ 26 ∧ m ≤ i ∧ i < k then G.1 j (i + 1) else if j = 20 ∧ i = 0 then G.1 20 0 - 1 else G.1 j i, G.2)
def stk (G : GS) (m : Nat) : GS := stkT G m (G.1 20 0 - 1)
def losF (w e : Nat) : Nat → GS → GS
  | 0, G => G
  | m + 1, G => if G.1 22 m = w ∧ G.1 24 m < e then losF w e m (stk G m) else losF w e m G
def los (G : GS) (w e : Nat) : GS := losF w e (G.1 20 0) G
def fin1 (G : GS) (v i : Nat) : GS := if G.1 13 (G.1 11 (128 * v + i)) = 1 ∧ G.1 12 (128 * v + i) = G.1 14 (G.1 11 (128 * v + i)) then gV (gN (gN G 13 (G.1 11 (128 * v + i)) 2) 18 (G.1 11 (128 * v + i)) i) 19 (G.1 11 (128 * v + i)) (G.2 10 (128 * v + i)) else G
def stlF (v : Nat) : Nat → Nat → GS → GS
  | 0, _, G => G
  | n + 1, i, G => stlF v n (i + 1) (fin1 G v i)
def stl (G : GS) (v : Nat) : GS := gN (stlF v (G.1 4 v - G.1 5 v) (G.1 5 v + 1) G) 5 v (G.1 4 v)
def hol (G : GS) (v k : Nat) (x : Int32) (c r : Nat) : GS := gN (gN (gV (gN (gN G 4 v (G.1 4 v + 1)) 9 (128 * v + (G.1 4 v + 1)) k) 10 (128 * v + (G.1 4 v + 1)) x) 11 (128 * v + (G.1 4 v + 1)) c) 12 (128 * v + (G.1 4 v + 1)) r
/-- word to the neighbour behind a taken update -/
def tol (G : GS) (v : Nat) : GS := if suc G v = none then snd (stl G v) v (prd G v) 2 (G.1 4 v) 0 else snd G v (suc G v) 1 (G.1 4 v) 0
def tak (G : GS) (v k : Nat) (x : Int32) (c r : Nat) : GS := tol (hol G v k x c r) v
def takF (G : GS) (v u i : Nat) : GS := tak G v (G.1 9 (128 * u + i)) (G.2 10 (128 * u + i)) (G.1 11 (128 * u + i)) (G.1 12 (128 * u + i))
def don (G : GS) (c v i : Nat) : GS := gV (gN (gN G 13 c 4) 18 c i) 19 c (valAt G v i)
def srv (G : GS) (c v : Nat) : Nat × GS := if isCl G v (G.1 15 c) = true then (5, don (gN G 17 c v) c v (clN G v (G.1 15 c))) else (6, snd (gV (gN G 17 c v) 29 c (nI v)) v (tlo G (G.1 3 v)) 3 (G.1 15 c) c)
/-- the head that takes writes: the least member of the newest configuration -/
def hdF (G : GS) (e : Nat) : Nat → Nat
  | 0 => 5
  | n + 1 => if isIn G e (4 - n) = true then 4 - n else hdF G e n
def hdo (G : GS) : Nat := hdF G (G.1 8 0) 5
/-- the number of a client's write in the log from i on, n of them -/
def fwF (G : GS) (h c : Nat) : Nat → Nat → Option Nat
  | 0, _ => none
  | n + 1, i => if G.1 11 (128 * h + i) = c ∧ G.1 12 (128 * h + i) = G.1 14 c then some i else fwF G h c n (i + 1)
def swr (G : GS) (c : Nat) : Nat × GS :=
  if G.1 1 (hdo G) = 0 ∨ prd G (hdo G) ≠ none then (0, G) else match fwF G (hdo G) c (G.1 4 (hdo G)) 1 with
  | some i => (if i ≤ G.1 5 (hdo G) then 4 else 3, G)
  | none => if 8 ≤ G.1 4 (hdo G) - G.1 5 (hdo G) ∨ 100 ≤ G.1 4 (hdo G) then (1, G) else (2, tak G (hdo G) (G.1 15 c) (G.2 16 c) c (G.1 14 c))
/-- a copy's updates taken, n of them from i on -/
def cpF (v u : Nat) : Nat → Nat → GS → GS
  | 0, _, G => G
  | n + 1, i, G => cpF v u n (i + 1) (takF G v u i)
def ans (G : GS) (w i c : Nat) : GS := don G c w (if G.1 5 w < i ∧ i ≤ G.1 4 w ∧ G.1 9 (128 * w + i) = G.1 15 c then i else clN G w (G.1 15 c))
def act (G : GS) (w v k a b : Nat) : GS :=
  if k = 1 then takF G w v a
  else if k = 2 then (if G.1 5 w < a then snd (gN G 5 w a) w (prd G w) 2 a 0 else G)
  else if k = 3 then snd G w (some v) 4 (clN G w a) b
  else if k = 4 then ans G w a b
  else cpF w v (a - G.1 4 w) (G.1 4 w + 1) G
/-- word to the neighbours of a node whose place in the chain is new to it -/
def tel (G : GS) (w : Nat) : GS := if suc G w = none then snd (stl G w) w (prd G w) 2 (G.1 4 w) 0 else snd (snd G w (suc G w) 5 (G.1 4 w) (G.1 5 w)) w (prd G w) 2 (G.1 5 w) 0
/-- the log of u copied to w, i of a done -/
def cp1 (G : GS) (w u i : Nat) : GS := gN (gN (gV (gN G 9 (128 * w + i) (G.1 9 (128 * u + i))) 10 (128 * w + i) (G.2 10 (128 * u + i))) 11 (128 * w + i) (G.1 11 (128 * u + i))) 12 (128 * w + i) (G.1 12 (128 * u + i))
def cpL (w u : Nat) : Nat → Nat → GS → GS
  | 0, _, G => G
  | n + 1, i, G => cpL w u n (i + 1) (cp1 G w u i)
def arv (G : GS) (w u a b : Nat) : GS := tel (gN (gN (gN (cpL w u a 1 G) 4 w a) 5 w b) 2 w 1) w
-- the calls
def inN (x : Int32) (n : Nat) : Bool := decide (¬ x < 0 ∧ ¬ nI n < x)
def ix (x : Int32) : Nat := x.toNatClampNeg
def svs (G : GS) (x : Int32) : Bool := inN x 5 && (G.1 1 (ix x) == 1 && G.1 2 (ix x) == 1)
def m1 : Int32 := -1
def putF (G : GS) (c k x : Int32) : Int32 × GS :=
  if (inN c 2 && inN k 3) = true then (if G.1 13 (ix c) % 2 = 1 then (-2, G) else
    let r := swr (gV (gN (gN (gN G 13 (ix c) 1) 14 (ix c) (G.1 14 (ix c) + 1)) 15 (ix c) (ix k)) 16 (ix c) x) (ix c)
    (nI r.1, r.2)) else (-1, G)
def getF (G : GS) (c v k : Int32) : Int32 × GS :=
  if (inN c 2 && (inN k 3 && inN v 5)) = true then (if G.1 13 (ix c) % 2 = 1 then (-2, G) else if svs G v = true then
    let r := srv (gV (gN (gN G 13 (ix c) 3) 15 (ix c) (ix k)) 29 (ix c) (-1)) (ix c) (ix v)
    (nI r.1, r.2) else (0, G)) else (-1, G)
def rtyF (G : GS) (c v : Int32) : Int32 × GS :=
  if inN c 2 = true then (if G.1 13 (ix c) = 0 ∨ G.1 13 (ix c) = 4 then (-3, G) else if G.1 13 (ix c) < 3 then (nI (swr G (ix c)).1, (swr G (ix c)).2)
    else if G.1 1 (G.1 17 (ix c)) = 1 then (-2, G) else if inN v 5 = true then (if svs G v = true then (nI (srv G (ix c) (ix v)).1, (srv G (ix c) (ix v)).2) else (0, G)) else (-1, G)) else (-1, G)
def staF (G : GS) (c : Int32) : Int32 := if inN c 2 = true then nI (G.1 13 (ix c)) else -1
def dnB (G : GS) (c : Int32) : Bool := inN c 2 && (G.1 13 (ix c) == 2 || G.1 13 (ix c) == 4)
def numF (G : GS) (c : Int32) : Int32 := if dnB G c = true then nI (G.1 18 (ix c)) else -1
def valF (G : GS) (c : Int32) : Int32 := if dnB G c = true then G.2 19 (ix c) else 0
def dlvN (G : GS) (v w : Nat) : Int32 × GS := match frs G v w with
  | none => (0, G)
  | some m => if G.1 3 w < G.1 24 m ∨ (G.1 24 m = G.1 3 w ∧ G.1 2 w = 0 ∧ G.1 23 m ≠ 5) then (-2, G)
    else (nI (G.1 23 m), if G.1 24 m = G.1 3 w then (if G.1 2 w = 1 then act (stk G m) w v (G.1 23 m) (G.1 25 m) (G.1 26 m) else arv (stk G m) w v (G.1 25 m) (G.1 26 m)) else stk G m)
def dlvF (G : GS) (v w : Int32) : Int32 × GS := if (inN v 5 && inN w 5) = true then dlvN G (ix v) (ix w) else (-1, G)
def wtN (G : GS) (v w : Nat) : Nat → Nat
  | 0 => 0
  | m + 1 => if G.1 21 m = v ∧ G.1 22 m = w then wtN G v w m + 1 else wtN G v w m
def wtF (G : GS) (v w : Int32) : Int32 := if (inN v 5 && inN w 5) = true then nI (wtN G (ix v) (ix w) (G.1 20 0)) else -1
/-- some node below n but v serves -/
def otN (G : GS) (v : Nat) : Nat → Bool
  | 0 => false
  | w + 1 => otN G v w || (decide (¬ w = v) && (G.1 1 w == 1 && G.1 2 w == 1))
def stpF (G : GS) (v : Int32) : Bool × GS :=
  if (inN v 5 && G.1 1 (ix v) == 1) = true then (if otN G (ix v) 6 = true then (true, los (gN (gN G 1 (ix v) 0) 28 (ix v) (G.1 27 0)) (ix v) (G.1 8 0 + 1)) else (false, G)) else (false, G)
def jnF (G : GS) : Int32 × GS := if G.1 0 0 = 6 then (-1, G) else (nI (G.1 0 0), gN (gN (gN (gN (gN G 0 0 (G.1 0 0 + 1)) 8 0 (G.1 8 0 + 1)) 7 (G.1 8 0 + 1) (G.1 7 (G.1 8 0) ||| 1 <<< G.1 0 0)) 1 (G.1 0 0) 1) 3 (G.1 0 0) (G.1 8 0 + 1))
/-- one more tick of silence for stopped members below n, and those that are gone -/
def tcS : Nat → GS → GS
  | 0, G => G
  | w + 1, G => if isIn (tcS w G) ((tcS w G).1 8 0) w = true ∧ (tcS w G).1 1 w = 0 then gN (tcS w G) 6 w ((tcS w G).1 6 w + 1) else tcS w G
def tcG (G : GS) : Nat → Nat
  | 0 => 0
  | w + 1 => if isIn G (G.1 8 0) w = true ∧ G.1 1 w = 0 ∧ 3 ≤ G.1 6 w + 1 then tcG G w ||| 1 <<< w else tcG G w
def tckF (G : GS) : Int32 × GS :=
  let G1 := gN (tcS 6 G) 27 0 (G.1 27 0 + 1)
  if tcG G 6 = 0 then (nI (G.1 8 0), G1) else (nI (G.1 8 0 + 1), gN (gN G1 8 0 (G.1 8 0 + 1)) 7 (G.1 8 0 + 1) (G.1 7 (G.1 8 0) &&& (63 - tcG G 6)))
/-- the reads that wait at v, clients below n done -/
def svR (v : Nat) : Nat → Nat → GS → GS
  | 0, _, G => G
  | n + 1, c, G => svR v n (c + 1) (if G.1 13 c = 3 ∧ G.1 17 c = v then (srv G c v).2 else G)
def adpF (G : GS) (v : Int32) : Bool × GS :=
  if (inN v 5 && (G.1 1 (ix v) == 1 && !(G.1 3 (ix v) == G.1 8 0))) = true then
    let G1 := los (gN G 3 (ix v) (G.1 8 0)) (ix v) (G.1 8 0)
    (true, if G.1 2 (ix v) = 1 then svR (ix v) 3 0 (tel G1 (ix v)) else G1) else (false, G)
/-- the k-th member from 6 - n on -/
def mbN (G : GS) (e : Nat) : Nat → Nat → Option Nat
  | 0, _ => none
  | n + 1, k => if isIn G e (5 - n) = true then (if k = 0 then some (5 - n) else mbN G e n (k - 1)) else mbN G e n k
def mbF (G : GS) (k : Int32) : Int32 := if k < 0 then -1 else oI (mbN G (G.1 8 0) 6 (ix k))
def epF (G : GS) (v : Int32) : Int32 := if (inN v 5 && G.1 1 (ix v) == 1) = true then nI (G.1 3 (ix v)) else -1
def lnF (G : GS) (v : Int32) : Int32 := if svs G v = true then nI (G.1 4 (ix v)) else -1
def stF (G : GS) (v : Int32) : Int32 := if svs G v = true then nI (G.1 5 (ix v)) else -1
/-- the version that stands 'left' places ahead, from i on, n of them; r so far -/
def vrN (G : GS) (v k : Nat) : Nat → Nat → Nat → Nat → Nat
  | 0, _, _, r => r
  | n + 1, i, left, r => if left = 0 then r else if G.1 9 (128 * v + i) = k then vrN G v k n (i + 1) (left - 1) i else vrN G v k n (i + 1) left r
def vrB (G : GS) (v k a : Int32) : Bool := svs G v && (inN k 3 && decide (¬ a < 0))
def vrX (G : GS) (v k a : Int32) : Nat := vrN G (ix v) (ix k) (G.1 4 (ix v) - G.1 5 (ix v)) (G.1 5 (ix v) + 1) (ix a) (clN G (ix v) (ix k))
def vrF (G : GS) (v k a : Int32) : Int32 := if vrB G v k a = true then nI (vrX G v k a) else -1
def lkF (G : GS) (v k a : Int32) : Int32 := if vrB G v k a = true then valAt G (ix v) (vrX G v k a) else 0
/-- bounds of the fields -/
def mbd : Nat → Nat
  | 0 => 6
  | 1 => 1
  | 2 => 1
  | 3 => 12
  | 4 => 100
  | 5 => 100
  | 6 => 600
  | 7 => 63
  | 8 => 12
  | 9 => 3
  | 11 => 2
  | 12 => 600
  | 13 => 4
  | 14 => 600
  | 15 => 3
  | 17 => 5
  | 18 => 100
  | 20 => 1399
  | 21 => 5
  | 22 => 5
  | 23 => 5
  | 24 => 12
  | 25 => 100
  | 26 => 100
  | _ => 600
def OK (G : GS) : Prop := ∀ j i, G.1 j i ≤ mbd j
theorem ok_gN {G : GS} {j i v : Nat} (h : OK G) (hv : v ≤ mbd j) : OK (gN G j i v) := by
  intro j' i'
  rw [gN_1]
  split
  · rename_i hh
    rw [hh.1]
    exact hv
  · exact h j' i'
theorem ok_gV {G : GS} {j i : Nat} {v : Int32} (h : OK G) : OK (gV G j i v) := h
-- the reference's cells
def arj (j : Nat) : Bool := decide (j < 27) && !(j == 0) && !(j == 8) && !(j == 20)
def akd (j : Nat) : Nat := if j = 1 ∨ j = 2 then 10 else 9
def msz (j : Nat) : Nat := if j < 7 then 6 else if j = 7 then 14 else if j < 13 then 768 else if j < 20 then 3 else 1400
def mv (G : GS) (j i : Nat) : Int32 := if j = 10 ∨ j = 16 ∨ j = 19 then G.2 j i else nI (G.1 j i)
def MR (o : Nat) (ad : Nat → Nat) (G : GS) (S : Sto) : Prop := sK S o = 8 ∧ (∀ j, arj j = true → sP S (256 + j) o = some (ad j) ∧ sK S (ad j) = akd j ∧ sZ S (ad j) = msz j) ∧ (∀ j j', arj j = true → arj j' = true → ad j = ad j' → j = j') ∧ (sI S 256 o = nI (G.1 0 0) ∧ sI S 264 o = nI (G.1 8 0) ∧ sI S 276 o = nI (G.1 20 0)) ∧ ∀ j i, arj j = true → i < msz j → sE S (akd j) (ad j) i = mv G j i
theorem MR.same {o : Nat} {ad : Nat → Nat} {G G' : GS} {S : Sto} (h : MR o ad G S) (h1 : ∀ j, j < 27 → G'.1 j = G.1 j) (h2 : ∀ j, j < 27 → G'.2 j = G.2 j) : MR o ad G' S := by
  refine ⟨h.1, h.2.1, h.2.2.1, ?_, fun j i hj hi => ?_⟩
  · rw [h1 0 (by decide), h1 8 (by decide), h1 20 (by decide)]; exact h.2.2.2.1
  · have hj' : j < 27 := by
      simp only [arj, Bool.and_eq_true, decide_eq_true_eq] at hj
      exact hj.1.1.1
    rw [h.2.2.2.2 j i hj hi]
    unfold mv
    rw [h1 j hj', h2 j hj']
theorem MR.setN {o : Nat} {ad : Nat → Nat} {G : GS} {S : Sto} {j i v : Nat} (h : MR o ad G S) (hj : arj j = true) (hv : ¬ (j = 10 ∨ j = 16 ∨ j = 19)) : MR o ad (gN G j i v) (setE S (akd j) (ad j) i (nI v)) := by
  have n0 : ¬ (0 = j ∧ 0 = i) := fun z => by rw [← z.1] at hj; cases hj
  have n8 : ¬ (8 = j ∧ 0 = i) := fun z => by rw [← z.1] at hj; cases hj
  have n20 : ¬ (20 = j ∧ 0 = i) := fun z => by rw [← z.1] at hj; cases hj
  refine ⟨h.1, h.2.1, h.2.2.1, ?_, fun j' i' hj' hi' => ?_⟩
  · rw [gN_1, gN_1, gN_1, if_neg n0, if_neg n8, if_neg n20]; exact h.2.2.2.1
  · by_cases hjj : j' = j
    · subst hjj
      by_cases hii : i' = i
      · subst hii
        simp [setE, sE, up3, mv, hv, gN_1]
      · have := h.2.2.2.2 j' i' hj' hi'
        simp only [mv, if_neg hv] at this
        simp [setE, sE, up3, mv, hv, gN_1, hii]
        exact this
    · have hne : ad j' ≠ ad j := fun z => hjj (h.2.2.1 j' j hj' hj z)
      have := h.2.2.2.2 j' i' hj' hi'
      simp only [setE, sE, up3, hne, hjj, mv, gN_1, gN_2, false_and, and_false, if_false] at this ⊢
      exact this
theorem MR.setV {o : Nat} {ad : Nat → Nat} {G : GS} {S : Sto} {j i : Nat} {v : Int32} (h : MR o ad G S) (hj : arj j = true) (hv : j = 10 ∨ j = 16 ∨ j = 19) : MR o ad (gV G j i v) (setE S (akd j) (ad j) i v) := by
  refine ⟨h.1, h.2.1, h.2.2.1, h.2.2.2.1, fun j' i' hj' hi' => ?_⟩
  by_cases hjj : j' = j
  · subst hjj
    by_cases hii : i' = i
    · subst hii
      simp [setE, sE, up3, mv, hv, gV_2]
    · have := h.2.2.2.2 j' i' hj' hi'
      simp only [mv, if_pos hv] at this
      simp [setE, sE, up3, mv, hv, gV_2, hii]
      exact this
  · have hne : ad j' ≠ ad j := fun z => hjj (h.2.2.1 j' j hj' hj z)
    have := h.2.2.2.2 j' i' hj' hi'
    simp only [setE, sE, up3, hne, hjj, mv, gV_1, gV_2, false_and, and_false, if_false] at this ⊢
    exact this
theorem MR.setS {o : Nat} {ad : Nat → Nat} {G : GS} {S : Sto} {j v : Nat} (h : MR o ad G S) (hj : j = 0 ∨ j = 8 ∨ j = 20) : MR o ad (gN G j 0 v) (setI S (256 + j) o (nI v)) := by
  refine ⟨h.1, h.2.1, h.2.2.1, ?_, fun j' i' hj' hi' => ?_⟩
  · have hh := h.2.2.2.1
    rcases hj with rfl | rfl | rfl <;> simp [setI, sI, up2, gN_1] <;> simp [sI] at hh <;> simp [hh]
  · have hne : ¬ (j' = j ∧ i' = 0) := fun z => by
      rw [z.1] at hj'
      rcases hj with rfl | rfl | rfl <;> cases hj'
    have := h.2.2.2.2 j' i' hj' hi'
    simp only [mv, gN_1, gN_2, if_neg hne] at this ⊢
    exact this
section ROWS
variable {F : Fx} {cc : ByteArray} {own : String} {pc pc' tgt : Nat} {lv : List (Option Value)} {st : List Value} {S : Sto} {cs ss : Nat} {dF cF sF : Nat} {o : Nat} {ad : Nat → Nat} {G : GS}
theorem wm_arr (C : Cx F cc own dF cF sF) (hR : MR o ad G S) (j : Nat) {idx : Nat} (d : At cc pc (.getfield idx) 3 pc') (h : FLs own idx (256 + j)) (hj : arj j = true) (hr : rfk (256 + j) = true) (h8 : (256 + j) / 32 = 8) (k : WS F pc' lv (.ref (ad j) :: st) S cs ss) : WS F pc lv (.ref o :: st) S cs ss :=
  ws_getP C d h hr (hR.1.trans h8.symm) (hR.2.1 j hj).1 k
theorem wm_0 (C : Cx F cc own dF cF sF) (hR : MR o ad G S) {idx : Nat} (d : At cc pc (.getfield idx) 3 pc') (h : FLs own idx 256) (k : WS F pc' lv (.int (nI (G.1 0 0)) :: st) S cs ss) : WS F pc lv (.ref o :: st) S cs ss :=
  ws_getI C d h rfl hR.1 (hR.2.2.2.1.1 ▸ k)
theorem wm_8 (C : Cx F cc own dF cF sF) (hR : MR o ad G S) {idx : Nat} (d : At cc pc (.getfield idx) 3 pc') (h : FLs own idx 264) (k : WS F pc' lv (.int (nI (G.1 8 0)) :: st) S cs ss) : WS F pc lv (.ref o :: st) S cs ss :=
  ws_getI C d h rfl hR.1 (hR.2.2.2.1.2.1 ▸ k)
theorem wm_20 (C : Cx F cc own dF cF sF) (hR : MR o ad G S) {idx : Nat} (d : At cc pc (.getfield idx) 3 pc') (h : FLs own idx 276) (k : WS F pc' lv (.int (nI (G.1 20 0)) :: st) S cs ss) : WS F pc lv (.ref o :: st) S cs ss :=
  ws_getI C d h rfl hR.1 (hR.2.2.2.1.2.2 ▸ k)
theorem msz_lt (j : Nat) : msz j < 2 ^ 31 := by
  unfold msz
  split
  · decide
  · split
    · decide
    · split
      · decide
      · split <;> decide
theorem wm_ald (C : Cx F cc own dF cF sF) (hR : MR o ad G S) (j : Nat) {i : Nat} (d : At cc pc .iaload 1 pc') (hj : arj j = true) (hk : akd j = 9) (hi : i < msz j) (k : WS F pc' lv (.int (mv G j i) :: st) S cs ss) : WS F pc lv (.int (nI i) :: .ref (ad j) :: st) S cs ss := by
  obtain ⟨-, h2, h3⟩ := hR.2.1 j hj
  have e := hR.2.2.2.2 j i hj hi
  rw [hk] at e h2
  exact ws_iald C d h2 (by rw [h3]; exact hi) (by rw [h3]; exact msz_lt j) (e ▸ k)
theorem wm_zld (C : Cx F cc own dF cF sF) (hR : MR o ad G S) (j : Nat) {i : Nat} (d : At cc pc .baload 1 pc') (hj : arj j = true) (hk : akd j = 10) (hi : i < msz j) (k : WS F pc' lv (.int (mv G j i) :: st) S cs ss) : WS F pc lv (.int (nI i) :: .ref (ad j) :: st) S cs ss := by
  obtain ⟨-, h2, h3⟩ := hR.2.1 j hj
  have e := hR.2.2.2.2 j i hj hi
  rw [hk] at e h2
  exact ws_zald C d h2 (by rw [h3]; exact hi) (by rw [h3]; exact msz_lt j) (e ▸ k)
theorem wm_aldN (C : Cx F cc own dF cF sF) (hR : MR o ad G S) (j : Nat) {i : Nat} (d : At cc pc .iaload 1 pc') (hj : arj j = true) (hk : akd j = 9) (hv : ¬ (j = 10 ∨ j = 16 ∨ j = 19)) (hi : i < msz j) (k : WS F pc' lv (.int (nI (G.1 j i)) :: st) S cs ss) : WS F pc lv (.int (nI i) :: .ref (ad j) :: st) S cs ss :=
  wm_ald C hR j d hj hk hi (by unfold mv; rw [if_neg hv]; exact k)
theorem wm_aldV (C : Cx F cc own dF cF sF) (hR : MR o ad G S) (j : Nat) {i : Nat} (d : At cc pc .iaload 1 pc') (hj : arj j = true) (hk : akd j = 9) (hv : j = 10 ∨ j = 16 ∨ j = 19) (hi : i < msz j) (k : WS F pc' lv (.int (G.2 j i) :: st) S cs ss) : WS F pc lv (.int (nI i) :: .ref (ad j) :: st) S cs ss :=
  wm_ald C hR j d hj hk hi (by unfold mv; rw [if_pos hv]; exact k)
theorem wm_zldN (C : Cx F cc own dF cF sF) (hR : MR o ad G S) (j : Nat) {i : Nat} (d : At cc pc .baload 1 pc') (hj : arj j = true) (hk : akd j = 10) (hv : ¬ (j = 10 ∨ j = 16 ∨ j = 19)) (hi : i < msz j) (k : WS F pc' lv (.int (nI (G.1 j i)) :: st) S cs ss) : WS F pc lv (.int (nI i) :: .ref (ad j) :: st) S cs ss :=
  wm_zld C hR j d hj hk hi (by unfold mv; rw [if_neg hv]; exact k)
theorem wm_astN (C : Cx F cc own dF cF sF) (hR : MR o ad G S) (j : Nat) {i v : Nat} (d : At cc pc .iastore 1 pc') (hj : arj j = true) (hk : akd j = 9) (hv : ¬ (j = 10 ∨ j = 16 ∨ j = 19)) (hi : i < msz j) (k : ∀ S' : Sto, MR o ad (gN G j i v) S' → WS F pc' lv st S' cs ss) : WS F pc lv (.int (nI v) :: .int (nI i) :: .ref (ad j) :: st) S cs ss := by
  obtain ⟨-, h2, h3⟩ := hR.2.1 j hj
  have e := hR.setN (i := i) (v := v) hj hv
  rw [hk] at e h2
  exact ws_iast C d h2 (by rw [h3]; exact hi) (by rw [h3]; exact msz_lt j) (k _ e)
theorem wm_astV (C : Cx F cc own dF cF sF) (hR : MR o ad G S) (j : Nat) {i : Nat} {v : Int32} (d : At cc pc .iastore 1 pc') (hj : arj j = true) (hk : akd j = 9) (hv : j = 10 ∨ j = 16 ∨ j = 19) (hi : i < msz j) (k : ∀ S' : Sto, MR o ad (gV G j i v) S' → WS F pc' lv st S' cs ss) : WS F pc lv (.int v :: .int (nI i) :: .ref (ad j) :: st) S cs ss := by
  obtain ⟨-, h2, h3⟩ := hR.2.1 j hj
  have e := hR.setV (i := i) (v := v) hj hv
  rw [hk] at e h2
  exact ws_iast C d h2 (by rw [h3]; exact hi) (by rw [h3]; exact msz_lt j) (k _ e)
theorem wm_zst (C : Cx F cc own dF cF sF) (hR : MR o ad G S) (j : Nat) {i v : Nat} (d : At cc pc .bastore 1 pc') (hj : arj j = true) (hk : akd j = 10) (hv : ¬ (j = 10 ∨ j = 16 ∨ j = 19)) (hi : i < msz j) (hx : v = 0 ∨ v = 1) (k : ∀ S' : Sto, MR o ad (gN G j i v) S' → WS F pc' lv st S' cs ss) : WS F pc lv (.int (nI v) :: .int (nI i) :: .ref (ad j) :: st) S cs ss := by
  obtain ⟨-, h2, h3⟩ := hR.2.1 j hj
  have e := hR.setN (i := i) (v := v) hj hv
  rw [hk] at e h2
  exact ws_zast C d (by rcases hx with rfl | rfl <;> decide) h2 (by rw [h3]; exact hi) (by rw [h3]; exact msz_lt j) (k _ e)
theorem wm_put (C : Cx F cc own dF cF sF) (hR : MR o ad G S) (j : Nat) {v idx : Nat} (hj : j = 0 ∨ j = 8 ∨ j = 20) (d : At cc pc (.putfield idx) 3 pc') (h : FLs own idx (256 + j)) (k : ∀ S' : Sto, MR o ad (gN G j 0 v) S' → WS F pc' lv st S' cs ss) : WS F pc lv (.int (nI v) :: .ref o :: st) S cs ss := by
  have e := hR.setS (v := v) hj
  rcases hj with rfl | rfl | rfl
  · exact ws_putI C d h rfl rfl ⟨rfl, rfl⟩ hR.1 (k _ e)
  · exact ws_putI C d h rfl rfl ⟨rfl, rfl⟩ hR.1 (k _ e)
  · exact ws_putI C d h rfl rfl ⟨rfl, rfl⟩ hR.1 (k _ e)
end ROWS
