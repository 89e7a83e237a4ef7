/-! PART II: a body as it is checked and flattened. Operands (the top first; 0: not known), labels (the innermost first), rows of code -/
/-- what began it, its type, its height, dead, emitted, the rows that branch to it (the latest first), its row -/
abbrev tLb : Type := Nat × Int64 × Nat × Bool × Bool × List Nat × Int32
abbrev tRw : Type := Int32 × Int32 × Int32 × Int32 × Int32
abbrev tK : Type := List Nat × List tLb × List tRw
def lb0 : tLb := (0, 0, 0, false, false, [], 0)
def rw0 : tRw := (0, 0, 0, 0, 0)
def kTop (K : tK) : tLb := K.2.1.headD lb0
def kTake (p w : Nat) (K : tK) : sp_O (Nat × tK) := if K.1.length ≤ (kTop K).2.2.1 then (if (kTop K).2.2.2.1 = true then .inr ((0, K), 0) else .inl (29, p)) else if w = 0 ∨ K.1.headD 0 = 0 ∨ K.1.headD 0 = w then .inr ((K.1.headD 0, K.1.tail, K.2), 0) else .inl (29, p)
def kPut (p t : Nat) (K : tK) : sp_O tK := if K.1.length < 1000 then .inr ((t :: K.1, K.2), 0) else .inl (40, p)
/-- the last one first -/
def kTakeN (p : Nat) (f : Nat → Nat) : Nat → tK → sp_O tK
  | 0, K => .inr (K, 0)
  | k + 1, K => sp_b (kTake p (f k) K) fun v _ => kTakeN p f k v.2
/-- likewise, with what was there -/
def kTakeS (p : Nat) (f : Nat → Nat) : Nat → tK → sp_O (List Nat × tK)
  | 0, K => .inr (([], K), 0)
  | k + 1, K => sp_b (kTake p (f k) K) fun v _ => sp_b (kTakeS p f k v.2) fun w _ => .inr ((w.1 ++ [v.1], w.2), 0)
def kPutN (p : Nat) (f : Nat → Nat) : Nat → Nat → tK → sp_O tK
  | 0, _, K => .inr (K, 0)
  | j + 1, k, K => sp_b (kPut p (f k) K) fun K _ => kPutN p f j (k + 1) K
abbrev gt (l : List Nat) : Nat → Nat := fun k => l.getD k 0
abbrev kTakeL (p : Nat) (l : List Nat) (K : tK) : sp_O tK := kTakeN p (gt l) l.length K
abbrev kPutL (p : Nat) (l : List Nat) (K : tK) : sp_O tK := kPutN p (gt l) l.length 0 K
def btP (M : tMd) (t : Int64) : List Nat := if 0 ≤ t then (M.1.getD t.toNatClampNeg ([], [])).1 else []
def btR (M : tMd) (t : Int64) : List Nat := if 0 ≤ t then (M.1.getD t.toNatClampNeg ([], [])).2 else if t = -64 then [] else [(t + 128).toNatClampNeg]
/-- what a branch to it wants -/
def lbW (M : tMd) (l : tLb) : List Nat := if l.1 = 3 then btP M l.2.1 else btR M l.2.1
def kDie (K : tK) : tK := (K.1.drop (K.1.length - (kTop K).2.2.1), ((kTop K).1, (kTop K).2.1, (kTop K).2.2.1, true, (kTop K).2.2.2.2) :: K.2.1.tail, K.2.2)
/-- may it be come to -/
def kAl (K : tK) : Bool := (kTop K).2.2.2.2.1 && !(kTop K).2.2.2.1
def kEm (K : tK) (op a b c hb : Int32) : tK := if kAl K = true then (K.1, K.2.1, K.2.2 ++ [(op, a, b, c, hb)]) else K
def kPtr : List Nat → Int32
  | [] => -1
  | r :: _ => Int32.ofNat r
def kBr (M : tMd) (op hb : Int32) (x : Nat) (K : tK) : tK := if kAl K = true then (K.1, (if (K.2.1.getD x lb0).1 = 3 then K.2.1 else K.2.1.set x ((K.2.1.getD x lb0).1, (K.2.1.getD x lb0).2.1, (K.2.1.getD x lb0).2.2.1, (K.2.1.getD x lb0).2.2.2.1, (K.2.1.getD x lb0).2.2.2.2.1, K.2.2.length :: (K.2.1.getD x lb0).2.2.2.2.2.1, (K.2.1.getD x lb0).2.2.2.2.2.2)), K.2.2 ++ [(op, (if (K.2.1.getD x lb0).1 = 3 then (K.2.1.getD x lb0).2.2.2.2.2.2 else kPtr (K.2.1.getD x lb0).2.2.2.2.2.1), Int32.ofNat (lbW M (K.2.1.getD x lb0)).length, Int32.ofNat (K.2.1.getD x lb0).2.2.1, hb)]) else K
def rwAim (co : List tRw) (i : Nat) (t : Int32) : List tRw := co.set i ((co.getD i rw0).1, t, (co.getD i rw0).2.2)
/-- a 4 whose condition fails goes on here -/
def kAimC (K : tK) : tK := if (kTop K).1 = 4 ∧ 0 ≤ (kTop K).2.2.2.2.2.2 then (K.1, K.2.1, rwAim K.2.2 (kTop K).2.2.2.2.2.2.toNatClampNeg (Int32.ofNat K.2.2.length)) else K
def kTk (p w : Nat) (K : tK) : sp_O tK := if w = 0 then .inr (K, 0) else sp_b (kTake p w K) fun v _ => .inr (v.2, 0)
def kPt (p r : Nat) (K : tK) : sp_O tK := if r = 0 then .inr (K, 0) else kPut p r K
def kCc (x1 x2 x3 r : Nat) : Int32 := 2 * ((if x1 = 0 then 0 else 1) + (if x2 = 0 then 0 else 1) + (if x3 = 0 then 0 else 1)) + (if r = 0 then 0 else 1)
def kPl (p : Nat) (op a b hb : Int32) (x1 x2 x3 r : Nat) (K : tK) : sp_O tK := sp_b (kTk p x1 K) fun K _ => sp_b (kTk p x2 K) fun K _ => sp_b (kTk p x3 K) fun K _ => sp_b (kPt p r K) fun K _ => .inr (kEm K op a b (kCc x1 x2 x3 r) hb, 0)
/-- of 40 .. 62: how many bytes, as a power of two; the type -/
def kWid (op : Nat) : Nat := if op = 41 ∨ op = 43 ∨ op = 55 ∨ op = 57 then 3 else if op = 40 ∨ op = 42 ∨ op = 52 ∨ op = 53 ∨ op = 54 ∨ op = 56 ∨ op = 62 then 2 else if op = 46 ∨ op = 47 ∨ op = 50 ∨ op = 51 ∨ op = 59 ∨ op = 61 then 1 else 0
def kAcT (op : Nat) : Nat := if op = 42 ∨ op = 56 then 125 else if op = 43 ∨ op = 57 then 124 else if op = 40 ∨ (44 ≤ op ∧ op ≤ 47) ∨ op = 54 ∨ op = 58 ∨ op = 59 then 127 else 126
/-- operators: the operands' type, the result's, are there two -/
def kOpT (op : Nat) : Nat := if op < 103 then (if op = 69 ∨ op < 80 then 0 else if op < 91 then 1 else if op < 97 then 2 else 3) else if op < 167 then (if op < 121 then 0 else if op < 139 then 1 else if op < 153 then 2 else 3) else if op = 172 ∨ op = 173 ∨ op = 178 ∨ op = 179 ∨ op = 183 ∨ op = 184 ∨ op = 190 ∨ op = 192 ∨ op = 193 then 0 else if op = 167 ∨ op = 180 ∨ op = 181 ∨ op = 185 ∨ op = 186 ∨ op = 191 ∨ op = 194 ∨ op = 195 ∨ op = 196 then 1 else if op = 168 ∨ op = 169 ∨ op = 174 ∨ op = 175 ∨ op = 187 ∨ op = 188 ∨ op = 200 ∨ op = 201 ∨ op = 204 ∨ op = 205 then 2 else 3
def kRsT (op : Nat) : Nat := if op < 103 then 0 else if op < 167 then kOpT op else if op < 172 ∨ op = 188 ∨ op = 192 ∨ op = 193 ∨ (200 ≤ op ∧ op < 204) then 0 else if op < 178 ∨ op = 189 ∨ 193 < op then 1 else if op < 183 ∨ op = 190 then 2 else 3
def kTwo (op : Nat) : Bool := (decide (69 < op) && decide (op < 103) && decide (op ≠ 80)) || (decide (105 < op) && decide (op < 121)) || (decide (123 < op) && decide (op < 139)) || (decide (145 < op) && decide (op < 153)) || (decide (159 < op) && decide (op < 167))
/-- the types of the locals behind the parameters -/
def ltL : List (Nat × Nat) → Nat → Option Nat
  | [], _ => none
  | a :: l, i => if i < a.1 then some a.2 else ltL l (i - a.1)
def ltB (ps : List Nat) (ls : List (Nat × Nat)) (i : Nat) : Option Nat := if i < ps.length then ps[i]? else ltL ls (i - ps.length)
/-- what is taken, the last one first, and put by the instructions that stand alone; none: what is named is not there -/
def kSg (M : tMd) (Dc : Nat → Bool) (lt : Nat → Option Nat) (op x y : Nat) : Option (Nat × Nat × Nat × Nat) :=
  if op = 28 then some (127, y, y, y)
  else if op ≤ 34 then (match lt x with
    | none => none
    | some t => if op = 32 then some (0, 0, 0, t) else if op = 33 then some (t, 0, 0, 0) else some (t, 0, 0, t))
  else if op ≤ 36 then (match (spG M)[x]? with
    | none => none
    | some g => if op = 35 then some (0, 0, 0, g.1.2.1) else if g.1.2.2.2.2 = 0 then none else some (g.1.2.1, 0, 0, 0))
  else if op ≤ 38 then (match (spT M)[x]? with
    | none => none
    | some t => if op = 37 then some (127, 0, 0, t.2.1) else some (t.2.1, 127, 0, 0))
  else if op ≤ 62 then (if (spM M).length = 0 ∨ kWid op < x then none else if op < 54 then some (127, 0, 0, kAcT op) else some (kAcT op, 127, 0, 0))
  else if op ≤ 64 then (if (spM M).length = 0 then none else if op = 63 then some (0, 0, 0, 127) else some (127, 0, 0, 127))
  else if op < 208 then some (127 - kOpT op, (if kTwo op = true then 127 - kOpT op else 0), 0, 127 - kRsT op)
  else if op = 210 then (if x < (spF M).length ∧ Dc x = true then some (0, 0, 0, 112) else none)
  else if op = 308 then (if x < M.2.2.2.2.2.2.2.2.1.length ∧ 0 < (spM M).length then some (127, 127, 127, 0) else none)
  else if op = 309 then (if x < M.2.2.2.2.2.2.2.2.1.length then some (0, 0, 0, 0) else none)
  else if op ≤ 311 then (if 0 < (spM M).length then some (127, 127, 127, 0) else none)
  else if op = 312 then (match M.2.2.2.2.2.2.2.1[x]?, (spT M)[y]? with
    | some e, some t => if e.2.2.1.1 = t.2.1 then some (127, 127, 127, 0) else none
    | _, _ => none)
  else if op = 313 then (if x < M.2.2.2.2.2.2.2.1.length then some (0, 0, 0, 0) else none)
  else if op = 314 then (match (spT M)[x]?, (spT M)[y]? with
    | some e, some t => if e.2.1 = t.2.1 then some (127, 127, 127, 0) else none
    | _, _ => none)
  else (match (spT M)[x]? with
    | none => none
    | some t => if op = 315 then some (127, t.2.1, 0, 127) else if op = 316 then some (0, 0, 0, 127) else some (127, t.2.1, 127, 0))
/-- 2, 3, 4 -/
def kBlk (M : tMd) (p op : Nat) (t : Int64) (K : tK) : sp_O tK := if 0 ≤ t ∧ M.1.length ≤ t.toNatClampNeg then .inl (30, p) else sp_b (kTk p (if op = 4 then 127 else 0) K) fun K1 _ => sp_b (kTakeL p (btP M t) K1) fun K2 _ => if 200 ≤ K2.2.1.length then .inl (40, p) else kPutL p (btP M t) (K2.1, (op, t, K2.1.length, false, kAl K2, [], (if op = 4 then (if kAl K2 = true then Int32.ofNat K2.2.2.length else -1) else Int32.ofNat K2.2.2.length)) :: K2.2.1, (if op = 4 then (kEm K2 4 (-1) 0 0 (Int32.ofNat K.1.length)).2.2 else K2.2.2))
/-- 5 -/
def kEls (M : tMd) (p : Nat) (K : tK) : sp_O tK := sp_b (kTakeL p (btR M (kTop K).2.1) K) fun K1 _ => if K1.1.length = (kTop K).2.2.1 then kPutL p (btP M (kTop K).2.1) (K1.1, (5, (kTop (kBr M 5 (Int32.ofNat K.1.length) 0 K1)).2.1, (kTop (kBr M 5 (Int32.ofNat K.1.length) 0 K1)).2.2.1, false, (kTop (kBr M 5 (Int32.ofNat K.1.length) 0 K1)).2.2.2.2) :: K1.2.1.tail, (kAimC (kBr M 5 (Int32.ofNat K.1.length) 0 K1)).2.2) else .inl (29, p)
/-- END -/
def kEnd (M : tMd) (p : Nat) (K : tK) : sp_O tK := sp_b (kTakeL p (btR M (kTop K).2.1) K) fun K1 _ => if K1.1.length = (kTop K).2.2.1 then (if (kTop K).1 = 4 ∧ btP M (kTop K).2.1 ≠ btR M (kTop K).2.1 then .inl (29, p) else if K1.2.1.tail.length = 0 then .inr ((K1.1, K1.2.1.tail, (kTop K).2.2.2.2.2.1.foldl (fun co r => rwAim co r (Int32.ofNat K1.2.2.length)) (kAimC K1).2.2 ++ [(11, 0, 0, 0, Int32.ofNat (btR M (kTop K).2.1).length)]), 0) else kPutL p (btR M (kTop K).2.1) (K1.1, K1.2.1.tail, (kTop K).2.2.2.2.2.1.foldl (fun co r => rwAim co r (Int32.ofNat K1.2.2.length)) (kAimC K1).2.2)) else .inl (29, p)
/-- 12, 13 -/
def kBrn (M : tMd) (p op x : Nat) (K : tK) : sp_O tK := if K.2.1.length ≤ x then .inl (30, p) else sp_b (kTk p (if op = 13 then 127 else 0) K) fun K1 _ => sp_b (kTakeL p (lbW M (K.2.1.getD x lb0)) K1) fun K2 _ => if op = 12 then .inr (kDie (kBr M 12 (Int32.ofNat K.1.length) x K2), 0) else sp_b (kPutL p (lbW M (K.2.1.getD x lb0)) K2) fun K3 _ => .inr (kBr M 13 (Int32.ofNat K.1.length) x K3, 0)
/-- 14, label by label: many is what the last one wants -/
def kTabL (M : tMd) (p : Nat) (hb : Int32) (many : Nat) : List Nat → tK → sp_O tK
  | [], K => .inr (K, 0)
  | x :: l, K => if (lbW M (K.2.1.getD x lb0)).length = many then sp_b (if l.isEmpty = true then kTakeL p (lbW M (K.2.1.getD x lb0)) K else sp_b (kTakeS p (gt (lbW M (K.2.1.getD x lb0))) many K) fun w _ => kPutL p w.1 w.2) fun K1 _ => kTabL M p hb many l (kBr M 12 hb x K1) else .inl (29, p)
def kTab (M : tMd) (p : Nat) (dl : List Nat) (K : tK) : sp_O tK := if dl.any (fun x => decide (K.2.1.length ≤ x)) = true then .inl (30, p) else sp_b (kTk p 127 K) fun K1 _ => sp_b (kTabL M p (Int32.ofNat K.1.length) (lbW M (K1.2.1.getD (dl.getLastD 0) lb0)).length dl (kEm K1 14 (Int32.ofNat (dl.length - 1)) 0 0 (Int32.ofNat K.1.length))) fun K2 _ => .inr (kDie K2, 0)
/-- 15 -/
def kRet (M : tMd) (p : Nat) (K : tK) : sp_O tK := sp_b (kTakeL p (btR M (K.2.1.getD (K.2.1.length - 1) lb0).2.1) K) fun K1 _ => .inr (kDie (kBr M 12 (Int32.ofNat K.1.length) (K.2.1.length - 1) K1), 0)
/-- 16, 17 -/
def kCal (M : tMd) (p x : Nat) (K : tK) : sp_O tK := match (spF M)[x]? with
  | none => .inl (30, p)
  | some f => sp_b (kTakeL p (btP M (Int64.ofNat f.2.1)) K) fun K1 _ => sp_b (kPutL p (btR M (Int64.ofNat f.2.1)) K1) fun K2 _ => .inr (kEm K2 16 (Int32.ofNat x) 0 (Int32.ofNat (btP M (Int64.ofNat f.2.1)).length) (Int32.ofNat K.1.length), 0)
def kCalT (M : tMd) (p x y : Nat) (K : tK) : sp_O tK := match (spT M)[y]? with
  | none => .inl (30, p)
  | some t => if x < M.1.length ∧ t.2.1 = 112 then sp_b (kTk p 127 K) fun K1 _ => sp_b (kTakeL p (btP M (Int64.ofNat x)) K1) fun K2 _ => sp_b (kPutL p (btR M (Int64.ofNat x)) K2) fun K3 _ => .inr (kEm K3 17 (Int32.ofNat x) (Int32.ofNat y) (Int32.ofNat (btP M (Int64.ofNat x)).length) (Int32.ofNat K.1.length), 0) else .inl (30, p)
/-- 27 -/
def kSel (p : Nat) (a b : Int32) (K : tK) : sp_O tK := sp_b (kTk p 127 K) fun K1 _ => sp_b (kTake p 0 K1) fun y _ => sp_b (kTake p 0 y.2) fun x _ => if sp_isR x.1 = true ∨ sp_isR y.1 = true ∨ (x.1 ≠ 0 ∧ y.1 ≠ 0 ∧ x.1 ≠ y.1) then .inl (29, p) else sp_b (kPut p (if x.1 = 0 then y.1 else x.1) x.2) fun K4 _ => .inr (kEm K4 27 a b 7 (Int32.ofNat K.1.length), 0)
/-- 209 -/
def kNul (p : Nat) (a b : Int32) (K : tK) : sp_O tK := sp_b (kTake p 0 K) fun x _ => if x.1 ≠ 0 ∧ sp_isR x.1 = false then .inl (29, p) else sp_b (kPut p 127 x.2) fun K2 _ => .inr (kEm K2 209 a b 3 (Int32.ofNat K.1.length), 0)
/-- the labels of a 14 -/
def kDl (B : Nat → Nat) (n : Nat) (x y : Nat) : List Nat := match sp_rows (sp_num B n) (x + 1) y with
  | .inl _ => []
  | .inr v => v.1
/-- an instruction at p -/
def kIns (B : Nat → Nat) (n : Nat) (M : tMd) (Dc : Nat → Bool) (lt : Nat → Option Nat) (p : Nat) (v : sp_I) (K : tK) : sp_O tK :=
  if v.1 = 0 then .inr (kDie (kEm K 0 v.2.1.toInt32 v.2.2.1.toInt32 0 (Int32.ofNat K.1.length)), 0)
  else if v.1 = 1 then .inr (kEm K 1 v.2.1.toInt32 v.2.2.1.toInt32 0 (Int32.ofNat K.1.length), 0)
  else if v.1 ≤ 4 then kBlk M p v.1 v.2.1 K
  else if v.1 = 5 then kEls M p K
  else if v.1 = 11 then kEnd M p K
  else if v.1 ≤ 13 then kBrn M p v.1 v.2.1.toNatClampNeg K
  else if v.1 = 14 then kTab M p (kDl B n v.2.1.toNatClampNeg v.2.2.1.toNatClampNeg) K
  else if v.1 = 15 then kRet M p K
  else if v.1 = 16 then kCal M p v.2.1.toNatClampNeg K
  else if v.1 = 17 then kCalT M p v.2.1.toNatClampNeg v.2.2.1.toNatClampNeg K
  else if v.1 = 26 then sp_b (kTake p 0 K) fun x _ => .inr (kEm x.2 26 v.2.1.toInt32 v.2.2.1.toInt32 2 (Int32.ofNat K.1.length), 0)
  else if v.1 = 27 then kSel p v.2.1.toInt32 v.2.2.1.toInt32 K
  else if 65 ≤ v.1 ∧ v.1 ≤ 68 then sp_b (kPut p (192 - v.1) K) fun K1 _ => .inr (kEm K1 65 v.2.1.toInt32 (v.2.1 >>> 32).toInt32 1 (Int32.ofNat K.1.length), 0)
  else if v.1 = 208 then sp_b (kPut p v.2.1.toNatClampNeg K) fun K1 _ => .inr (kEm K1 65 (-1) (-1) 1 (Int32.ofNat K.1.length), 0)
  else if v.1 = 209 then kNul p v.2.1.toInt32 v.2.2.1.toInt32 K
  else match kSg M Dc lt v.1 v.2.1.toNatClampNeg v.2.2.1.toNatClampNeg with
    | none => .inl (30, p)
    | some s => kPl p (Int32.ofNat v.1) v.2.1.toInt32 v.2.2.1.toInt32 (Int32.ofNat K.1.length) s.1 s.2.1 s.2.2.1 s.2.2.2 K
/-- from p on, until its labels are closed; most operands were there -/
def kRun (B : Nat → Nat) (n : Nat) (D : Bool) (M : tMd) (Dc : Nat → Bool) (lt : Nat → Option Nat) : Nat → Nat → Nat → tK → sp_O (Nat × tK)
  | 0, _, _, _ => .inl (0, 0)
  | N + 1, p, most, K => if K.2.1.length = 0 then .inr ((most, K), p) else sp_b (sp_in B n D p) fun v p2 => sp_b (kIns B n M Dc lt p v K) fun K1 _ => kRun B n D M Dc lt N p2 (if K1.2.1.length ≠ 0 ∧ most < K1.1.length then K1.1.length else most) K1
def kBeg (t : Nat) : tK := ([], [(0, Int64.ofNat t, 0, false, true, [], -1)], [])
def kBody (B : Nat → Nat) (n : Nat) (D : Bool) (M : tMd) (Dc : Nat → Bool) (t : Nat) (a : tBo) : sp_O (Nat × tK) := kRun B n D M Dc (ltB (btP M (Int64.ofNat t)) a.2.2.2.2.1) (n + 1) a.2.2.1 0 (kBeg t)
