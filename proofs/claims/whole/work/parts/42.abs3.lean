/-! texts: tokens and what is read of them, as functions -/
/-- a token as it stands: what it is, where it begins, where the text goes on -/
abbrev Ps : Type := Int × Int × Int
abbrev Fa : Type := Int × Int
def chT (f : Int → Int) (n k : Int) : Int := if k < n then f k else -1
def isLt (c : Int) : Bool := decide ((97 ≤ c ∧ c ≤ 122) ∨ (65 ≤ c ∧ c ≤ 90))
def isDg (c : Int) : Bool := decide (48 ≤ c ∧ c ≤ 57)
def isSp (c : Int) : Bool := decide (c = 32 ∨ c = 10)
/-- the first place where it is not so -/
def spanF (g : Int → Bool) : Nat → Int → Int
  | 0, p => p
  | k + 1, p => if g p = true then spanF g k (p + 1) else p
def spn (f : Int → Int) (n : Int) (q : Int → Bool) (p : Int) : Int := spanF (fun k => q (chT f n k)) (n - p).toNat p
def wrdK (f : Int → Int) (p n : Int) : Int :=
  if n = 1 then (if 97 ≤ f p then 200 + f p - 97 else 100 + f p - 65)
  else if n = 5 ∧ f p = 116 ∧ f (p + 1) = 97 ∧ f (p + 2) = 98 ∧ f (p + 3) = 108 ∧ f (p + 4) = 101 then 2
  else if n = 3 ∧ f p = 114 ∧ f (p + 1) = 111 ∧ f (p + 2) = 119 then 3
  else if n = 4 ∧ f p = 114 ∧ f (p + 1) = 117 ∧ f (p + 2) = 108 ∧ f (p + 3) = 101 then 4
  else if n = 5 ∧ f p = 102 ∧ f (p + 1) = 97 ∧ f (p + 2) = 108 ∧ f (p + 3) = 115 ∧ f (p + 4) = 101 then 5 else 1
def numK (f : Int → Int) (n p e : Int) : Int := if e - p ≤ 2 ∧ isLt (chT f n e) = false then 300 + (if e - p = 1 then f p - 48 else 10 * (f p - 48) + (f (p + 1) - 48)) else 1
def tokA (f : Int → Int) (n q : Int) : Ps :=
  if ¬ q < n then (0, q, q)
  else if isLt (f q) = true then (wrdK f q (spn f n isLt q - q), q, spn f n isLt q)
  else if isDg (f q) = true then (numK f n q (spn f n isDg q), q, spn f n isDg q)
  else if f q = 45 ∧ chT f n (q + 1) = 62 then (6, q, q + 2)
  else if f q = 40 ∨ f q = 41 ∨ f q = 44 ∨ f q = 59 ∨ f q = 63 ∨ f q = 61 then (500 + f q, q, q + 1) else (1, q, q + 1)
def nxT (f : Int → Int) (n p : Int) : Ps := tokA f n (spn f n isSp p)
abbrev isNm (s : Ps) : Prop := 300 ≤ s.1 ∧ s.1 ≤ 399
abbrev isVr (s : Ps) : Prop := 200 ≤ s.1 ∧ s.1 ≤ 225
abbrev isTb (s : Ps) : Prop := 100 ≤ s.1 ∧ s.1 ≤ 125
def needP (nx : Int → Ps) (c : Int) (s : Ps) : Fa ⊕ Ps := if s.1 = 500 + c then .inr (nx s.2.2) else .inl (1, s.2.1)
def andP {α β : Type} (x : Fa ⊕ α) (f : α → Fa ⊕ β) : Fa ⊕ β := match x with
  | .inl e => .inl e
  | .inr a => f a
/-- what follows a cell -/
def cellE (nx : Int → Ps) (m n : Int) (acc : List Int) (s : Ps) (go : Ps → Fa ⊕ (List Int × Ps)) : Fa ⊕ (List Int × Ps) :=
  if s.1 = 544 then go (nx s.2.2) else if s.1 = 541 then (if n < m then .inl (3, s.2.1) else .inr (acc, nx s.2.2)) else .inl (1, s.2.1)
def cellsP (nx : Int → Ps) (m : Int) (row : Bool) : Nat → Int → List Int → Ps → Fa ⊕ (List Int × Ps)
  | 0, _, _, s => .inl (3, s.2.1)
  | f + 1, n, acc, s =>
    if isNm s ∨ (if row = true then s.1 = 563 else isVr s) then
      (if n = m then .inl (3, s.2.1)
      else if s.1 = 563 then (if isNm (nx s.2.2) then cellE nx m (n + 1) (acc ++ [1000 + ((nx s.2.2).1 - 300)]) (nx (nx s.2.2).2.2) (cellsP nx m row f (n + 1) (acc ++ [1000 + ((nx s.2.2).1 - 300)])) else .inl (1, (nx s.2.2).2.1))
      else cellE nx m (n + 1) (acc ++ [if isNm s then s.1 - 300 else 2000 + (s.1 - 200)]) (nx s.2.2) (cellsP nx m row f (n + 1) (acc ++ [if isNm s then s.1 - 300 else 2000 + (s.1 - 200)])))
    else .inl (1, s.2.1)
def sevP (nx : Int → Ps) (m : Int) (row : Bool) (s : Ps) : Fa ⊕ (List Int × Ps) := andP (needP nx 40 s) fun s => cellsP nx m row 4 0 [] s
def tabP (C : Int → Int) (s : Ps) : Fa ⊕ Int := if isTb s then (if 0 < C (s.1 - 100) then .inr (s.1 - 100) else .inl (2, s.2.1)) else .inl (1, s.2.1)
def atL (t : Int) (l : List Int) : At := (t, l.getD 0 (-1), l.getD 1 (-1), l.getD 2 (-1))
def atmP (nx : Int → Ps) (C : Int → Int) (most : Int) : Nat → Int → List At → Ps → Fa ⊕ (List At × Ps)
  | 0, _, _, s => .inl (4, s.2.1)
  | f + 1, n, acc, s => andP (tabP C s) fun t => if n = most then .inl (4, s.2.1) else andP (sevP nx (C t) false (nx s.2.2)) fun q =>
      if q.2.1 = 544 then atmP nx C most f (n + 1) (acc ++ [atL t q.1]) (nx q.2.2.2) else .inr (acc ++ [atL t q.1], q.2)
def sideP (nx : Int → Ps) (as : List At) (s : Ps) : Fa ⊕ (Int × Ps) :=
  if isNm s then .inr (s.1 - 300, nx s.2.2) else if isVr s then (if mentL as (2000 + (s.1 - 200)) = true then .inr (2000 + (s.1 - 200), nx s.2.2) else .inl (5, s.2.1)) else .inl (1, s.2.1)
/-- behind the word rule -/
def rulP (nx : Int → Ps) (C : Int → Int) (s : Ps) : Fa ⊕ (Ru × Ps) := andP (atmP nx C 3 4 0 [] s) fun q =>
  if q.2.1 = 6 then
    (if (nx q.2.2.2).1 = 5 then andP (needP nx 59 (nx (nx q.2.2.2).2.2)) fun s => .inr ((2, q.1, [], -1, -1), s)
    else if isTb (nx q.2.2.2) then andP (atmP nx C 3 4 0 [] (nx q.2.2.2)) fun b => andP (needP nx 59 b.2) fun s => .inr ((0, q.1, b.1, -1, -1), s)
    else andP (sideP nx q.1 (nx q.2.2.2)) fun l => andP (needP nx 61 l.2) fun s => andP (sideP nx q.1 s) fun r => andP (needP nx 59 r.2) fun s => .inr ((1, q.1, [], l.1, r.1), s))
  else .inl (1, q.2.2.1)
/-- a text's hall: columns, rules, rows, the next number, what was named -/
abbrev Tx : Type := (Int → Int) × List Ru × List Rw × Int × (Int → Int)
def tblP (nx : Int → Ps) (T : Tx) (s : Ps) : Fa ⊕ (Tx × Ps) :=
  if isTb s then (if 0 < T.1 (s.1 - 100) then .inl (2, s.2.1) else if tabF T.1 26 0 = 6 then .inl (4, s.2.1) else
    if isNm (nx s.2.2) then (if 301 ≤ (nx s.2.2).1 ∧ (nx s.2.2).1 ≤ 303 then andP (needP nx 59 (nx (nx s.2.2).2.2)) fun s2 => .inr ((bup T.1 (s.1 - 100) ((nx s.2.2).1 - 300), T.2), s2) else .inl (3, (nx s.2.2).2.1))
    else .inl (1, (nx s.2.2).2.1))
  else .inl (1, s.2.1)
def rowP (nx : Int → Ps) (T : Tx) (s : Ps) : Fa ⊕ (Tx × Ps) := andP (tabP T.1 s) fun t => andP (sevP nx (T.1 t) true (nx s.2.2)) fun q =>
  if findL T.2.2.1 (atL t q.1) = none then
    (if T.2.2.1.length = 40 then .inl (4, s.2.1) else andP (needP nx 59 q.2) fun s2 => .inr ((T.1, T.2.1, T.2.2.1 ++ [(T.2.2.2.1, atL t q.1)], T.2.2.2.1 + 1, mkU T.2.2.2.2 (atL t q.1)), s2))
  else andP (needP nx 59 q.2) fun s2 => .inr (T, s2)
def txtP (nx : Int → Ps) : Nat → Tx → Ps → Fa ⊕ Tx
  | 0, T, _ => .inr T
  | f + 1, T, s => if s.1 = 0 then .inr T
    else andP (if s.1 = 2 then tblP nx T (nx s.2.2) else if s.1 = 3 then rowP nx T (nx s.2.2)
      else if s.1 = 4 then (if T.2.1.length = 10 then .inl (4, s.2.1) else andP (rulP nx T.1 (nx s.2.2)) fun q => .inr ((T.1, T.2.1 ++ [q.1], T.2.2), q.2))
      else .inl (1, s.2.1)) fun q => txtP nx f q.1 q.2
/-- a question: atoms, and the letters asked for -/
def askP (nx : Int → Ps) (as : List At) : Nat → Int → List Int → Ps → Fa ⊕ (List Int × Ps)
  | 0, _, _, s => .inl (4, s.2.1)
  | f + 1, n, acc, s => if isVr s then (if n = 3 then .inl (4, s.2.1) else if mentL as (2000 + (s.1 - 200)) = true then
      (if (nx s.2.2).1 = 544 then askP nx as f (n + 1) (acc ++ [s.1 - 200]) (nx (nx s.2.2).2.2) else .inr (acc ++ [s.1 - 200], nx s.2.2))
      else .inl (5, s.2.1)) else .inl (1, s.2.1)
def qstP (nx : Int → Ps) (C : Int → Int) (s : Ps) : Fa ⊕ (List At × List Int) := andP (atmP nx C 2 3 0 [] s) fun q =>
  if q.2.1 = 6 then andP (askP nx q.1 4 0 [] (nx q.2.2.2)) fun l => andP (needP nx 59 l.2) fun s => if s.1 = 0 then .inr (q.1, l.1) else .inl (1, s.2.1)
  else .inl (1, q.2.2.1)
def tldP (nx : Int → Ps) (C : Int → Int) (s : Ps) : Fa ⊕ Ru := if s.1 = 4 then andP (rulP nx C (nx s.2.2)) fun q => if q.2.1 = 0 then .inr q.1 else .inl (1, q.2.2.1) else .inl (1, s.2.1)
