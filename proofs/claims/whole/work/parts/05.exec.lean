/-! A small machine over ids: what the methods of the claim do, as a function. Values: ints, longs, references (ids), given things (texts 0 .. 3, the script 9). -/
abbrev V : Type := Int ⊕ (Int ⊕ (Option Nat ⊕ Nat))
abbrev vI (a : Int) : V := .inl a
abbrev vL (a : Int) : V := .inr (.inl a)
abbrev vR (a : Nat) : V := .inr (.inr (.inl (some a)))
abbrev vN : V := .inr (.inr (.inl none))
abbrev vS (i : Nat) : V := .inr (.inr (.inr i))
/-- cells: rows of numbers (0 int, 1 boolean, 2 long; length; contents), rows of references (class; length; contents), objects (class; fields) -/
abbrev mE : Type := (Nat × Nat × (Nat → Int)) ⊕ ((Nat × Nat × (Nat → Option Nat)) ⊕ (Nat × (Nat → V)))
abbrev eA (ty n : Nat) (f : Nat → Int) : mE := .inl (ty, n, f)
abbrev eR (c n : Nat) (f : Nat → Option Nat) : mE := .inr (.inl (c, n, f))
abbrev eO (c : Nat) (F : Nat → V) : mE := .inr (.inr (c, F))
/-- cells by ids, how many ids there are, whether the next new cell is the next id, cells and slots made -/
abbrev HS : Type := (Nat → mE) × Nat × Bool × Nat × Nat
/-- the script: its length, its ints -/
abbrev Scr : Type := Nat × (Nat → Int)
abbrev Rs : Type := Option V ⊕ Nat
abbrev LV : Type := List (Option V)
def mup {α : Type} (f : Nat → α) (k : Nat) (v : α) : Nat → α := fun j => if j = k then v else f j
def hget (hs : HS) (a : Nat) : Option mE := if a < hs.2.1 then some (hs.1 a) else none
def hput (hs : HS) (a : Nat) (e : mE) : HS := (mup hs.1 a e, hs.2)
def hnd (y pc kind : Nat) : Option (Nat × Nat) := (mHnd.find? (fun h => h.1 == y && (Nat.ble h.2.1 pc && (Nat.blt pc h.2.2.1 && h.2.2.2.1 == kind)))).map (fun h => (h.2.2.2.2.1, h.2.2.2.2.2.1))
abbrev inR (a : Int) : Prop := -2147483648 ≤ a ∧ a ≤ 2147483647
abbrev inL (a : Int) : Prop := -9223372036854775808 ≤ a ∧ a ≤ 9223372036854775807
/-- an int as the machine compares it -/
def wI (a : Int) : Int := (Int32.ofInt a).toInt
def cmpI (c : ClassFile.Cond) (a b : Int) : Bool := match c with
  | .eq => decide (a = b)
  | .ne => decide (a ≠ b)
  | .lt => decide (a < b)
  | .ge => decide (b ≤ a)
  | .gt => decide (b < a)
  | .le => decide (a ≤ b)
/-- a step: the next place, a call (method, arguments, what stays, the place behind), an end -/
abbrev Sg : Type := (Nat × LV × List V × HS) ⊕ ((Nat × List V × List V × Nat) ⊕ (Rs × HS))
abbrev go (pc : Nat) (l : LV) (st : List V) (hs : HS) : Option Sg := some (.inl (pc, l, st, hs))
def catS : List V → Nat
  | [] => 0
  | .inr (.inl _) :: t => 2 + catS t
  | _ :: t => 1 + catS t
/-- kinds of fields: 0 int, 1 boolean, 2 reference -/
def fKind (c k : Nat) : Nat := match c with
  | 0 => (match k with | 2 => 2 | _ => 0)
  | 1 => (match k with | 0 => 0 | _ => 2)
  | 2 => (match k with | 2 => 0 | 6 => 0 | 7 => 0 | _ => 2)
  | 3 => (match k with | 0 => 0 | 1 => 0 | _ => 2)
  | 4 => (match k with | 2 => 0 | 5 => 0 | _ => 2)
  | 5 => (match k with | 0 => 0 | 1 => 0 | _ => 2)
  | 6 => (match k with | 0 => 0 | 1 => 0 | 3 => 0 | _ => 2)
  | 7 => (match k with | 0 => 0 | 1 => 0 | _ => 2)
  | 8 => (match k with | 1 => 2 | 2 => 2 | _ => 0)
  | 9 => (match k with | 0 => 0 | 1 => 0 | _ => 2)
  | 10 => (match k with | 0 => 2 | _ => 1)
  | 11 => (match k with | 3 => 0 | _ => 2)
  | _ => (match k with
    | 0 => 0 | 14 => 0 | 15 => 0 | 16 => 0 | 17 => 0 | 18 => 0 | 19 => 0 | 20 => 0 | 21 => 0 | 22 => 0 | 23 => 0 | 30 => 0 | 31 => 0 | 32 => 1 | 36 => 0 | 37 => 0 | 42 => 0 | 43 => 0 | 44 => 0 | _ => 2)
def dflt (c k : Nat) : V := if fKind c k = 2 then vN else vI 0
def okV (kind : Nat) (v : V) : Bool := match kind, v with
  | 0, .inl _ => true
  | 1, .inl a => decide (a = 0 ∨ a = 1)
  | 2, .inr (.inr (.inl _)) => true
  | _, _ => false
def txLen (i : Nat) : Nat := match i with | 0 => 5 | 1 => 3 | 2 => 4 | _ => 5
def txAt (i j : Nat) : Int := match i with
  | 0 => ([116, 97, 98, 108, 101] : List Int).getD j 0
  | 1 => ([114, 111, 119] : List Int).getD j 0
  | 2 => ([114, 117, 108, 101] : List Int).getD j 0
  | _ => ([102, 97, 108, 115, 101] : List Int).getD j 0
/-- the class of an object -/
def isObj (hs : HS) (c : Nat) (v : V) : Bool := match v with
  | .inr (.inr (.inl (some a))) => (match hget hs a with | some (.inr (.inr (c2, _))) => c2 == c | _ => false)
  | _ => false
/-- the place ahead of k holds no long -/
def noL (l : LV) (k : Nat) : Bool := match k with
  | 0 => true
  | j + 1 => (match l[j]? with | some (some (.inr (.inl _))) => false | _ => true)
def bin (st : List V) (f : Int → Int → Option Int) (nx : Nat) (l : LV) (hs : HS) : Option Sg := match st with
  | .inl b :: .inl a :: r => (match f a b with | some c => go nx l (vI c :: r) hs | none => none)
  | _ => none
def rdA (hs : HS) (ty a : Nat) (i : Int) : Option Int := match hget hs a with
  | some (.inl (t2, n, f)) => if t2 = ty ∧ 0 ≤ i ∧ i < (n : Int) ∧ n < 2147483648 then some (f i.toNat) else none
  | _ => none
def wrA (hs : HS) (ty a : Nat) (i : Int) (x : Int) : Option HS := match hget hs a with
  | some (.inl (t2, n, f)) => if t2 = ty ∧ 0 ≤ i ∧ i < (n : Int) ∧ n < 2147483648 then some (hput hs a (.inl (t2, n, mup f i.toNat x))) else none
  | _ => none
def mcall (y n : Nat) (st : List V) (nx : Nat) : Option Sg :=
  if n ≤ st.length ∧ n ≤ mMaxL.getD y 0 ∧ catS (st.take n) = n ∧ catS (st.drop n) ≤ 8 then some (.inr (.inl (y, (st.take n).reverse, st.drop n, nx))) else none
def stp (sc : Scr) (y pc : Nat) (l : LV) (st : List V) (hs : HS) : Option Sg := match cd y pc with
  | none => none
  | some (i, x, nx) => match i with
    | .iconst v => go nx l (vI v :: st) hs
    | .bipush v => go nx l (vL v :: st) hs
    | .sipush v => if 0 ≤ v ∧ v < 4 then go nx l (vS v.toNat :: st) hs else none
    | .iload k => (match l[k]? with | some (some (.inl a)) => go nx l (vI a :: st) hs | _ => none)
    | .lload k => (match l[k]? with | some (some (.inr (.inl a))) => go nx l (vL a :: st) hs | _ => none)
    | .aload k => (match l[k]? with | some (some (.inr (.inr (.inl (some a))))) => go nx l (vR a :: st) hs | some (some (.inr (.inr (.inr i)))) => go nx l (vS i :: st) hs | _ => none)
    | .istore k => (match st with | .inl a :: r => if k < l.length ∧ noL l k = true then go nx (l.set k (some (vI a))) r hs else none | _ => none)
    | .lstore k => (match st with | .inr (.inl a) :: r => if k + 1 < l.length ∧ noL l k = true then go nx ((l.set k (some (vL a))).set (k + 1) none) r hs else none | _ => none)
    | .astore k => (match st with | .inr (.inr (.inl (some a))) :: r => if k < l.length ∧ noL l k = true then go nx (l.set k (some (vR a))) r hs else none | _ => none)
    | .iinc k c => (match l[k]? with | some (some (.inl a)) => go nx (l.set k (some (vI (a + c)))) st hs | _ => none)
    | .iadd => bin st (fun a b => some (a + b)) nx l hs
    | .isub => bin st (fun a b => some (a - b)) nx l hs
    | .imul => bin st (fun a b => some (a * b)) nx l hs
    | .idiv => bin st (fun a b => if 0 ≤ a ∧ a ≤ 2147483647 ∧ 0 < b ∧ b ≤ 2147483647 then some (a / b) else none) nx l hs
    | .irem => bin st (fun a b => if 0 ≤ a ∧ a ≤ 2147483647 ∧ 0 < b ∧ b ≤ 2147483647 then some (a % b) else none) nx l hs
    | .iand => bin st (fun a b => some (Int32.ofInt a &&& Int32.ofInt b).toInt) nx l hs
    | .ishr => bin st (fun a b => some (Int32.ofInt a >>> (Int32.ofInt b &&& 31)).toInt) nx l hs
    | .iushr => bin st (fun a b => some ((Int32.ofInt a).toUInt32 >>> ((Int32.ofInt b).toUInt32 &&& Int32.toUInt32 31)).toInt32.toInt) nx l hs
    | .ixor => (match st with | .inl b :: .inl a :: r => if inR a ∧ inR b ∧ catS r ≤ 8 then go nx l (vI (if a < b then b else a) :: r) hs else none | _ => none)
    | .ior => (match st with | .inl b :: .inl a :: r => if inR a ∧ inR b ∧ catS r ≤ 8 then go nx l (vI (if b < a then b else a) :: r) hs else none | _ => none)
    | .i2l => (match st with | .inl a :: r => if inR a then go nx l (vL a :: r) hs else none | _ => none)
    | .lcmp => (match st with | .inr (.inl b) :: .inr (.inl a) :: r => if inL a ∧ inL b then go nx l (vI (if a < b then -1 else if a = b then 0 else 1) :: r) hs else none | _ => none)
    | .lshl => (match st with | .inl b :: .inr (.inl a) :: r => go nx l (vL (Int64.ofInt a <<< ((Int32.ofInt b).toInt64 &&& 63)).toInt :: r) hs | _ => none)
    | .lor => (match st with | .inr (.inl b) :: .inr (.inl a) :: r => go nx l (vL (Int64.ofInt a ||| Int64.ofInt b).toInt :: r) hs | _ => none)
    | .dup => (match st with | .inl a :: r => go nx l (.inl a :: .inl a :: r) hs | .inr (.inr a) :: r => go nx l (.inr (.inr a) :: .inr (.inr a) :: r) hs | _ => none)
    | .dup2 => (match st with | .inl b :: .inr (.inr a) :: r => go nx l (.inl b :: .inr (.inr a) :: .inl b :: .inr (.inr a) :: r) hs | _ => none)
    | .pop => (match st with | .inl _ :: r => go nx l r hs | _ => none)
    | .pop2 => (match st with | .inr (.inr (.inl (some _))) :: r => if catS r ≤ 8 then go nx l r hs else none | _ => none)
    | .if_icmp c _ => (match st with | .inl b :: .inl a :: r => go (if cmpI c (wI a) (wI b) then x else nx) l r hs | _ => none)
    | .ifCond c _ => (match st with | .inl a :: r => go (if cmpI c (wI a) 0 then x else nx) l r hs | _ => none)
    | .goto _ => go x l st hs
    | .tableswitch df lo hi offs => (match st with
      | .inl a :: r => if inR a then (if a < lo ∨ hi < a then go ((pc : Int) + df).toNat l r hs else (match offs[(a - lo).toNat]? with | some o => go ((pc : Int) + o).toNat l r hs | none => none)) else none
      | _ => none)
    | .lookupswitch df ps => (match st with
      | .inl a :: r => if inR a then go ((pc : Int) + Op.lookupswitch.offset ps.toList df a).toNat l r hs else none
      | _ => none)
    | .getfield k => (match st with
      | .inr (.inr (.inl (some a))) :: r => (match hget hs a with | some (.inr (.inr (c, F))) => if c = x then go nx l (F k :: r) hs else none | _ => none)
      | _ => none)
    | .putfield k => (match st with
      | v :: .inr (.inr (.inl (some a))) :: r => (match hget hs a with | some (.inr (.inr (c, F))) => if c = x ∧ okV (fKind c k) v = true then go nx l r (hput hs a (eO c (mup F k v))) else none | _ => none)
      | _ => none)
    | .iaload => (match st with
      | .inl i :: .inr (.inr (.inl (some a))) :: r => (match rdA hs 0 a i with | some z => go nx l (vI z :: r) hs | none => none)
      | .inl i :: .inr (.inr (.inr 9)) :: r => if 0 ≤ i ∧ i < (sc.1 : Int) ∧ sc.1 < 2147483648 then go nx l (vI (sc.2 i.toNat) :: r) hs else none
      | _ => none)
    | .baload => (match st with | .inl i :: .inr (.inr (.inl (some a))) :: r => (match rdA hs 1 a i with | some z => go nx l (vI z :: r) hs | none => none) | _ => none)
    | .laload => (match st with | .inl i :: .inr (.inr (.inl (some a))) :: r => (match rdA hs 2 a i with | some z => go nx l (vL z :: r) hs | none => none) | _ => none)
    | .iastore => (match st with | .inl v :: .inl i :: .inr (.inr (.inl (some a))) :: r => (match wrA hs 0 a i v with | some h => go nx l r h | none => none) | _ => none)
    | .bastore => (match st with | .inl v :: .inl i :: .inr (.inr (.inl (some a))) :: r => if v = 0 ∨ v = 1 then (match wrA hs 1 a i v with | some h => go nx l r h | none => none) else none | _ => none)
    | .lastore => (match st with | .inr (.inl v) :: .inl i :: .inr (.inr (.inl (some a))) :: r => (match wrA hs 2 a i v with | some h => go nx l r h | none => none) | _ => none)
    | .aaload => (match st with
      | .inl i :: .inr (.inr (.inl (some a))) :: r => (match hget hs a with | some (.inr (.inl (c, n, f))) => if (c = 3 ∨ c = 8) ∧ 0 ≤ i ∧ i < (n : Int) ∧ n < 2147483648 then go nx l (.inr (.inr (.inl (f i.toNat))) :: r) hs else none | _ => none)
      | _ => none)
    | .aastore => (match st with
      | .inr (.inr (.inl (some q))) :: .inl i :: .inr (.inr (.inl (some a))) :: r => (match hget hs a with
        | some (.inr (.inl (c, n, f))) => if (c = 3 ∨ c = 8) ∧ 0 ≤ i ∧ i < (n : Int) ∧ n < 2147483648 ∧ isObj hs c (vR q) = true then go nx l r (hput hs a (eR c n (mup f i.toNat (some q)))) else none
        | _ => none)
      | _ => none)
    | .arraylength => (match st with
      | .inr (.inr (.inl (some a))) :: r => (match hget hs a with | some (.inl (ty, n, _)) => if ty < 3 ∧ n < 2147483648 then go nx l (vI n :: r) hs else none | _ => none)
      | .inr (.inr (.inr 9)) :: r => if sc.1 < 2147483648 then go nx l (vI sc.1 :: r) hs else none
      | _ => none)
    | .aconst_null => (match st with | .inr (.inr (.inr i)) :: r => if i < 4 ∧ catS r ≤ 8 then go nx l (vI (txLen i) :: r) hs else none | _ => none)
    | .caload => (match st with | .inl j :: .inr (.inr (.inr i)) :: r => if i < 4 ∧ 0 ≤ j ∧ j < txLen i ∧ catS r ≤ 8 then go nx l (vI (txAt i j.toNat) :: r) hs else none | _ => none)
    | .new c => (if hs.2.2.1 = true then go nx l (vR hs.2.1 :: st) (mup hs.1 hs.2.1 (eO c (dflt c)), hs.2.1 + 1, true, hs.2.2.2.1 + 1, hs.2.2.2.2 + mNf.getD c 0) else none)
    | .newarray t => (match st with
      | .inl n :: r => if hs.2.2.1 = true ∧ 0 ≤ n ∧ n ≤ 65536 then go nx l (vR hs.2.1 :: r) (mup hs.1 hs.2.1 (eA (match t with | .int => 0 | .boolean => 1 | _ => 2) n.toNat (fun _ => 0)), hs.2.1 + 1, true, hs.2.2.2.1 + 1, hs.2.2.2.2 + n.toNat) else none
      | _ => none)
    | .anewarray c => (match st with
      | .inl n :: r => if hs.2.2.1 = true ∧ 0 ≤ n ∧ n ≤ 65536 then go nx l (vR hs.2.1 :: r) (mup hs.1 hs.2.1 (eR c n.toNat (fun _ => none)), hs.2.1 + 1, true, hs.2.2.2.1 + 1, hs.2.2.2.2 + n.toNat) else none
      | _ => none)
    | .invokevirtual y2 => if isObj hs (mOwn.getD y2 99) (st.getD (x - 1) vN) = true then mcall y2 x st nx else none
    | .invokespecial y2 => if isObj hs (mOwn.getD y2 99) (st.getD (x - 1) vN) = true then mcall y2 x st nx else none
    | .invokestatic y2 => mcall y2 x st nx
    | .nop => (match st with
      | .inl n :: .inl dp :: .inr (.inr (.inl (some a))) :: .inl sp :: .inr (.inr (.inl (some b))) :: r => (match hget hs b, hget hs a with
        | some (.inl (t1, n1, f1)), some (.inl (t2, n2, f2)) => if t1 = 0 ∧ t2 = 0 ∧ 0 ≤ n ∧ 0 ≤ dp ∧ 0 ≤ sp ∧ sp + n ≤ n1 ∧ dp + n ≤ n2 ∧ n1 < 2147483648 ∧ n2 < 2147483648 ∧ catS r ≤ 8 then
            go nx l r (hput hs a (eA 0 n2 (va_cpy f1 f2 sp.toNat dp.toNat n.toNat))) else none
        | _, _ => none)
      | _ => none)
    | .athrow => if catS st ≤ 8 then some (.inr (.inr (.inr x, (hs.1, hs.2.1, false, hs.2.2.2.1 + 1, hs.2.2.2.2 + 6)))) else none
    | .ireturn => (match st with | [.inl a] => if mRk.getD y 9 = 1 ∨ mRk.getD y 9 = 2 ∧ (a = 0 ∨ a = 1) then some (.inr (.inr (.inl (some (vI a)), hs))) else none | _ => none)
    | .areturn => (match st with | [.inr (.inr (.inl (some a)))] => if mRk.getD y 9 = 3 then some (.inr (.inr (.inl (some (vR a)), hs))) else none | _ => none)
    | .return_ => (match st with | [] => if mRk.getD y 9 = 0 then some (.inr (.inr (.inl none, hs))) else none | _ => none)
    | _ => none
/-- a call by an object -/
def isV (y pc : Nat) : Bool := match cd y pc with
  | some (.invokevirtual _, _, _) => true
  | _ => false
def lvIn (y : Nat) (as : List V) : LV := as.map some ++ List.replicate (mMaxL.getD y 0 - as.length) none
/-- the machine: fuel, depth, method, place, variables, stack, cells -/
def exec (sc : Scr) : Nat → Nat → Nat → Nat → LV → List V → HS → Option (Rs × HS)
  | 0, _, _, _, _, _, _ => none
  | n + 1, d, y, pc, l, st, hs => match stp sc y pc l st hs with
    | none => none
    | some (.inl (pc2, l2, st2, hs2)) => exec sc n d y pc2 l2 st2 hs2
    | some (.inr (.inl (y2, as, r, nx))) => if 0 < d then (match exec sc n (d - 1) y2 0 (lvIn y2 as) [] hs with
        | some (.inl v, hs2) => exec sc n d y nx l (v.toList ++ r) hs2
        | some (.inr k, hs2) => if isV y pc = true then (match hnd y pc k with
          | some (j, pc2) => exec sc n d y pc2 (l.map (fun _ => none)) [] hs2
          | none => some (.inr k, hs2)) else none
        | none => none) else none
    | some (.inr (.inr (r, hs2))) => some (r, hs2)
