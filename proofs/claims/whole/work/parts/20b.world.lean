/-! the cells behind the constructors: ids, shapes (wip/whole/gen7.py) -/
abbrev Sh : Type := Nat × Nat × Nat × List (Nat × Nat)
def wS_0 : List Sh := [(2, 11, 0, [(0, 1), (1, 2), (2, 86), (4, 87), (5, 94), (6, 101), (7, 107), (8, 112), (9, 117), (10, 119)]), (1, 3, 3, [(0, 121), (1, 205), (2, 289)]), (2, 3, 0, [(2, 3), (3, 4), (4, 5), (5, 10), (6, 13)]), (0, 0, 26, []), (1, 8, 10, [(0, 16), (1, 23), (2, 30), (3, 37), (4, 44), (5, 51), (6, 58), (7, 65), (8, 72), (9, 79)]), (2, 7, 0, [(2, 6), (3, 7), (4, 8), (5, 9)]), (0, 0, 40, []), (0, 0, 40, []), (0, 0, 120, []), (0, 0, 100, []), (2, 5, 0, [(2, 11), (3, 12)]), (0, 0, 700, []), (0, 0, 200, []), (2, 1, 0, [(1, 14), (2, 15)]), (0, 0, 3, []), (0, 0, 9, []), (2, 8, 0, [(1, 17), (2, 20)]), (2, 1, 0, [(1, 18), (2, 19)]), (0, 0, 3, []), (0, 0, 9, []), (2, 1, 0, [(1, 21), (2, 22)]), (0, 0, 3, []), (0, 0, 9, []), (2, 8, 0, [(1, 24), (2, 27)]), (2, 1, 0, [(1, 25), (2, 26)]), (0, 0, 3, []), (0, 0, 9, []), (2, 1, 0, [(1, 28), (2, 29)]), (0, 0, 3, []), (0, 0, 9, []), (2, 8, 0, [(1, 31), (2, 34)]), (2, 1, 0, [(1, 32), (2, 33)]), (0, 0, 3, []), (0, 0, 9, []), (2, 1, 0, [(1, 35), (2, 36)]), (0, 0, 3, []), (0, 0, 9, []), (2, 8, 0, [(1, 38), (2, 41)]), (2, 1, 0, [(1, 39), (2, 40)]), (0, 0, 3, []), (0, 0, 9, []), (2, 1, 0, [(1, 42), (2, 43)]), (0, 0, 3, []), (0, 0, 9, []), (2, 8, 0, [(1, 45), (2, 48)])]
def wS_1 : List Sh := [(2, 1, 0, [(1, 46), (2, 47)]), (0, 0, 3, []), (0, 0, 9, []), (2, 1, 0, [(1, 49), (2, 50)]), (0, 0, 3, []), (0, 0, 9, []), (2, 8, 0, [(1, 52), (2, 55)]), (2, 1, 0, [(1, 53), (2, 54)]), (0, 0, 3, []), (0, 0, 9, []), (2, 1, 0, [(1, 56), (2, 57)]), (0, 0, 3, []), (0, 0, 9, []), (2, 8, 0, [(1, 59), (2, 62)]), (2, 1, 0, [(1, 60), (2, 61)]), (0, 0, 3, []), (0, 0, 9, []), (2, 1, 0, [(1, 63), (2, 64)]), (0, 0, 3, []), (0, 0, 9, []), (2, 8, 0, [(1, 66), (2, 69)]), (2, 1, 0, [(1, 67), (2, 68)]), (0, 0, 3, []), (0, 0, 9, []), (2, 1, 0, [(1, 70), (2, 71)]), (0, 0, 3, []), (0, 0, 9, []), (2, 8, 0, [(1, 73), (2, 76)]), (2, 1, 0, [(1, 74), (2, 75)]), (0, 0, 3, []), (0, 0, 9, []), (2, 1, 0, [(1, 77), (2, 78)]), (0, 0, 3, []), (0, 0, 9, []), (2, 8, 0, [(1, 80), (2, 83)]), (2, 1, 0, [(1, 81), (2, 82)]), (0, 0, 3, []), (0, 0, 9, []), (2, 1, 0, [(1, 84), (2, 85)]), (0, 0, 3, []), (0, 0, 9, []), (0, 0, 1000, []), (2, 6, 0, [(2, 88), (4, 89), (5, 93)]), (0, 0, 3, []), (2, 9, 0, [(2, 90), (3, 91), (4, 92)])]
def wS_2 : List Sh := [(0, 0, 1001, []), (0, 0, 1001, []), (0, 0, 1001, []), (0, 0, 3, []), (2, 8, 0, [(1, 95), (2, 98)]), (2, 1, 0, [(1, 96), (2, 97)]), (0, 0, 3, []), (0, 0, 9, []), (2, 1, 0, [(1, 99), (2, 100)]), (0, 0, 3, []), (0, 0, 9, []), (2, 2, 0, [(0, 102), (1, 103), (3, 104), (4, 105), (5, 106)]), (0, 0, 26, []), (0, 0, 26, []), (0, 0, 3, []), (0, 0, 3, []), (0, 0, 3, []), (2, 4, 0, [(0, 108), (1, 109), (3, 110), (4, 111)]), (0, 0, 100, []), (0, 0, 100, []), (0, 0, 40, []), (0, 0, 40, []), (2, 4, 0, [(0, 113), (1, 114), (3, 115), (4, 116)]), (0, 0, 100, []), (0, 0, 100, []), (0, 0, 40, []), (0, 0, 40, []), (2, 10, 0, [(0, 118)]), (0, 0, 78, []), (2, 0, 0, [(2, 120)]), (0, 0, 1600, []), (2, 3, 0, [(2, 122), (3, 123), (4, 124), (5, 129), (6, 132)]), (0, 0, 26, []), (1, 8, 10, [(0, 135), (1, 142), (2, 149), (3, 156), (4, 163), (5, 170), (6, 177), (7, 184), (8, 191), (9, 198)]), (2, 7, 0, [(2, 125), (3, 126), (4, 127), (5, 128)]), (0, 0, 40, []), (0, 0, 40, []), (0, 0, 120, []), (0, 0, 100, []), (2, 5, 0, [(2, 130), (3, 131)]), (0, 0, 700, []), (0, 0, 200, []), (2, 1, 0, [(1, 133), (2, 134)]), (0, 0, 3, []), (0, 0, 9, [])]
def wS_3 : List Sh := [(2, 8, 0, [(1, 136), (2, 139)]), (2, 1, 0, [(1, 137), (2, 138)]), (0, 0, 3, []), (0, 0, 9, []), (2, 1, 0, [(1, 140), (2, 141)]), (0, 0, 3, []), (0, 0, 9, []), (2, 8, 0, [(1, 143), (2, 146)]), (2, 1, 0, [(1, 144), (2, 145)]), (0, 0, 3, []), (0, 0, 9, []), (2, 1, 0, [(1, 147), (2, 148)]), (0, 0, 3, []), (0, 0, 9, []), (2, 8, 0, [(1, 150), (2, 153)]), (2, 1, 0, [(1, 151), (2, 152)]), (0, 0, 3, []), (0, 0, 9, []), (2, 1, 0, [(1, 154), (2, 155)]), (0, 0, 3, []), (0, 0, 9, []), (2, 8, 0, [(1, 157), (2, 160)]), (2, 1, 0, [(1, 158), (2, 159)]), (0, 0, 3, []), (0, 0, 9, []), (2, 1, 0, [(1, 161), (2, 162)]), (0, 0, 3, []), (0, 0, 9, []), (2, 8, 0, [(1, 164), (2, 167)]), (2, 1, 0, [(1, 165), (2, 166)]), (0, 0, 3, []), (0, 0, 9, []), (2, 1, 0, [(1, 168), (2, 169)]), (0, 0, 3, []), (0, 0, 9, []), (2, 8, 0, [(1, 171), (2, 174)]), (2, 1, 0, [(1, 172), (2, 173)]), (0, 0, 3, []), (0, 0, 9, []), (2, 1, 0, [(1, 175), (2, 176)]), (0, 0, 3, []), (0, 0, 9, []), (2, 8, 0, [(1, 178), (2, 181)]), (2, 1, 0, [(1, 179), (2, 180)]), (0, 0, 3, [])]
def wS_4 : List Sh := [(0, 0, 9, []), (2, 1, 0, [(1, 182), (2, 183)]), (0, 0, 3, []), (0, 0, 9, []), (2, 8, 0, [(1, 185), (2, 188)]), (2, 1, 0, [(1, 186), (2, 187)]), (0, 0, 3, []), (0, 0, 9, []), (2, 1, 0, [(1, 189), (2, 190)]), (0, 0, 3, []), (0, 0, 9, []), (2, 8, 0, [(1, 192), (2, 195)]), (2, 1, 0, [(1, 193), (2, 194)]), (0, 0, 3, []), (0, 0, 9, []), (2, 1, 0, [(1, 196), (2, 197)]), (0, 0, 3, []), (0, 0, 9, []), (2, 8, 0, [(1, 199), (2, 202)]), (2, 1, 0, [(1, 200), (2, 201)]), (0, 0, 3, []), (0, 0, 9, []), (2, 1, 0, [(1, 203), (2, 204)]), (0, 0, 3, []), (0, 0, 9, []), (2, 3, 0, [(2, 206), (3, 207), (4, 208), (5, 213), (6, 216)]), (0, 0, 26, []), (1, 8, 10, [(0, 219), (1, 226), (2, 233), (3, 240), (4, 247), (5, 254), (6, 261), (7, 268), (8, 275), (9, 282)]), (2, 7, 0, [(2, 209), (3, 210), (4, 211), (5, 212)]), (0, 0, 40, []), (0, 0, 40, []), (0, 0, 120, []), (0, 0, 100, []), (2, 5, 0, [(2, 214), (3, 215)]), (0, 0, 700, []), (0, 0, 200, []), (2, 1, 0, [(1, 217), (2, 218)]), (0, 0, 3, []), (0, 0, 9, []), (2, 8, 0, [(1, 220), (2, 223)]), (2, 1, 0, [(1, 221), (2, 222)]), (0, 0, 3, []), (0, 0, 9, []), (2, 1, 0, [(1, 224), (2, 225)]), (0, 0, 3, [])]
def wS_5 : List Sh := [(0, 0, 9, []), (2, 8, 0, [(1, 227), (2, 230)]), (2, 1, 0, [(1, 228), (2, 229)]), (0, 0, 3, []), (0, 0, 9, []), (2, 1, 0, [(1, 231), (2, 232)]), (0, 0, 3, []), (0, 0, 9, []), (2, 8, 0, [(1, 234), (2, 237)]), (2, 1, 0, [(1, 235), (2, 236)]), (0, 0, 3, []), (0, 0, 9, []), (2, 1, 0, [(1, 238), (2, 239)]), (0, 0, 3, []), (0, 0, 9, []), (2, 8, 0, [(1, 241), (2, 244)]), (2, 1, 0, [(1, 242), (2, 243)]), (0, 0, 3, []), (0, 0, 9, []), (2, 1, 0, [(1, 245), (2, 246)]), (0, 0, 3, []), (0, 0, 9, []), (2, 8, 0, [(1, 248), (2, 251)]), (2, 1, 0, [(1, 249), (2, 250)]), (0, 0, 3, []), (0, 0, 9, []), (2, 1, 0, [(1, 252), (2, 253)]), (0, 0, 3, []), (0, 0, 9, []), (2, 8, 0, [(1, 255), (2, 258)]), (2, 1, 0, [(1, 256), (2, 257)]), (0, 0, 3, []), (0, 0, 9, []), (2, 1, 0, [(1, 259), (2, 260)]), (0, 0, 3, []), (0, 0, 9, []), (2, 8, 0, [(1, 262), (2, 265)]), (2, 1, 0, [(1, 263), (2, 264)]), (0, 0, 3, []), (0, 0, 9, []), (2, 1, 0, [(1, 266), (2, 267)]), (0, 0, 3, []), (0, 0, 9, []), (2, 8, 0, [(1, 269), (2, 272)]), (2, 1, 0, [(1, 270), (2, 271)])]
def wS_6 : List Sh := [(0, 0, 3, []), (0, 0, 9, []), (2, 1, 0, [(1, 273), (2, 274)]), (0, 0, 3, []), (0, 0, 9, []), (2, 8, 0, [(1, 276), (2, 279)]), (2, 1, 0, [(1, 277), (2, 278)]), (0, 0, 3, []), (0, 0, 9, []), (2, 1, 0, [(1, 280), (2, 281)]), (0, 0, 3, []), (0, 0, 9, []), (2, 8, 0, [(1, 283), (2, 286)]), (2, 1, 0, [(1, 284), (2, 285)]), (0, 0, 3, []), (0, 0, 9, []), (2, 1, 0, [(1, 287), (2, 288)]), (0, 0, 3, []), (0, 0, 9, []), (2, 3, 0, [(2, 290), (3, 291), (4, 292), (5, 297), (6, 300)]), (0, 0, 26, []), (1, 8, 10, [(0, 303), (1, 310), (2, 317), (3, 324), (4, 331), (5, 338), (6, 345), (7, 352), (8, 359), (9, 366)]), (2, 7, 0, [(2, 293), (3, 294), (4, 295), (5, 296)]), (0, 0, 40, []), (0, 0, 40, []), (0, 0, 120, []), (0, 0, 100, []), (2, 5, 0, [(2, 298), (3, 299)]), (0, 0, 700, []), (0, 0, 200, []), (2, 1, 0, [(1, 301), (2, 302)]), (0, 0, 3, []), (0, 0, 9, []), (2, 8, 0, [(1, 304), (2, 307)]), (2, 1, 0, [(1, 305), (2, 306)]), (0, 0, 3, []), (0, 0, 9, []), (2, 1, 0, [(1, 308), (2, 309)]), (0, 0, 3, []), (0, 0, 9, []), (2, 8, 0, [(1, 311), (2, 314)]), (2, 1, 0, [(1, 312), (2, 313)]), (0, 0, 3, []), (0, 0, 9, []), (2, 1, 0, [(1, 315), (2, 316)])]
def wS_7 : List Sh := [(0, 0, 3, []), (0, 0, 9, []), (2, 8, 0, [(1, 318), (2, 321)]), (2, 1, 0, [(1, 319), (2, 320)]), (0, 0, 3, []), (0, 0, 9, []), (2, 1, 0, [(1, 322), (2, 323)]), (0, 0, 3, []), (0, 0, 9, []), (2, 8, 0, [(1, 325), (2, 328)]), (2, 1, 0, [(1, 326), (2, 327)]), (0, 0, 3, []), (0, 0, 9, []), (2, 1, 0, [(1, 329), (2, 330)]), (0, 0, 3, []), (0, 0, 9, []), (2, 8, 0, [(1, 332), (2, 335)]), (2, 1, 0, [(1, 333), (2, 334)]), (0, 0, 3, []), (0, 0, 9, []), (2, 1, 0, [(1, 336), (2, 337)]), (0, 0, 3, []), (0, 0, 9, []), (2, 8, 0, [(1, 339), (2, 342)]), (2, 1, 0, [(1, 340), (2, 341)]), (0, 0, 3, []), (0, 0, 9, []), (2, 1, 0, [(1, 343), (2, 344)]), (0, 0, 3, []), (0, 0, 9, []), (2, 8, 0, [(1, 346), (2, 349)]), (2, 1, 0, [(1, 347), (2, 348)]), (0, 0, 3, []), (0, 0, 9, []), (2, 1, 0, [(1, 350), (2, 351)]), (0, 0, 3, []), (0, 0, 9, []), (2, 8, 0, [(1, 353), (2, 356)]), (2, 1, 0, [(1, 354), (2, 355)]), (0, 0, 3, []), (0, 0, 9, []), (2, 1, 0, [(1, 357), (2, 358)]), (0, 0, 3, []), (0, 0, 9, []), (2, 8, 0, [(1, 360), (2, 363)])]
def wS_8 : List Sh := [(2, 1, 0, [(1, 361), (2, 362)]), (0, 0, 3, []), (0, 0, 9, []), (2, 1, 0, [(1, 364), (2, 365)]), (0, 0, 3, []), (0, 0, 9, []), (2, 8, 0, [(1, 367), (2, 370)]), (2, 1, 0, [(1, 368), (2, 369)]), (0, 0, 3, []), (0, 0, 9, []), (2, 1, 0, [(1, 371), (2, 372)]), (0, 0, 3, []), (0, 0, 9, []), (2, 12, 0, [(1, 374), (2, 375), (3, 376), (4, 377), (5, 378), (6, 379), (7, 380), (8, 381), (9, 382), (10, 383), (11, 384), (12, 385), (13, 386), (24, 387), (25, 388), (26, 389), (27, 390), (28, 391), (29, 392), (33, 393), (34, 394), (35, 395), (38, 396), (39, 397), (40, 398), (41, 399), (45, 400), (46, 401), (47, 402), (48, 403)]), (0, 0, 130, []), (0, 0, 5, []), (0, 0, 1500, []), (0, 0, 1000, []), (0, 0, 1000, []), (0, 0, 3000, []), (0, 0, 1000, []), (0, 0, 5, []), (0, 0, 5, []), (0, 0, 5, []), (0, 0, 5120, []), (0, 1, 500, []), (0, 0, 1000, []), (0, 0, 3, []), (0, 1, 100, []), (0, 0, 26, []), (0, 0, 3, []), (0, 0, 3, []), (0, 0, 234, []), (0, 0, 26, []), (0, 0, 100, []), (0, 0, 200, []), (0, 0, 100, []), (0, 1, 200, []), (0, 0, 4803, []), (0, 0, 3, []), (0, 1, 6084, []), (0, 1, 6084, []), (0, 0, 78, []), (0, 1, 6084, []), (0, 2, 1, [])]
def wS : List Sh := wS_0 ++ (wS_1 ++ (wS_2 ++ (wS_3 ++ (wS_4 ++ (wS_5 ++ (wS_6 ++ (wS_7 ++ (wS_8))))))))
def lk2 : List (Nat × Nat) → Nat → Option Nat
  | [], _ => none
  | q :: t, k => match Nat.beq q.1 k with
    | true => some q.2
    | false => lk2 t k
/-- the state: what the cells of numbers hold, by id and place -/
abbrev St : Type := Nat → Int → Int
def shp (id : Nat) : Sh := wS.getD id (9, 0, 0, [])
def wcE (q : Sh) (s : Int → Int) : mE := match q.1 with
  | 0 => eA q.2.1 q.2.2.1 (fun j => s j)
  | 1 => eR q.2.1 q.2.2.1 (fun j => lk2 q.2.2.2 j)
  | _ => eO q.2.1 (fun k => match lk2 q.2.2.2 k with
    | some r => vR r
    | none => if fKind q.2.1 k = 2 then vN else vI (s k))
theorem wcE_A {ty n : Nat} {w : List (Nat × Nat)} {s : Int → Int} : wcE (0, ty, n, w) s = .inl (ty, n, fun j : Nat => s j) := rfl
theorem wcE_O {c : Nat} {w : Nat × List (Nat × Nat)} {s : Int → Int} : wcE (2, c, w) s = .inr (.inr (c, fun k => match lk2 w.2 k with
    | some r => vR r
    | none => if fKind c k = 2 then vN else vI (s k))) := rfl
def NW : Nat := 404
/-- the long cell (404) lies in u, not in the state -/
def ov (σ : St) (x : Int) : St := fun id => if id = 404 then (fun j => if j = 0 then x else 0) else σ id
theorem ov_ne {σ : St} {x : Int} {a : Nat} (h : a < NW) : ov σ x a = σ a := by
  have h4 : a ≠ 404 := Nat.ne_of_lt h
  unfold ov
  rw [if_neg h4]
theorem ov_ext {σ τ : St} {x : Int} {id : Nat} (h : σ id = τ id) : ov σ x id = ov τ x id := by unfold ov; rw [h]
def wH (σ : St) (u : Bool × Nat × Nat × Int) : HS := (fun id => wcE (shp id) (ov σ u.2.2.2 id), NW + 1, u.1, u.2.1, u.2.2.1)
def iup (f : Int → Int) (i x : Int) : Int → Int := fun j => if j = i then x else f j
/-- a number written -/
def su (σ : St) (a : Nat) (i x : Int) : St := fun b => if b = a then iup (σ a) i x else σ b
theorem hget_w {σ : St} {u : Bool × Nat × Nat × Int} {a : Nat} (h : a < NW) : hget (wH σ u) a = some (wcE (shp a) (σ a)) := by
  show (if a < NW + 1 then some (wcE (shp a) (ov σ u.2.2.2 a)) else none) = _
  rw [if_pos (Nat.lt_succ_of_lt h), ov_ne h]
/-- a read of a row of numbers -/
theorem rdA_w {σ : St} {u : Bool × Nat × Nat × Int} {ty a n : Nat} {i : Int} (hs : shp a = (0, ty, n, [])) (ha : a < NW) (hn : n < 2147483648) (h0 : 0 ≤ i) (h1 : i < n) : rdA (wH σ u) ty a i = some (σ a i) := by
  unfold rdA
  rw [hget_w ha, hs, wcE_A]
  dsimp only
  rw [if_pos ⟨rfl, h0, h1, hn⟩, Int.toNat_of_nonneg h0]
theorem wrA_w {σ : St} {u : Bool × Nat × Nat × Int} {ty a n : Nat} {i x : Int} (hs : shp a = (0, ty, n, [])) (ha : a < NW) (hn : n < 2147483648) (h0 : 0 ≤ i) (h1 : i < n) : wrA (wH σ u) ty a i x = some (wH (su σ a i x) u) := by
  unfold wrA
  rw [hget_w ha, hs, wcE_A]
  dsimp only
  rw [if_pos ⟨rfl, h0, h1, hn⟩]
  unfold hput wH
  congr 2
  funext id
  unfold mup
  by_cases hb : id = a
  · subst hb
    rw [if_pos rfl, hs, ov_ne ha]
    unfold su
    rw [if_pos rfl, wcE_A]
    congr 3
    funext j
    unfold iup
    by_cases hj : j = i.toNat
    · have hj2 : (j : Int) = i := by omega
      rw [if_pos hj, if_pos hj2]
    · have hj2 : ¬ (j : Int) = i := by omega
      rw [if_neg hj, if_neg hj2]
  · rw [if_neg hb]
    exact congrArg (wcE (shp id)) (ov_ext (by unfold su; rw [if_neg hb]))
/-- a read of a field -/
def Gf (hs : HS) (c a k : Nat) (f : V → Prop) : Prop := match hget hs a with
  | some (.inr (.inr (c2, F))) => if c2 = c then f (F k) else False
  | _ => False
theorem Gf_ref {σ : St} {u : Bool × Nat × Nat × Int} {c a k r : Nat} {f : V → Prop} {w : Nat × List (Nat × Nat)} (hs : shp a = (2, c, w)) (ha : a < NW) (hr : lk2 w.2 k = some r) : Gf (wH σ u) c a k f = f (vR r) := by
  unfold Gf
  rw [hget_w ha, hs, wcE_O]
  dsimp only
  rw [if_pos rfl, hr]
theorem Gf_int {σ : St} {u : Bool × Nat × Nat × Int} {c a k : Nat} {f : V → Prop} {w : Nat × List (Nat × Nat)} (hs : shp a = (2, c, w)) (ha : a < NW) (hr : lk2 w.2 k = none) (hk : ¬ fKind c k = 2) : Gf (wH σ u) c a k f = f (vI (σ a k)) := by
  unfold Gf
  rw [hget_w ha, hs, wcE_O]
  dsimp only
  rw [if_pos rfl, hr, if_neg hk]
def Pf (hs : HS) (c a k : Nat) (v : V) (f : HS → Prop) : Prop := match hget hs a with
  | some (.inr (.inr (c2, F))) => if c2 = c ∧ okV (fKind c2 k) v = true then f (hput hs a (eO c2 (mup F k v))) else False
  | _ => False
theorem Pf_int {σ : St} {u : Bool × Nat × Nat × Int} {c a k : Nat} {x : Int} {f : HS → Prop} {w : Nat × List (Nat × Nat)} (hs : shp a = (2, c, w)) (ha : a < NW) (hr : lk2 w.2 k = none) (hk : ¬ fKind c k = 2) (hv : okV (fKind c k) (vI x) = true) : Pf (wH σ u) c a k (vI x) f = f (wH (su σ a k x) u) := by
  unfold Pf
  rw [hget_w ha, hs, wcE_O]
  dsimp only
  rw [if_pos ⟨rfl, hv⟩]
  congr 1
  unfold hput wH
  congr 1
  funext id
  unfold mup
  by_cases hb : id = a
  · subst hb
    rw [if_pos rfl, hs, ov_ne ha]
    unfold su
    rw [if_pos rfl, wcE_O]
    congr 3
    funext j
    unfold iup
    by_cases hj : j = k
    · subst hj
      rw [if_pos rfl, hr, if_neg hk, if_pos rfl]
    · have hj2 : ¬ (j : Int) = (k : Int) := by omega
      rw [if_neg hj, if_neg hj2]
  · rw [if_neg hb]
    exact congrArg (wcE (shp id)) (ov_ext (by unfold su; rw [if_neg hb]))
abbrev mO : Nat := 373
theorem gM_thrown {σ : St} {u : Bool × Nat × Nat × Int} {f : V → Prop} : Gf (wH σ u) 12 373 0 f = f (vI (σ 373 0)) := Gf_int (w := (0, _)) rfl (by decide) rfl (by decide)
theorem pM_thrown {σ : St} {u : Bool × Nat × Nat × Int} {x : Int} {f : HS → Prop} : Pf (wH σ u) 12 373 0 (vI x) f = f (wH (su σ 373 0 x) u) := Pf_int (w := (0, _)) rfl (by decide) rfl (by decide) rfl
theorem gM_cols {σ : St} {u : Bool × Nat × Nat × Int} {f : V → Prop} : Gf (wH σ u) 12 373 1 f = f (vR 374) := Gf_ref (w := (0, _)) rfl (by decide) rfl
theorem rM_cols {σ : St} {u : Bool × Nat × Nat × Int} {i : Int} (h0 : 0 ≤ i) (h1 : i < 130) : rdA (wH σ u) 0 374 i = some (σ 374 i) := rdA_w rfl (by decide) (by decide) h0 h1
theorem wM_cols {σ : St} {u : Bool × Nat × Nat × Int} {i x : Int} (h0 : 0 ≤ i) (h1 : i < 130) : wrA (wH σ u) 0 374 i x = some (wH (su σ 374 i x) u) := wrA_w rfl (by decide) (by decide) h0 h1
theorem gM_ruleMany {σ : St} {u : Bool × Nat × Nat × Int} {f : V → Prop} : Gf (wH σ u) 12 373 2 f = f (vR 375) := Gf_ref (w := (0, _)) rfl (by decide) rfl
theorem rM_ruleMany {σ : St} {u : Bool × Nat × Nat × Int} {i : Int} (h0 : 0 ≤ i) (h1 : i < 5) : rdA (wH σ u) 0 375 i = some (σ 375 i) := rdA_w rfl (by decide) (by decide) h0 h1
theorem wM_ruleMany {σ : St} {u : Bool × Nat × Nat × Int} {i x : Int} (h0 : 0 ≤ i) (h1 : i < 5) : wrA (wH σ u) 0 375 i x = some (wH (su σ 375 i x) u) := wrA_w rfl (by decide) (by decide) h0 h1
theorem gM_rules {σ : St} {u : Bool × Nat × Nat × Int} {f : V → Prop} : Gf (wH σ u) 12 373 3 f = f (vR 376) := Gf_ref (w := (0, _)) rfl (by decide) rfl
theorem rM_rules {σ : St} {u : Bool × Nat × Nat × Int} {i : Int} (h0 : 0 ≤ i) (h1 : i < 1500) : rdA (wH σ u) 0 376 i = some (σ 376 i) := rdA_w rfl (by decide) (by decide) h0 h1
theorem wM_rules {σ : St} {u : Bool × Nat × Nat × Int} {i x : Int} (h0 : 0 ≤ i) (h1 : i < 1500) : wrA (wH σ u) 0 376 i x = some (wH (su σ 376 i x) u) := wrA_w rfl (by decide) (by decide) h0 h1
theorem gM_there {σ : St} {u : Bool × Nat × Nat × Int} {f : V → Prop} : Gf (wH σ u) 12 373 4 f = f (vR 377) := Gf_ref (w := (0, _)) rfl (by decide) rfl
theorem rM_there {σ : St} {u : Bool × Nat × Nat × Int} {i : Int} (h0 : 0 ≤ i) (h1 : i < 1000) : rdA (wH σ u) 0 377 i = some (σ 377 i) := rdA_w rfl (by decide) (by decide) h0 h1
theorem wM_there {σ : St} {u : Bool × Nat × Nat × Int} {i x : Int} (h0 : 0 ≤ i) (h1 : i < 1000) : wrA (wH σ u) 0 377 i x = some (wH (su σ 377 i x) u) := wrA_w rfl (by decide) (by decide) h0 h1
theorem gM_rowTable {σ : St} {u : Bool × Nat × Nat × Int} {f : V → Prop} : Gf (wH σ u) 12 373 5 f = f (vR 378) := Gf_ref (w := (0, _)) rfl (by decide) rfl
theorem rM_rowTable {σ : St} {u : Bool × Nat × Nat × Int} {i : Int} (h0 : 0 ≤ i) (h1 : i < 1000) : rdA (wH σ u) 0 378 i = some (σ 378 i) := rdA_w rfl (by decide) (by decide) h0 h1
theorem wM_rowTable {σ : St} {u : Bool × Nat × Nat × Int} {i x : Int} (h0 : 0 ≤ i) (h1 : i < 1000) : wrA (wH σ u) 0 378 i x = some (wH (su σ 378 i x) u) := wrA_w rfl (by decide) (by decide) h0 h1
theorem gM_terms {σ : St} {u : Bool × Nat × Nat × Int} {f : V → Prop} : Gf (wH σ u) 12 373 6 f = f (vR 379) := Gf_ref (w := (0, _)) rfl (by decide) rfl
theorem rM_terms {σ : St} {u : Bool × Nat × Nat × Int} {i : Int} (h0 : 0 ≤ i) (h1 : i < 3000) : rdA (wH σ u) 0 379 i = some (σ 379 i) := rdA_w rfl (by decide) (by decide) h0 h1
theorem wM_terms {σ : St} {u : Bool × Nat × Nat × Int} {i x : Int} (h0 : 0 ≤ i) (h1 : i < 3000) : wrA (wH σ u) 0 379 i x = some (wH (su σ 379 i x) u) := wrA_w rfl (by decide) (by decide) h0 h1
theorem gM_byStep {σ : St} {u : Bool × Nat × Nat × Int} {f : V → Prop} : Gf (wH σ u) 12 373 7 f = f (vR 380) := Gf_ref (w := (0, _)) rfl (by decide) rfl
theorem rM_byStep {σ : St} {u : Bool × Nat × Nat × Int} {i : Int} (h0 : 0 ≤ i) (h1 : i < 1000) : rdA (wH σ u) 0 380 i = some (σ 380 i) := rdA_w rfl (by decide) (by decide) h0 h1
theorem wM_byStep {σ : St} {u : Bool × Nat × Nat × Int} {i x : Int} (h0 : 0 ≤ i) (h1 : i < 1000) : wrA (wH σ u) 0 380 i x = some (wH (su σ 380 i x) u) := wrA_w rfl (by decide) (by decide) h0 h1
theorem gM_nextRow {σ : St} {u : Bool × Nat × Nat × Int} {f : V → Prop} : Gf (wH σ u) 12 373 8 f = f (vR 381) := Gf_ref (w := (0, _)) rfl (by decide) rfl
theorem rM_nextRow {σ : St} {u : Bool × Nat × Nat × Int} {i : Int} (h0 : 0 ≤ i) (h1 : i < 5) : rdA (wH σ u) 0 381 i = some (σ 381 i) := rdA_w rfl (by decide) (by decide) h0 h1
theorem wM_nextRow {σ : St} {u : Bool × Nat × Nat × Int} {i x : Int} (h0 : 0 ≤ i) (h1 : i < 5) : wrA (wH σ u) 0 381 i x = some (wH (su σ 381 i x) u) := wrA_w rfl (by decide) (by decide) h0 h1
theorem gM_state {σ : St} {u : Bool × Nat × Nat × Int} {f : V → Prop} : Gf (wH σ u) 12 373 9 f = f (vR 382) := Gf_ref (w := (0, _)) rfl (by decide) rfl
theorem rM_state {σ : St} {u : Bool × Nat × Nat × Int} {i : Int} (h0 : 0 ≤ i) (h1 : i < 5) : rdA (wH σ u) 0 382 i = some (σ 382 i) := rdA_w rfl (by decide) (by decide) h0 h1
theorem wM_state {σ : St} {u : Bool × Nat × Nat × Int} {i x : Int} (h0 : 0 ≤ i) (h1 : i < 5) : wrA (wH σ u) 0 382 i x = some (wH (su σ 382 i x) u) := wrA_w rfl (by decide) (by decide) h0 h1
theorem gM_stepMany {σ : St} {u : Bool × Nat × Nat × Int} {f : V → Prop} : Gf (wH σ u) 12 373 10 f = f (vR 383) := Gf_ref (w := (0, _)) rfl (by decide) rfl
theorem rM_stepMany {σ : St} {u : Bool × Nat × Nat × Int} {i : Int} (h0 : 0 ≤ i) (h1 : i < 5) : rdA (wH σ u) 0 383 i = some (σ 383 i) := rdA_w rfl (by decide) (by decide) h0 h1
theorem wM_stepMany {σ : St} {u : Bool × Nat × Nat × Int} {i x : Int} (h0 : 0 ≤ i) (h1 : i < 5) : wrA (wH σ u) 0 383 i x = some (wH (su σ 383 i x) u) := wrA_w rfl (by decide) (by decide) h0 h1
theorem gM_steps {σ : St} {u : Bool × Nat × Nat × Int} {f : V → Prop} : Gf (wH σ u) 12 373 11 f = f (vR 384) := Gf_ref (w := (0, _)) rfl (by decide) rfl
theorem rM_steps {σ : St} {u : Bool × Nat × Nat × Int} {i : Int} (h0 : 0 ≤ i) (h1 : i < 5120) : rdA (wH σ u) 0 384 i = some (σ 384 i) := rdA_w rfl (by decide) (by decide) h0 h1
theorem wM_steps {σ : St} {u : Bool × Nat × Nat × Int} {i x : Int} (h0 : 0 ≤ i) (h1 : i < 5120) : wrA (wH σ u) 0 384 i x = some (wH (su σ 384 i x) u) := wrA_w rfl (by decide) (by decide) h0 h1
theorem gM_named {σ : St} {u : Bool × Nat × Nat × Int} {f : V → Prop} : Gf (wH σ u) 12 373 12 f = f (vR 385) := Gf_ref (w := (0, _)) rfl (by decide) rfl
theorem rM_named {σ : St} {u : Bool × Nat × Nat × Int} {i : Int} (h0 : 0 ≤ i) (h1 : i < 500) : rdA (wH σ u) 1 385 i = some (σ 385 i) := rdA_w rfl (by decide) (by decide) h0 h1
theorem wM_named {σ : St} {u : Bool × Nat × Nat × Int} {i x : Int} (h0 : 0 ≤ i) (h1 : i < 500) : wrA (wH σ u) 1 385 i x = some (wH (su σ 385 i x) u) := wrA_w rfl (by decide) (by decide) h0 h1
theorem gM_tape {σ : St} {u : Bool × Nat × Nat × Int} {f : V → Prop} : Gf (wH σ u) 12 373 13 f = f (vR 386) := Gf_ref (w := (0, _)) rfl (by decide) rfl
theorem rM_tape {σ : St} {u : Bool × Nat × Nat × Int} {i : Int} (h0 : 0 ≤ i) (h1 : i < 1000) : rdA (wH σ u) 0 386 i = some (σ 386 i) := rdA_w rfl (by decide) (by decide) h0 h1
theorem wM_tape {σ : St} {u : Bool × Nat × Nat × Int} {i x : Int} (h0 : 0 ≤ i) (h1 : i < 1000) : wrA (wH σ u) 0 386 i x = some (wH (su σ 386 i x) u) := wrA_w rfl (by decide) (by decide) h0 h1
theorem gM_taped {σ : St} {u : Bool × Nat × Nat × Int} {f : V → Prop} : Gf (wH σ u) 12 373 14 f = f (vI (σ 373 14)) := Gf_int (w := (0, _)) rfl (by decide) rfl (by decide)
theorem pM_taped {σ : St} {u : Bool × Nat × Nat × Int} {x : Int} {f : HS → Prop} : Pf (wH σ u) 12 373 14 (vI x) f = f (wH (su σ 373 14 x) u) := Pf_int (w := (0, _)) rfl (by decide) rfl (by decide) rfl
theorem gM_at {σ : St} {u : Bool × Nat × Nat × Int} {f : V → Prop} : Gf (wH σ u) 12 373 15 f = f (vI (σ 373 15)) := Gf_int (w := (0, _)) rfl (by decide) rfl (by decide)
theorem pM_at {σ : St} {u : Bool × Nat × Nat × Int} {x : Int} {f : HS → Prop} : Pf (wH σ u) 12 373 15 (vI x) f = f (wH (su σ 373 15 x) u) := Pf_int (w := (0, _)) rfl (by decide) rfl (by decide) rfl
theorem gM_token {σ : St} {u : Bool × Nat × Nat × Int} {f : V → Prop} : Gf (wH σ u) 12 373 16 f = f (vI (σ 373 16)) := Gf_int (w := (0, _)) rfl (by decide) rfl (by decide)
theorem pM_token {σ : St} {u : Bool × Nat × Nat × Int} {x : Int} {f : HS → Prop} : Pf (wH σ u) 12 373 16 (vI x) f = f (wH (su σ 373 16 x) u) := Pf_int (w := (0, _)) rfl (by decide) rfl (by decide) rfl
theorem gM_tokenAt {σ : St} {u : Bool × Nat × Nat × Int} {f : V → Prop} : Gf (wH σ u) 12 373 17 f = f (vI (σ 373 17)) := Gf_int (w := (0, _)) rfl (by decide) rfl (by decide)
theorem pM_tokenAt {σ : St} {u : Bool × Nat × Nat × Int} {x : Int} {f : HS → Prop} : Pf (wH σ u) 12 373 17 (vI x) f = f (wH (su σ 373 17 x) u) := Pf_int (w := (0, _)) rfl (by decide) rfl (by decide) rfl
theorem gM_wrong {σ : St} {u : Bool × Nat × Nat × Int} {f : V → Prop} : Gf (wH σ u) 12 373 18 f = f (vI (σ 373 18)) := Gf_int (w := (0, _)) rfl (by decide) rfl (by decide)
theorem pM_wrong {σ : St} {u : Bool × Nat × Nat × Int} {x : Int} {f : HS → Prop} : Pf (wH σ u) 12 373 18 (vI x) f = f (wH (su σ 373 18 x) u) := Pf_int (w := (0, _)) rfl (by decide) rfl (by decide) rfl
theorem gM_wrongAt {σ : St} {u : Bool × Nat × Nat × Int} {f : V → Prop} : Gf (wH σ u) 12 373 19 f = f (vI (σ 373 19)) := Gf_int (w := (0, _)) rfl (by decide) rfl (by decide)
theorem pM_wrongAt {σ : St} {u : Bool × Nat × Nat × Int} {x : Int} {f : HS → Prop} : Pf (wH σ u) 12 373 19 (vI x) f = f (wH (su σ 373 19 x) u) := Pf_int (w := (0, _)) rfl (by decide) rfl (by decide) rfl
theorem gM_faultKind {σ : St} {u : Bool × Nat × Nat × Int} {f : V → Prop} : Gf (wH σ u) 12 373 20 f = f (vI (σ 373 20)) := Gf_int (w := (0, _)) rfl (by decide) rfl (by decide)
theorem pM_faultKind {σ : St} {u : Bool × Nat × Nat × Int} {x : Int} {f : HS → Prop} : Pf (wH σ u) 12 373 20 (vI x) f = f (wH (su σ 373 20 x) u) := Pf_int (w := (0, _)) rfl (by decide) rfl (by decide) rfl
theorem gM_faultPlace {σ : St} {u : Bool × Nat × Nat × Int} {f : V → Prop} : Gf (wH σ u) 12 373 21 f = f (vI (σ 373 21)) := Gf_int (w := (0, _)) rfl (by decide) rfl (by decide)
theorem pM_faultPlace {σ : St} {u : Bool × Nat × Nat × Int} {x : Int} {f : HS → Prop} : Pf (wH σ u) 12 373 21 (vI x) f = f (wH (su σ 373 21 x) u) := Pf_int (w := (0, _)) rfl (by decide) rfl (by decide) rfl
theorem gM_read {σ : St} {u : Bool × Nat × Nat × Int} {f : V → Prop} : Gf (wH σ u) 12 373 22 f = f (vI (σ 373 22)) := Gf_int (w := (0, _)) rfl (by decide) rfl (by decide)
theorem pM_read {σ : St} {u : Bool × Nat × Nat × Int} {x : Int} {f : HS → Prop} : Pf (wH σ u) 12 373 22 (vI x) f = f (wH (su σ 373 22 x) u) := Pf_int (w := (0, _)) rfl (by decide) rfl (by decide) rfl
theorem gM_last {σ : St} {u : Bool × Nat × Nat × Int} {f : V → Prop} : Gf (wH σ u) 12 373 23 f = f (vI (σ 373 23)) := Gf_int (w := (0, _)) rfl (by decide) rfl (by decide)
theorem pM_last {σ : St} {u : Bool × Nat × Nat × Int} {x : Int} {f : HS → Prop} : Pf (wH σ u) 12 373 23 (vI x) f = f (wH (su σ 373 23 x) u) := Pf_int (w := (0, _)) rfl (by decide) rfl (by decide) rfl
theorem gM_list {σ : St} {u : Bool × Nat × Nat × Int} {f : V → Prop} : Gf (wH σ u) 12 373 24 f = f (vR 387) := Gf_ref (w := (0, _)) rfl (by decide) rfl
theorem rM_list {σ : St} {u : Bool × Nat × Nat × Int} {i : Int} (h0 : 0 ≤ i) (h1 : i < 3) : rdA (wH σ u) 0 387 i = some (σ 387 i) := rdA_w rfl (by decide) (by decide) h0 h1
theorem wM_list {σ : St} {u : Bool × Nat × Nat × Int} {i x : Int} (h0 : 0 ≤ i) (h1 : i < 3) : wrA (wH σ u) 0 387 i x = some (wH (su σ 387 i x) u) := wrA_w rfl (by decide) (by decide) h0 h1
theorem gM_seen {σ : St} {u : Bool × Nat × Nat × Int} {f : V → Prop} : Gf (wH σ u) 12 373 25 f = f (vR 388) := Gf_ref (w := (0, _)) rfl (by decide) rfl
theorem rM_seen {σ : St} {u : Bool × Nat × Nat × Int} {i : Int} (h0 : 0 ≤ i) (h1 : i < 100) : rdA (wH σ u) 1 388 i = some (σ 388 i) := rdA_w rfl (by decide) (by decide) h0 h1
theorem wM_seen {σ : St} {u : Bool × Nat × Nat × Int} {i x : Int} (h0 : 0 ≤ i) (h1 : i < 100) : wrA (wH σ u) 1 388 i x = some (wH (su σ 388 i x) u) := wrA_w rfl (by decide) (by decide) h0 h1
theorem gM_bound {σ : St} {u : Bool × Nat × Nat × Int} {f : V → Prop} : Gf (wH σ u) 12 373 26 f = f (vR 389) := Gf_ref (w := (0, _)) rfl (by decide) rfl
theorem rM_bound {σ : St} {u : Bool × Nat × Nat × Int} {i : Int} (h0 : 0 ≤ i) (h1 : i < 26) : rdA (wH σ u) 0 389 i = some (σ 389 i) := rdA_w rfl (by decide) (by decide) h0 h1
theorem wM_bound {σ : St} {u : Bool × Nat × Nat × Int} {i x : Int} (h0 : 0 ≤ i) (h1 : i < 26) : wrA (wH σ u) 0 389 i x = some (wH (su σ 389 i x) u) := wrA_w rfl (by decide) (by decide) h0 h1
theorem gM_hitRow {σ : St} {u : Bool × Nat × Nat × Int} {f : V → Prop} : Gf (wH σ u) 12 373 27 f = f (vR 390) := Gf_ref (w := (0, _)) rfl (by decide) rfl
theorem rM_hitRow {σ : St} {u : Bool × Nat × Nat × Int} {i : Int} (h0 : 0 ≤ i) (h1 : i < 3) : rdA (wH σ u) 0 390 i = some (σ 390 i) := rdA_w rfl (by decide) (by decide) h0 h1
theorem wM_hitRow {σ : St} {u : Bool × Nat × Nat × Int} {i x : Int} (h0 : 0 ≤ i) (h1 : i < 3) : wrA (wH σ u) 0 390 i x = some (wH (su σ 390 i x) u) := wrA_w rfl (by decide) (by decide) h0 h1
theorem gM_bestRow {σ : St} {u : Bool × Nat × Nat × Int} {f : V → Prop} : Gf (wH σ u) 12 373 28 f = f (vR 391) := Gf_ref (w := (0, _)) rfl (by decide) rfl
theorem rM_bestRow {σ : St} {u : Bool × Nat × Nat × Int} {i : Int} (h0 : 0 ≤ i) (h1 : i < 3) : rdA (wH σ u) 0 391 i = some (σ 391 i) := rdA_w rfl (by decide) (by decide) h0 h1
theorem wM_bestRow {σ : St} {u : Bool × Nat × Nat × Int} {i x : Int} (h0 : 0 ≤ i) (h1 : i < 3) : wrA (wH σ u) 0 391 i x = some (wH (su σ 391 i x) u) := wrA_w rfl (by decide) (by decide) h0 h1
theorem gM_was {σ : St} {u : Bool × Nat × Nat × Int} {f : V → Prop} : Gf (wH σ u) 12 373 29 f = f (vR 392) := Gf_ref (w := (0, _)) rfl (by decide) rfl
theorem rM_was {σ : St} {u : Bool × Nat × Nat × Int} {i : Int} (h0 : 0 ≤ i) (h1 : i < 234) : rdA (wH σ u) 0 392 i = some (σ 392 i) := rdA_w rfl (by decide) (by decide) h0 h1
theorem wM_was {σ : St} {u : Bool × Nat × Nat × Int} {i x : Int} (h0 : 0 ≤ i) (h1 : i < 234) : wrA (wH σ u) 0 392 i x = some (wH (su σ 392 i x) u) := wrA_w rfl (by decide) (by decide) h0 h1
theorem gM_hitMany {σ : St} {u : Bool × Nat × Nat × Int} {f : V → Prop} : Gf (wH σ u) 12 373 30 f = f (vI (σ 373 30)) := Gf_int (w := (0, _)) rfl (by decide) rfl (by decide)
theorem pM_hitMany {σ : St} {u : Bool × Nat × Nat × Int} {x : Int} {f : HS → Prop} : Pf (wH σ u) 12 373 30 (vI x) f = f (wH (su σ 373 30 x) u) := Pf_int (w := (0, _)) rfl (by decide) rfl (by decide) rfl
theorem gM_bestTop {σ : St} {u : Bool × Nat × Nat × Int} {f : V → Prop} : Gf (wH σ u) 12 373 31 f = f (vI (σ 373 31)) := Gf_int (w := (0, _)) rfl (by decide) rfl (by decide)
theorem pM_bestTop {σ : St} {u : Bool × Nat × Nat × Int} {x : Int} {f : HS → Prop} : Pf (wH σ u) 12 373 31 (vI x) f = f (wH (su σ 373 31 x) u) := Pf_int (w := (0, _)) rfl (by decide) rfl (by decide) rfl
theorem gM_some {σ : St} {u : Bool × Nat × Nat × Int} {f : V → Prop} : Gf (wH σ u) 12 373 32 f = f (vI (σ 373 32)) := Gf_int (w := (0, _)) rfl (by decide) rfl (by decide)
theorem gM_follow {σ : St} {u : Bool × Nat × Nat × Int} {f : V → Prop} : Gf (wH σ u) 12 373 33 f = f (vR 393) := Gf_ref (w := (0, _)) rfl (by decide) rfl
theorem rM_follow {σ : St} {u : Bool × Nat × Nat × Int} {i : Int} (h0 : 0 ≤ i) (h1 : i < 26) : rdA (wH σ u) 0 393 i = some (σ 393 i) := rdA_w rfl (by decide) (by decide) h0 h1
theorem wM_follow {σ : St} {u : Bool × Nat × Nat × Int} {i x : Int} (h0 : 0 ≤ i) (h1 : i < 26) : wrA (wH σ u) 0 393 i x = some (wH (su σ 393 i x) u) := wrA_w rfl (by decide) (by decide) h0 h1
theorem gM_stand {σ : St} {u : Bool × Nat × Nat × Int} {f : V → Prop} : Gf (wH σ u) 12 373 34 f = f (vR 394) := Gf_ref (w := (0, _)) rfl (by decide) rfl
theorem rM_stand {σ : St} {u : Bool × Nat × Nat × Int} {i : Int} (h0 : 0 ≤ i) (h1 : i < 100) : rdA (wH σ u) 0 394 i = some (σ 394 i) := rdA_w rfl (by decide) (by decide) h0 h1
theorem wM_stand {σ : St} {u : Bool × Nat × Nat × Int} {i x : Int} (h0 : 0 ≤ i) (h1 : i < 100) : wrA (wH σ u) 0 394 i x = some (wH (su σ 394 i x) u) := wrA_w rfl (by decide) (by decide) h0 h1
theorem gM_image {σ : St} {u : Bool × Nat × Nat × Int} {f : V → Prop} : Gf (wH σ u) 12 373 35 f = f (vR 395) := Gf_ref (w := (0, _)) rfl (by decide) rfl
theorem rM_image {σ : St} {u : Bool × Nat × Nat × Int} {i : Int} (h0 : 0 ≤ i) (h1 : i < 200) : rdA (wH σ u) 0 395 i = some (σ 395 i) := rdA_w rfl (by decide) (by decide) h0 h1
theorem wM_image {σ : St} {u : Bool × Nat × Nat × Int} {i x : Int} (h0 : 0 ≤ i) (h1 : i < 200) : wrA (wH σ u) 0 395 i x = some (wH (su σ 395 i x) u) := wrA_w rfl (by decide) (by decide) h0 h1
theorem gM_tries {σ : St} {u : Bool × Nat × Nat × Int} {f : V → Prop} : Gf (wH σ u) 12 373 36 f = f (vI (σ 373 36)) := Gf_int (w := (0, _)) rfl (by decide) rfl (by decide)
theorem pM_tries {σ : St} {u : Bool × Nat × Nat × Int} {x : Int} {f : HS → Prop} : Pf (wH σ u) 12 373 36 (vI x) f = f (wH (su σ 373 36 x) u) := Pf_int (w := (0, _)) rfl (by decide) rfl (by decide) rfl
theorem gM_latest {σ : St} {u : Bool × Nat × Nat × Int} {f : V → Prop} : Gf (wH σ u) 12 373 37 f = f (vI (σ 373 37)) := Gf_int (w := (0, _)) rfl (by decide) rfl (by decide)
theorem pM_latest {σ : St} {u : Bool × Nat × Nat × Int} {x : Int} {f : HS → Prop} : Pf (wH σ u) 12 373 37 (vI x) f = f (wH (su σ 373 37 x) u) := Pf_int (w := (0, _)) rfl (by decide) rfl (by decide) rfl
theorem gM_told {σ : St} {u : Bool × Nat × Nat × Int} {f : V → Prop} : Gf (wH σ u) 12 373 38 f = f (vR 396) := Gf_ref (w := (0, _)) rfl (by decide) rfl
theorem rM_told {σ : St} {u : Bool × Nat × Nat × Int} {i : Int} (h0 : 0 ≤ i) (h1 : i < 100) : rdA (wH σ u) 0 396 i = some (σ 396 i) := rdA_w rfl (by decide) (by decide) h0 h1
theorem wM_told {σ : St} {u : Bool × Nat × Nat × Int} {i x : Int} (h0 : 0 ≤ i) (h1 : i < 100) : wrA (wH σ u) 0 396 i x = some (wH (su σ 396 i x) u) := wrA_w rfl (by decide) (by decide) h0 h1
theorem gM_stays {σ : St} {u : Bool × Nat × Nat × Int} {f : V → Prop} : Gf (wH σ u) 12 373 39 f = f (vR 397) := Gf_ref (w := (0, _)) rfl (by decide) rfl
theorem rM_stays {σ : St} {u : Bool × Nat × Nat × Int} {i : Int} (h0 : 0 ≤ i) (h1 : i < 200) : rdA (wH σ u) 1 397 i = some (σ 397 i) := rdA_w rfl (by decide) (by decide) h0 h1
theorem wM_stays {σ : St} {u : Bool × Nat × Nat × Int} {i x : Int} (h0 : 0 ≤ i) (h1 : i < 200) : wrA (wH σ u) 1 397 i x = some (wH (su σ 397 i x) u) := wrA_w rfl (by decide) (by decide) h0 h1
theorem gM_found {σ : St} {u : Bool × Nat × Nat × Int} {f : V → Prop} : Gf (wH σ u) 12 373 40 f = f (vR 398) := Gf_ref (w := (0, _)) rfl (by decide) rfl
theorem rM_found {σ : St} {u : Bool × Nat × Nat × Int} {i : Int} (h0 : 0 ≤ i) (h1 : i < 4803) : rdA (wH σ u) 0 398 i = some (σ 398 i) := rdA_w rfl (by decide) (by decide) h0 h1
theorem wM_found {σ : St} {u : Bool × Nat × Nat × Int} {i x : Int} (h0 : 0 ≤ i) (h1 : i < 4803) : wrA (wH σ u) 0 398 i x = some (wH (su σ 398 i x) u) := wrA_w rfl (by decide) (by decide) h0 h1
theorem gM_asked {σ : St} {u : Bool × Nat × Nat × Int} {f : V → Prop} : Gf (wH σ u) 12 373 41 f = f (vR 399) := Gf_ref (w := (0, _)) rfl (by decide) rfl
theorem rM_asked {σ : St} {u : Bool × Nat × Nat × Int} {i : Int} (h0 : 0 ≤ i) (h1 : i < 3) : rdA (wH σ u) 0 399 i = some (σ 399 i) := rdA_w rfl (by decide) (by decide) h0 h1
theorem wM_asked {σ : St} {u : Bool × Nat × Nat × Int} {i x : Int} (h0 : 0 ≤ i) (h1 : i < 3) : wrA (wH σ u) 0 399 i x = some (wH (su σ 399 i x) u) := wrA_w rfl (by decide) (by decide) h0 h1
theorem gM_foundMany {σ : St} {u : Bool × Nat × Nat × Int} {f : V → Prop} : Gf (wH σ u) 12 373 42 f = f (vI (σ 373 42)) := Gf_int (w := (0, _)) rfl (by decide) rfl (by decide)
theorem pM_foundMany {σ : St} {u : Bool × Nat × Nat × Int} {x : Int} {f : HS → Prop} : Pf (wH σ u) 12 373 42 (vI x) f = f (wH (su σ 373 42 x) u) := Pf_int (w := (0, _)) rfl (by decide) rfl (by decide) rfl
theorem gM_askedMany {σ : St} {u : Bool × Nat × Nat × Int} {f : V → Prop} : Gf (wH σ u) 12 373 43 f = f (vI (σ 373 43)) := Gf_int (w := (0, _)) rfl (by decide) rfl (by decide)
theorem pM_askedMany {σ : St} {u : Bool × Nat × Nat × Int} {x : Int} {f : HS → Prop} : Pf (wH σ u) 12 373 43 (vI x) f = f (wH (su σ 373 43 x) u) := Pf_int (w := (0, _)) rfl (by decide) rfl (by decide) rfl
theorem gM_foundWide {σ : St} {u : Bool × Nat × Nat × Int} {f : V → Prop} : Gf (wH σ u) 12 373 44 f = f (vI (σ 373 44)) := Gf_int (w := (0, _)) rfl (by decide) rfl (by decide)
theorem pM_foundWide {σ : St} {u : Bool × Nat × Nat × Int} {x : Int} {f : HS → Prop} : Pf (wH σ u) 12 373 44 (vI x) f = f (wH (su σ 373 44 x) u) := Pf_int (w := (0, _)) rfl (by decide) rfl (by decide) rfl
theorem gM_leadsTo {σ : St} {u : Bool × Nat × Nat × Int} {f : V → Prop} : Gf (wH σ u) 12 373 45 f = f (vR 400) := Gf_ref (w := (0, _)) rfl (by decide) rfl
theorem rM_leadsTo {σ : St} {u : Bool × Nat × Nat × Int} {i : Int} (h0 : 0 ≤ i) (h1 : i < 6084) : rdA (wH σ u) 1 400 i = some (σ 400 i) := rdA_w rfl (by decide) (by decide) h0 h1
theorem wM_leadsTo {σ : St} {u : Bool × Nat × Nat × Int} {i x : Int} (h0 : 0 ≤ i) (h1 : i < 6084) : wrA (wH σ u) 1 400 i x = some (wH (su σ 400 i x) u) := wrA_w rfl (by decide) (by decide) h0 h1
theorem gM_isNew {σ : St} {u : Bool × Nat × Nat × Int} {f : V → Prop} : Gf (wH σ u) 12 373 46 f = f (vR 401) := Gf_ref (w := (0, _)) rfl (by decide) rfl
theorem rM_isNew {σ : St} {u : Bool × Nat × Nat × Int} {i : Int} (h0 : 0 ≤ i) (h1 : i < 6084) : rdA (wH σ u) 1 401 i = some (σ 401 i) := rdA_w rfl (by decide) (by decide) h0 h1
theorem wM_isNew {σ : St} {u : Bool × Nat × Nat × Int} {i x : Int} (h0 : 0 ≤ i) (h1 : i < 6084) : wrA (wH σ u) 1 401 i x = some (wH (su σ 401 i x) u) := wrA_w rfl (by decide) (by decide) h0 h1
theorem gM_ranks {σ : St} {u : Bool × Nat × Nat × Int} {f : V → Prop} : Gf (wH σ u) 12 373 47 f = f (vR 402) := Gf_ref (w := (0, _)) rfl (by decide) rfl
theorem rM_ranks {σ : St} {u : Bool × Nat × Nat × Int} {i : Int} (h0 : 0 ≤ i) (h1 : i < 78) : rdA (wH σ u) 0 402 i = some (σ 402 i) := rdA_w rfl (by decide) (by decide) h0 h1
theorem wM_ranks {σ : St} {u : Bool × Nat × Nat × Int} {i x : Int} (h0 : 0 ≤ i) (h1 : i < 78) : wrA (wH σ u) 0 402 i x = some (wH (su σ 402 i x) u) := wrA_w rfl (by decide) (by decide) h0 h1
theorem gM_reach {σ : St} {u : Bool × Nat × Nat × Int} {f : V → Prop} : Gf (wH σ u) 12 373 48 f = f (vR 403) := Gf_ref (w := (0, _)) rfl (by decide) rfl
theorem rM_reach {σ : St} {u : Bool × Nat × Nat × Int} {i : Int} (h0 : 0 ≤ i) (h1 : i < 6084) : rdA (wH σ u) 1 403 i = some (σ 403 i) := rdA_w rfl (by decide) (by decide) h0 h1
theorem wM_reach {σ : St} {u : Bool × Nat × Nat × Int} {i x : Int} (h0 : 0 ≤ i) (h1 : i < 6084) : wrA (wH σ u) 1 403 i x = some (wH (su σ 403 i x) u) := wrA_w rfl (by decide) (by decide) h0 h1
