/-! rows of runs, by wip/whole/gen11.py -/
set_option maxRecDepth 20000 in
theorem cd274 (pc : Nat) : cd 274 pc = lkp lc_274 pc := by
  unfold cd
  rw [show lcAll[274]? = some lc_274 from rfl]
  rfl
set_option maxRecDepth 20000 in
theorem x274_3I {sc : Scr} {d : Nat} {l0 l1 l2 l3 l4 l5 l6 : Option V} {st : List V} {hs : HS} {Q : Rs → HS → Prop} {a : Int} : Ex sc d 274 3 [l0, l1, l2, l3, l4, l5, l6] (vI a :: st) hs Q ↔ Ex sc d 274 4 [l0, l1, l2, l3, l4, l5, l6] (vI a :: vI a :: st) hs Q := e_dupI ((cd274 3).trans rfl)
set_option maxRecDepth 20000 in
theorem x274_3 {sc : Scr} {d : Nat} {l0 l1 l2 l3 l4 l5 l6 : Option V} {st : List V} {hs : HS} {Q : Rs → HS → Prop} {a : Nat} : Ex sc d 274 3 [l0, l1, l2, l3, l4, l5, l6] (vR a :: st) hs Q ↔ Ex sc d 274 4 [l0, l1, l2, l3, l4, l5, l6] (vR a :: vR a :: st) hs Q := e_dupR ((cd274 3).trans rfl)
set_option maxRecDepth 20000 in
theorem x274_4 {sc : Scr} {d : Nat} {l0 l1 l2 l3 l4 l5 l6 : Option V} {st : List V} {hs : HS} {Q : Rs → HS → Prop} {q : Nat} (hd : 0 < d) (hc : catS st ≤ 8) (ho : isObj hs 11 (vR q) = true) : Ex sc d 274 4 [l0, l1, l2, l3, l4, l5, l6] (vR q :: st) hs Q ↔ Ex sc (d - 1) 0 0 [some (vR q), none] [] hs (Kc sc d 274 4 7 [l0, l1, l2, l3, l4, l5, l6] st Q) := e_callI ((cd274 4).trans rfl) ho (by simp only [List.length_cons]; omega) (by decide) rfl rfl rfl hc rfl hd
set_option maxRecDepth 20000 in
theorem x274_7 {sc : Scr} {d : Nat} {l0 l1 l2 l3 l4 l5 l6 : Option V} {st : List V} {hs : HS} {Q : Rs → HS → Prop} {a : Nat} (hn : notL l0 = true) : Ex sc d 274 7 [l0, l1, l2, l3, l4, l5, l6] (vR a :: st) hs Q ↔ Ex sc d 274 8 [l0, some (vR a), l2, l3, l4, l5, l6] st hs Q := e_astore ((cd274 7).trans rfl) (by show 1 < 7; decide) (noL_of (j := 0) rfl hn) rfl
set_option maxRecDepth 20000 in
theorem x274_11I {sc : Scr} {d : Nat} {l0 l1 l2 l3 l4 l5 l6 : Option V} {st : List V} {hs : HS} {Q : Rs → HS → Prop} {a : Int} : Ex sc d 274 11 [l0, l1, l2, l3, l4, l5, l6] (vI a :: st) hs Q ↔ Ex sc d 274 12 [l0, l1, l2, l3, l4, l5, l6] (vI a :: vI a :: st) hs Q := e_dupI ((cd274 11).trans rfl)
set_option maxRecDepth 20000 in
theorem x274_11 {sc : Scr} {d : Nat} {l0 l1 l2 l3 l4 l5 l6 : Option V} {st : List V} {hs : HS} {Q : Rs → HS → Prop} {a : Nat} : Ex sc d 274 11 [l0, l1, l2, l3, l4, l5, l6] (vR a :: st) hs Q ↔ Ex sc d 274 12 [l0, l1, l2, l3, l4, l5, l6] (vR a :: vR a :: st) hs Q := e_dupR ((cd274 11).trans rfl)
set_option maxRecDepth 20000 in
theorem x274_12 {sc : Scr} {d : Nat} {l0 l1 l2 l3 l4 l5 l6 : Option V} {st : List V} {hs : HS} {Q : Rs → HS → Prop} {q : Nat} (hd : 0 < d) (hc : catS st ≤ 8) (ho : isObj hs 12 (vR q) = true) : Ex sc d 274 12 [l0, l1, l2, l3, l4, l5, l6] (vR q :: st) hs Q ↔ Ex sc (d - 1) 174 0 [some (vR q), none] [] hs (Kc sc d 274 12 15 [l0, l1, l2, l3, l4, l5, l6] st Q) := e_callI ((cd274 12).trans rfl) ho (by simp only [List.length_cons]; omega) (by decide) rfl rfl rfl hc rfl hd
set_option maxRecDepth 20000 in
theorem x274_15 {sc : Scr} {d : Nat} {l0 l1 l2 l3 l4 l5 l6 : Option V} {st : List V} {hs : HS} {Q : Rs → HS → Prop} {a : Nat} (hn : notL l1 = true) : Ex sc d 274 15 [l0, l1, l2, l3, l4, l5, l6] (vR a :: st) hs Q ↔ Ex sc d 274 16 [l0, l1, some (vR a), l3, l4, l5, l6] st hs Q := e_astore ((cd274 15).trans rfl) (by show 2 < 7; decide) (noL_of (j := 1) rfl hn) rfl
set_option maxRecDepth 20000 in
theorem x274_16 {sc : Scr} {d : Nat} {l0 l1 l2 l3 l4 l5 l6 : Option V} {st : List V} {hs : HS} {Q : Rs → HS → Prop} : Ex sc d 274 16 [l0, l1, l2, l3, l4, l5, l6] st hs Q ↔ Ex sc d 274 17 [l0, l1, l2, l3, l4, l5, l6] (vI (1) :: st) hs Q := e_iconst ((cd274 16).trans rfl)
set_option maxRecDepth 20000 in
theorem x274_19 {sc : Scr} {d : Nat} {l0 l1 l2 l3 l4 l5 l6 : Option V} {st : List V} {hs : HS} {Q : Rs → HS → Prop} {a : Nat} (hn : notL l2 = true) : Ex sc d 274 19 [l0, l1, l2, l3, l4, l5, l6] (vR a :: st) hs Q ↔ Ex sc d 274 20 [l0, l1, l2, some (vR a), l4, l5, l6] st hs Q := e_astore ((cd274 19).trans rfl) (by show 3 < 7; decide) (noL_of (j := 2) rfl hn) rfl
set_option maxRecDepth 20000 in
theorem x274_20 {sc : Scr} {d : Nat} {l0 l1 l2 l3 l4 l5 l6 : Option V} {st : List V} {hs : HS} {Q : Rs → HS → Prop} : Ex sc d 274 20 [l0, l1, l2, l3, l4, l5, l6] st hs Q ↔ Ex sc d 274 21 [l0, l1, l2, l3, l4, l5, l6] (vI (0) :: st) hs Q := e_iconst ((cd274 20).trans rfl)
set_option maxRecDepth 20000 in
theorem x274_21 {sc : Scr} {d : Nat} {l0 l1 l2 l3 l4 l5 l6 : Option V} {st : List V} {hs : HS} {Q : Rs → HS → Prop} {a : Int} (hn : notL l3 = true) : Ex sc d 274 21 [l0, l1, l2, l3, l4, l5, l6] (vI a :: st) hs Q ↔ Ex sc d 274 23 [l0, l1, l2, l3, some (vI a), l5, l6] st hs Q := e_istore ((cd274 21).trans rfl) (by show 4 < 7; decide) (noL_of (j := 3) rfl hn) rfl
set_option maxRecDepth 20000 in
theorem x274_23 {sc : Scr} {d : Nat} {l0 l1 l2 l3 l5 l6 : Option V} {st : List V} {hs : HS} {Q : Rs → HS → Prop} {a : Int} : Ex sc d 274 23 [l0, l1, l2, l3, some (vI a), l5, l6] st hs Q ↔ Ex sc d 274 25 [l0, l1, l2, l3, some (vI a), l5, l6] (vI a :: st) hs Q := e_iload ((cd274 23).trans rfl) rfl
set_option maxRecDepth 20000 in
theorem x274_25 {sc : Scr} {d : Nat} {l1 l2 l3 l4 l5 l6 : Option V} {st : List V} {hs : HS} {Q : Rs → HS → Prop} {a : Nat} : Ex sc d 274 25 [some (vS a), l1, l2, l3, l4, l5, l6] st hs Q ↔ Ex sc d 274 26 [some (vS a), l1, l2, l3, l4, l5, l6] (vS a :: st) hs Q := e_aloadS ((cd274 25).trans rfl) rfl
set_option maxRecDepth 20000 in
theorem x274_26 {sc : Scr} {d : Nat} {l0 l1 l2 l3 l4 l5 l6 : Option V} {st : List V} {hs : HS} {Q : Rs → HS → Prop} (hn : sc.1 < 2147483648) : Ex sc d 274 26 [l0, l1, l2, l3, l4, l5, l6] (vS 9 :: st) hs Q ↔ Ex sc d 274 27 [l0, l1, l2, l3, l4, l5, l6] (vI sc.1 :: st) hs Q := e_alenS ((cd274 26).trans rfl) hn
set_option maxRecDepth 20000 in
theorem x274_27 {sc : Scr} {d : Nat} {l0 l1 l2 l3 l4 l5 l6 : Option V} {st : List V} {hs : HS} {Q : Rs → HS → Prop} : Ex sc d 274 27 [l0, l1, l2, l3, l4, l5, l6] st hs Q ↔ Ex sc d 274 29 [l0, l1, l2, l3, l4, l5, l6] (vI (6) :: st) hs Q := e_iconst ((cd274 27).trans rfl)
set_option maxRecDepth 20000 in
theorem x274_29 {sc : Scr} {d : Nat} {l0 l1 l2 l3 l4 l5 l6 : Option V} {st : List V} {hs : HS} {Q : Rs → HS → Prop} {a b : Int} : Ex sc d 274 29 [l0, l1, l2, l3, l4, l5, l6] (vI b :: vI a :: st) hs Q ↔ Ex sc d 274 30 [l0, l1, l2, l3, l4, l5, l6] (vI (a - b) :: st) hs Q := e_isub ((cd274 29).trans rfl)
set_option maxRecDepth 20000 in
theorem x274_30 {sc : Scr} {d : Nat} {l0 l1 l2 l3 l4 l5 l6 : Option V} {st : List V} {hs : HS} {Q : Rs → HS → Prop} {a b : Int} (ha : inR a) (hb : inR b) : Ex sc d 274 30 [l0, l1, l2, l3, l4, l5, l6] (vI b :: vI a :: st) hs Q ↔ if b < a then Ex sc d 274 1666 [l0, l1, l2, l3, l4, l5, l6] st hs Q else Ex sc d 274 33 [l0, l1, l2, l3, l4, l5, l6] st hs Q := (e_icmp ((cd274 30).trans rfl) ha hb).trans (by simp only [cmpI, decide_eq_true_eq])
set_option maxRecDepth 20000 in
theorem x274_33 {sc : Scr} {d : Nat} {l1 l2 l3 l4 l5 l6 : Option V} {st : List V} {hs : HS} {Q : Rs → HS → Prop} {a : Nat} : Ex sc d 274 33 [some (vS a), l1, l2, l3, l4, l5, l6] st hs Q ↔ Ex sc d 274 34 [some (vS a), l1, l2, l3, l4, l5, l6] (vS a :: st) hs Q := e_aloadS ((cd274 33).trans rfl) rfl
set_option maxRecDepth 20000 in
theorem x274_34 {sc : Scr} {d : Nat} {l0 l1 l2 l3 l5 l6 : Option V} {st : List V} {hs : HS} {Q : Rs → HS → Prop} {a : Int} : Ex sc d 274 34 [l0, l1, l2, l3, some (vI a), l5, l6] st hs Q ↔ Ex sc d 274 36 [l0, l1, l2, l3, some (vI a), l5, l6] (vI a :: st) hs Q := e_iload ((cd274 34).trans rfl) rfl
set_option maxRecDepth 20000 in
theorem x274_36 {sc : Scr} {d : Nat} {l0 l1 l2 l3 l4 l5 l6 : Option V} {st : List V} {hs : HS} {Q : Rs → HS → Prop} {i : Int} (hq : 0 ≤ i ∧ i < (sc.1 : Int) ∧ sc.1 < 2147483648) : Ex sc d 274 36 [l0, l1, l2, l3, l4, l5, l6] (vI i :: vS 9 :: st) hs Q ↔ Ex sc d 274 37 [l0, l1, l2, l3, l4, l5, l6] (vI (sc.2 i.toNat) :: st) hs Q := e_ialdS ((cd274 36).trans rfl) hq
set_option maxRecDepth 20000 in
theorem x274_37 {sc : Scr} {d : Nat} {l0 l1 l2 l3 l4 l5 l6 : Option V} {st : List V} {hs : HS} {Q : Rs → HS → Prop} : Ex sc d 274 37 [l0, l1, l2, l3, l4, l5, l6] st hs Q ↔ Ex sc d 274 39 [l0, l1, l2, l3, l4, l5, l6] (vI (31) :: st) hs Q := e_iconst ((cd274 37).trans rfl)
set_option maxRecDepth 20000 in
theorem x274_39 {sc : Scr} {d : Nat} {l0 l1 l2 l3 l4 l5 l6 : Option V} {st : List V} {hs : HS} {Q : Rs → HS → Prop} {a b : Int} : Ex sc d 274 39 [l0, l1, l2, l3, l4, l5, l6] (vI b :: vI a :: st) hs Q ↔ Ex sc d 274 40 [l0, l1, l2, l3, l4, l5, l6] (vI (Int32.ofInt a &&& Int32.ofInt b).toInt :: st) hs Q := e_iand ((cd274 39).trans rfl)
set_option maxRecDepth 20000 in
theorem x274_40_0 {sc : Scr} {d : Nat} {l0 l1 l2 l3 l4 l5 l6 : Option V} {st : List V} {hs : HS} {Q : Rs → HS → Prop} : Ex sc d 274 40 [l0, l1, l2, l3, l4, l5, l6] (vI 0 :: st) hs Q ↔ Ex sc d 274 152 [l0, l1, l2, l3, l4, l5, l6] st hs Q := (e_tsw ((cd274 40).trans rfl) (by decide)).trans (by rw [if_neg (by decide)]; exact Iff.rfl)
set_option maxRecDepth 20000 in
theorem x274_40_1 {sc : Scr} {d : Nat} {l0 l1 l2 l3 l4 l5 l6 : Option V} {st : List V} {hs : HS} {Q : Rs → HS → Prop} : Ex sc d 274 40 [l0, l1, l2, l3, l4, l5, l6] (vI 1 :: st) hs Q ↔ Ex sc d 274 225 [l0, l1, l2, l3, l4, l5, l6] st hs Q := (e_tsw ((cd274 40).trans rfl) (by decide)).trans (by rw [if_neg (by decide)]; exact Iff.rfl)
set_option maxRecDepth 20000 in
theorem x274_40_2 {sc : Scr} {d : Nat} {l0 l1 l2 l3 l4 l5 l6 : Option V} {st : List V} {hs : HS} {Q : Rs → HS → Prop} : Ex sc d 274 40 [l0, l1, l2, l3, l4, l5, l6] (vI 2 :: st) hs Q ↔ Ex sc d 274 250 [l0, l1, l2, l3, l4, l5, l6] st hs Q := (e_tsw ((cd274 40).trans rfl) (by decide)).trans (by rw [if_neg (by decide)]; exact Iff.rfl)
set_option maxRecDepth 20000 in
theorem x274_40_3 {sc : Scr} {d : Nat} {l0 l1 l2 l3 l4 l5 l6 : Option V} {st : List V} {hs : HS} {Q : Rs → HS → Prop} : Ex sc d 274 40 [l0, l1, l2, l3, l4, l5, l6] (vI 3 :: st) hs Q ↔ Ex sc d 274 306 [l0, l1, l2, l3, l4, l5, l6] st hs Q := (e_tsw ((cd274 40).trans rfl) (by decide)).trans (by rw [if_neg (by decide)]; exact Iff.rfl)
set_option maxRecDepth 20000 in
theorem x274_40_4 {sc : Scr} {d : Nat} {l0 l1 l2 l3 l4 l5 l6 : Option V} {st : List V} {hs : HS} {Q : Rs → HS → Prop} : Ex sc d 274 40 [l0, l1, l2, l3, l4, l5, l6] (vI 4 :: st) hs Q ↔ Ex sc d 274 331 [l0, l1, l2, l3, l4, l5, l6] st hs Q := (e_tsw ((cd274 40).trans rfl) (by decide)).trans (by rw [if_neg (by decide)]; exact Iff.rfl)
set_option maxRecDepth 20000 in
theorem x274_40_5 {sc : Scr} {d : Nat} {l0 l1 l2 l3 l4 l5 l6 : Option V} {st : List V} {hs : HS} {Q : Rs → HS → Prop} : Ex sc d 274 40 [l0, l1, l2, l3, l4, l5, l6] (vI 5 :: st) hs Q ↔ Ex sc d 274 399 [l0, l1, l2, l3, l4, l5, l6] st hs Q := (e_tsw ((cd274 40).trans rfl) (by decide)).trans (by rw [if_neg (by decide)]; exact Iff.rfl)
set_option maxRecDepth 20000 in
theorem x274_40_6 {sc : Scr} {d : Nat} {l0 l1 l2 l3 l4 l5 l6 : Option V} {st : List V} {hs : HS} {Q : Rs → HS → Prop} : Ex sc d 274 40 [l0, l1, l2, l3, l4, l5, l6] (vI 6 :: st) hs Q ↔ Ex sc d 274 467 [l0, l1, l2, l3, l4, l5, l6] st hs Q := (e_tsw ((cd274 40).trans rfl) (by decide)).trans (by rw [if_neg (by decide)]; exact Iff.rfl)
set_option maxRecDepth 20000 in
theorem x274_40_7 {sc : Scr} {d : Nat} {l0 l1 l2 l3 l4 l5 l6 : Option V} {st : List V} {hs : HS} {Q : Rs → HS → Prop} : Ex sc d 274 40 [l0, l1, l2, l3, l4, l5, l6] (vI 7 :: st) hs Q ↔ Ex sc d 274 547 [l0, l1, l2, l3, l4, l5, l6] st hs Q := (e_tsw ((cd274 40).trans rfl) (by decide)).trans (by rw [if_neg (by decide)]; exact Iff.rfl)
set_option maxRecDepth 20000 in
theorem x274_40_8 {sc : Scr} {d : Nat} {l0 l1 l2 l3 l4 l5 l6 : Option V} {st : List V} {hs : HS} {Q : Rs → HS → Prop} : Ex sc d 274 40 [l0, l1, l2, l3, l4, l5, l6] (vI 8 :: st) hs Q ↔ Ex sc d 274 651 [l0, l1, l2, l3, l4, l5, l6] st hs Q := (e_tsw ((cd274 40).trans rfl) (by decide)).trans (by rw [if_neg (by decide)]; exact Iff.rfl)
set_option maxRecDepth 20000 in
theorem x274_40_9 {sc : Scr} {d : Nat} {l0 l1 l2 l3 l4 l5 l6 : Option V} {st : List V} {hs : HS} {Q : Rs → HS → Prop} : Ex sc d 274 40 [l0, l1, l2, l3, l4, l5, l6] (vI 9 :: st) hs Q ↔ Ex sc d 274 726 [l0, l1, l2, l3, l4, l5, l6] st hs Q := (e_tsw ((cd274 40).trans rfl) (by decide)).trans (by rw [if_neg (by decide)]; exact Iff.rfl)
set_option maxRecDepth 20000 in
theorem x274_40_10 {sc : Scr} {d : Nat} {l0 l1 l2 l3 l4 l5 l6 : Option V} {st : List V} {hs : HS} {Q : Rs → HS → Prop} : Ex sc d 274 40 [l0, l1, l2, l3, l4, l5, l6] (vI 10 :: st) hs Q ↔ Ex sc d 274 794 [l0, l1, l2, l3, l4, l5, l6] st hs Q := (e_tsw ((cd274 40).trans rfl) (by decide)).trans (by rw [if_neg (by decide)]; exact Iff.rfl)
set_option maxRecDepth 20000 in
theorem x274_40_11 {sc : Scr} {d : Nat} {l0 l1 l2 l3 l4 l5 l6 : Option V} {st : List V} {hs : HS} {Q : Rs → HS → Prop} : Ex sc d 274 40 [l0, l1, l2, l3, l4, l5, l6] (vI 11 :: st) hs Q ↔ Ex sc d 274 874 [l0, l1, l2, l3, l4, l5, l6] st hs Q := (e_tsw ((cd274 40).trans rfl) (by decide)).trans (by rw [if_neg (by decide)]; exact Iff.rfl)
set_option maxRecDepth 20000 in
theorem x274_40_12 {sc : Scr} {d : Nat} {l0 l1 l2 l3 l4 l5 l6 : Option V} {st : List V} {hs : HS} {Q : Rs → HS → Prop} : Ex sc d 274 40 [l0, l1, l2, l3, l4, l5, l6] (vI 12 :: st) hs Q ↔ Ex sc d 274 942 [l0, l1, l2, l3, l4, l5, l6] st hs Q := (e_tsw ((cd274 40).trans rfl) (by decide)).trans (by rw [if_neg (by decide)]; exact Iff.rfl)
set_option maxRecDepth 20000 in
theorem x274_40_13 {sc : Scr} {d : Nat} {l0 l1 l2 l3 l4 l5 l6 : Option V} {st : List V} {hs : HS} {Q : Rs → HS → Prop} : Ex sc d 274 40 [l0, l1, l2, l3, l4, l5, l6] (vI 13 :: st) hs Q ↔ Ex sc d 274 1010 [l0, l1, l2, l3, l4, l5, l6] st hs Q := (e_tsw ((cd274 40).trans rfl) (by decide)).trans (by rw [if_neg (by decide)]; exact Iff.rfl)
set_option maxRecDepth 20000 in
theorem x274_40_14 {sc : Scr} {d : Nat} {l0 l1 l2 l3 l4 l5 l6 : Option V} {st : List V} {hs : HS} {Q : Rs → HS → Prop} : Ex sc d 274 40 [l0, l1, l2, l3, l4, l5, l6] (vI 14 :: st) hs Q ↔ Ex sc d 274 1090 [l0, l1, l2, l3, l4, l5, l6] st hs Q := (e_tsw ((cd274 40).trans rfl) (by decide)).trans (by rw [if_neg (by decide)]; exact Iff.rfl)
set_option maxRecDepth 20000 in
theorem x274_40_15 {sc : Scr} {d : Nat} {l0 l1 l2 l3 l4 l5 l6 : Option V} {st : List V} {hs : HS} {Q : Rs → HS → Prop} : Ex sc d 274 40 [l0, l1, l2, l3, l4, l5, l6] (vI 15 :: st) hs Q ↔ Ex sc d 274 1158 [l0, l1, l2, l3, l4, l5, l6] st hs Q := (e_tsw ((cd274 40).trans rfl) (by decide)).trans (by rw [if_neg (by decide)]; exact Iff.rfl)
set_option maxRecDepth 20000 in
theorem x274_40_16 {sc : Scr} {d : Nat} {l0 l1 l2 l3 l4 l5 l6 : Option V} {st : List V} {hs : HS} {Q : Rs → HS → Prop} : Ex sc d 274 40 [l0, l1, l2, l3, l4, l5, l6] (vI 16 :: st) hs Q ↔ Ex sc d 274 1226 [l0, l1, l2, l3, l4, l5, l6] st hs Q := (e_tsw ((cd274 40).trans rfl) (by decide)).trans (by rw [if_neg (by decide)]; exact Iff.rfl)
set_option maxRecDepth 20000 in
theorem x274_40_17 {sc : Scr} {d : Nat} {l0 l1 l2 l3 l4 l5 l6 : Option V} {st : List V} {hs : HS} {Q : Rs → HS → Prop} : Ex sc d 274 40 [l0, l1, l2, l3, l4, l5, l6] (vI 17 :: st) hs Q ↔ Ex sc d 274 1251 [l0, l1, l2, l3, l4, l5, l6] st hs Q := (e_tsw ((cd274 40).trans rfl) (by decide)).trans (by rw [if_neg (by decide)]; exact Iff.rfl)
set_option maxRecDepth 20000 in
theorem x274_40_18 {sc : Scr} {d : Nat} {l0 l1 l2 l3 l4 l5 l6 : Option V} {st : List V} {hs : HS} {Q : Rs → HS → Prop} : Ex sc d 274 40 [l0, l1, l2, l3, l4, l5, l6] (vI 18 :: st) hs Q ↔ Ex sc d 274 1307 [l0, l1, l2, l3, l4, l5, l6] st hs Q := (e_tsw ((cd274 40).trans rfl) (by decide)).trans (by rw [if_neg (by decide)]; exact Iff.rfl)
set_option maxRecDepth 20000 in
theorem x274_40_19 {sc : Scr} {d : Nat} {l0 l1 l2 l3 l4 l5 l6 : Option V} {st : List V} {hs : HS} {Q : Rs → HS → Prop} : Ex sc d 274 40 [l0, l1, l2, l3, l4, l5, l6] (vI 19 :: st) hs Q ↔ Ex sc d 274 1363 [l0, l1, l2, l3, l4, l5, l6] st hs Q := (e_tsw ((cd274 40).trans rfl) (by decide)).trans (by rw [if_neg (by decide)]; exact Iff.rfl)
set_option maxRecDepth 20000 in
theorem x274_40_20 {sc : Scr} {d : Nat} {l0 l1 l2 l3 l4 l5 l6 : Option V} {st : List V} {hs : HS} {Q : Rs → HS → Prop} : Ex sc d 274 40 [l0, l1, l2, l3, l4, l5, l6] (vI 20 :: st) hs Q ↔ Ex sc d 274 1400 [l0, l1, l2, l3, l4, l5, l6] st hs Q := (e_tsw ((cd274 40).trans rfl) (by decide)).trans (by rw [if_neg (by decide)]; exact Iff.rfl)
set_option maxRecDepth 20000 in
theorem x274_40_21 {sc : Scr} {d : Nat} {l0 l1 l2 l3 l4 l5 l6 : Option V} {st : List V} {hs : HS} {Q : Rs → HS → Prop} : Ex sc d 274 40 [l0, l1, l2, l3, l4, l5, l6] (vI 21 :: st) hs Q ↔ Ex sc d 274 1456 [l0, l1, l2, l3, l4, l5, l6] st hs Q := (e_tsw ((cd274 40).trans rfl) (by decide)).trans (by rw [if_neg (by decide)]; exact Iff.rfl)
set_option maxRecDepth 20000 in
theorem x274_40_22 {sc : Scr} {d : Nat} {l0 l1 l2 l3 l4 l5 l6 : Option V} {st : List V} {hs : HS} {Q : Rs → HS → Prop} : Ex sc d 274 40 [l0, l1, l2, l3, l4, l5, l6] (vI 22 :: st) hs Q ↔ Ex sc d 274 1512 [l0, l1, l2, l3, l4, l5, l6] st hs Q := (e_tsw ((cd274 40).trans rfl) (by decide)).trans (by rw [if_neg (by decide)]; exact Iff.rfl)
set_option maxRecDepth 20000 in
theorem x274_40_23 {sc : Scr} {d : Nat} {l0 l1 l2 l3 l4 l5 l6 : Option V} {st : List V} {hs : HS} {Q : Rs → HS → Prop} : Ex sc d 274 40 [l0, l1, l2, l3, l4, l5, l6] (vI 23 :: st) hs Q ↔ Ex sc d 274 1592 [l0, l1, l2, l3, l4, l5, l6] st hs Q := (e_tsw ((cd274 40).trans rfl) (by decide)).trans (by rw [if_neg (by decide)]; exact Iff.rfl)
set_option maxRecDepth 20000 in
theorem x274_40 {sc : Scr} {d : Nat} {l0 l1 l2 l3 l4 l5 l6 : Option V} {st : List V} {hs : HS} {Q : Rs → HS → Prop} {a : Int} (ha : inR a) (hq : a < 0 ∨ 23 < a) : Ex sc d 274 40 [l0, l1, l2, l3, l4, l5, l6] (vI a :: st) hs Q ↔ Ex sc d 274 1660 [l0, l1, l2, l3, l4, l5, l6] st hs Q := (e_tsw ((cd274 40).trans rfl) ha).trans (by rw [if_pos hq]; exact Iff.rfl)
set_option maxRecDepth 20000 in
theorem x274_152 {sc : Scr} {d : Nat} {l0 l2 l3 l4 l5 l6 : Option V} {st : List V} {hs : HS} {Q : Rs → HS → Prop} {a : Nat} : Ex sc d 274 152 [l0, some (vR a), l2, l3, l4, l5, l6] st hs Q ↔ Ex sc d 274 153 [l0, some (vR a), l2, l3, l4, l5, l6] (vR a :: st) hs Q := e_aload ((cd274 152).trans rfl) rfl
set_option maxRecDepth 20000 in
theorem x274_153 {sc : Scr} {d : Nat} {l1 l2 l3 l4 l5 l6 : Option V} {st : List V} {hs : HS} {Q : Rs → HS → Prop} {a : Nat} : Ex sc d 274 153 [some (vS a), l1, l2, l3, l4, l5, l6] st hs Q ↔ Ex sc d 274 154 [some (vS a), l1, l2, l3, l4, l5, l6] (vS a :: st) hs Q := e_aloadS ((cd274 153).trans rfl) rfl
set_option maxRecDepth 20000 in
theorem x274_154 {sc : Scr} {d : Nat} {l0 l1 l2 l3 l5 l6 : Option V} {st : List V} {hs : HS} {Q : Rs → HS → Prop} {a : Int} : Ex sc d 274 154 [l0, l1, l2, l3, some (vI a), l5, l6] st hs Q ↔ Ex sc d 274 156 [l0, l1, l2, l3, some (vI a), l5, l6] (vI a :: st) hs Q := e_iload ((cd274 154).trans rfl) rfl
set_option maxRecDepth 20000 in
theorem x274_156 {sc : Scr} {d : Nat} {l0 l1 l2 l3 l4 l5 l6 : Option V} {st : List V} {hs : HS} {Q : Rs → HS → Prop} : Ex sc d 274 156 [l0, l1, l2, l3, l4, l5, l6] st hs Q ↔ Ex sc d 274 157 [l0, l1, l2, l3, l4, l5, l6] (vI (1) :: st) hs Q := e_iconst ((cd274 156).trans rfl)
set_option maxRecDepth 20000 in
theorem x274_157 {sc : Scr} {d : Nat} {l0 l1 l2 l3 l4 l5 l6 : Option V} {st : List V} {hs : HS} {Q : Rs → HS → Prop} {a b : Int} : Ex sc d 274 157 [l0, l1, l2, l3, l4, l5, l6] (vI b :: vI a :: st) hs Q ↔ Ex sc d 274 158 [l0, l1, l2, l3, l4, l5, l6] (vI (a + b) :: st) hs Q := e_iadd ((cd274 157).trans rfl)
set_option maxRecDepth 20000 in
theorem x274_158 {sc : Scr} {d : Nat} {l0 l1 l2 l3 l4 l5 l6 : Option V} {st : List V} {hs : HS} {Q : Rs → HS → Prop} {i : Int} (hq : 0 ≤ i ∧ i < (sc.1 : Int) ∧ sc.1 < 2147483648) : Ex sc d 274 158 [l0, l1, l2, l3, l4, l5, l6] (vI i :: vS 9 :: st) hs Q ↔ Ex sc d 274 159 [l0, l1, l2, l3, l4, l5, l6] (vI (sc.2 i.toNat) :: st) hs Q := e_ialdS ((cd274 158).trans rfl) hq
set_option maxRecDepth 20000 in
theorem x274_159 {sc : Scr} {d : Nat} {l1 l2 l3 l4 l5 l6 : Option V} {st : List V} {hs : HS} {Q : Rs → HS → Prop} {a : Nat} : Ex sc d 274 159 [some (vS a), l1, l2, l3, l4, l5, l6] st hs Q ↔ Ex sc d 274 160 [some (vS a), l1, l2, l3, l4, l5, l6] (vS a :: st) hs Q := e_aloadS ((cd274 159).trans rfl) rfl
set_option maxRecDepth 20000 in
theorem x274_160 {sc : Scr} {d : Nat} {l0 l1 l2 l3 l5 l6 : Option V} {st : List V} {hs : HS} {Q : Rs → HS → Prop} {a : Int} : Ex sc d 274 160 [l0, l1, l2, l3, some (vI a), l5, l6] st hs Q ↔ Ex sc d 274 162 [l0, l1, l2, l3, some (vI a), l5, l6] (vI a :: st) hs Q := e_iload ((cd274 160).trans rfl) rfl
set_option maxRecDepth 20000 in
theorem x274_162 {sc : Scr} {d : Nat} {l0 l1 l2 l3 l4 l5 l6 : Option V} {st : List V} {hs : HS} {Q : Rs → HS → Prop} : Ex sc d 274 162 [l0, l1, l2, l3, l4, l5, l6] st hs Q ↔ Ex sc d 274 163 [l0, l1, l2, l3, l4, l5, l6] (vI (2) :: st) hs Q := e_iconst ((cd274 162).trans rfl)
set_option maxRecDepth 20000 in
theorem x274_163 {sc : Scr} {d : Nat} {l0 l1 l2 l3 l4 l5 l6 : Option V} {st : List V} {hs : HS} {Q : Rs → HS → Prop} {a b : Int} : Ex sc d 274 163 [l0, l1, l2, l3, l4, l5, l6] (vI b :: vI a :: st) hs Q ↔ Ex sc d 274 164 [l0, l1, l2, l3, l4, l5, l6] (vI (a + b) :: st) hs Q := e_iadd ((cd274 163).trans rfl)
set_option maxRecDepth 20000 in
theorem x274_164 {sc : Scr} {d : Nat} {l0 l1 l2 l3 l4 l5 l6 : Option V} {st : List V} {hs : HS} {Q : Rs → HS → Prop} {i : Int} (hq : 0 ≤ i ∧ i < (sc.1 : Int) ∧ sc.1 < 2147483648) : Ex sc d 274 164 [l0, l1, l2, l3, l4, l5, l6] (vI i :: vS 9 :: st) hs Q ↔ Ex sc d 274 165 [l0, l1, l2, l3, l4, l5, l6] (vI (sc.2 i.toNat) :: st) hs Q := e_ialdS ((cd274 164).trans rfl) hq
set_option maxRecDepth 20000 in
theorem x274_165 {sc : Scr} {d : Nat} {l1 l2 l3 l4 l5 l6 : Option V} {st : List V} {hs : HS} {Q : Rs → HS → Prop} {a : Nat} : Ex sc d 274 165 [some (vS a), l1, l2, l3, l4, l5, l6] st hs Q ↔ Ex sc d 274 166 [some (vS a), l1, l2, l3, l4, l5, l6] (vS a :: st) hs Q := e_aloadS ((cd274 165).trans rfl) rfl
set_option maxRecDepth 20000 in
theorem x274_166 {sc : Scr} {d : Nat} {l0 l1 l2 l3 l5 l6 : Option V} {st : List V} {hs : HS} {Q : Rs → HS → Prop} {a : Int} : Ex sc d 274 166 [l0, l1, l2, l3, some (vI a), l5, l6] st hs Q ↔ Ex sc d 274 168 [l0, l1, l2, l3, some (vI a), l5, l6] (vI a :: st) hs Q := e_iload ((cd274 166).trans rfl) rfl
set_option maxRecDepth 20000 in
theorem x274_168 {sc : Scr} {d : Nat} {l0 l1 l2 l3 l4 l5 l6 : Option V} {st : List V} {hs : HS} {Q : Rs → HS → Prop} : Ex sc d 274 168 [l0, l1, l2, l3, l4, l5, l6] st hs Q ↔ Ex sc d 274 169 [l0, l1, l2, l3, l4, l5, l6] (vI (3) :: st) hs Q := e_iconst ((cd274 168).trans rfl)
set_option maxRecDepth 20000 in
theorem x274_169 {sc : Scr} {d : Nat} {l0 l1 l2 l3 l4 l5 l6 : Option V} {st : List V} {hs : HS} {Q : Rs → HS → Prop} {a b : Int} : Ex sc d 274 169 [l0, l1, l2, l3, l4, l5, l6] (vI b :: vI a :: st) hs Q ↔ Ex sc d 274 170 [l0, l1, l2, l3, l4, l5, l6] (vI (a + b) :: st) hs Q := e_iadd ((cd274 169).trans rfl)
set_option maxRecDepth 20000 in
theorem x274_170 {sc : Scr} {d : Nat} {l0 l1 l2 l3 l4 l5 l6 : Option V} {st : List V} {hs : HS} {Q : Rs → HS → Prop} {i : Int} (hq : 0 ≤ i ∧ i < (sc.1 : Int) ∧ sc.1 < 2147483648) : Ex sc d 274 170 [l0, l1, l2, l3, l4, l5, l6] (vI i :: vS 9 :: st) hs Q ↔ Ex sc d 274 171 [l0, l1, l2, l3, l4, l5, l6] (vI (sc.2 i.toNat) :: st) hs Q := e_ialdS ((cd274 170).trans rfl) hq
set_option maxRecDepth 20000 in
theorem x274_171 {sc : Scr} {d : Nat} {l1 l2 l3 l4 l5 l6 : Option V} {st : List V} {hs : HS} {Q : Rs → HS → Prop} {a : Nat} : Ex sc d 274 171 [some (vS a), l1, l2, l3, l4, l5, l6] st hs Q ↔ Ex sc d 274 172 [some (vS a), l1, l2, l3, l4, l5, l6] (vS a :: st) hs Q := e_aloadS ((cd274 171).trans rfl) rfl
set_option maxRecDepth 20000 in
theorem x274_172 {sc : Scr} {d : Nat} {l0 l1 l2 l3 l5 l6 : Option V} {st : List V} {hs : HS} {Q : Rs → HS → Prop} {a : Int} : Ex sc d 274 172 [l0, l1, l2, l3, some (vI a), l5, l6] st hs Q ↔ Ex sc d 274 174 [l0, l1, l2, l3, some (vI a), l5, l6] (vI a :: st) hs Q := e_iload ((cd274 172).trans rfl) rfl
set_option maxRecDepth 20000 in
theorem x274_174 {sc : Scr} {d : Nat} {l0 l1 l2 l3 l4 l5 l6 : Option V} {st : List V} {hs : HS} {Q : Rs → HS → Prop} : Ex sc d 274 174 [l0, l1, l2, l3, l4, l5, l6] st hs Q ↔ Ex sc d 274 175 [l0, l1, l2, l3, l4, l5, l6] (vI (4) :: st) hs Q := e_iconst ((cd274 174).trans rfl)
set_option maxRecDepth 20000 in
theorem x274_175 {sc : Scr} {d : Nat} {l0 l1 l2 l3 l4 l5 l6 : Option V} {st : List V} {hs : HS} {Q : Rs → HS → Prop} {a b : Int} : Ex sc d 274 175 [l0, l1, l2, l3, l4, l5, l6] (vI b :: vI a :: st) hs Q ↔ Ex sc d 274 176 [l0, l1, l2, l3, l4, l5, l6] (vI (a + b) :: st) hs Q := e_iadd ((cd274 175).trans rfl)
set_option maxRecDepth 20000 in
theorem x274_176 {sc : Scr} {d : Nat} {l0 l1 l2 l3 l4 l5 l6 : Option V} {st : List V} {hs : HS} {Q : Rs → HS → Prop} {i : Int} (hq : 0 ≤ i ∧ i < (sc.1 : Int) ∧ sc.1 < 2147483648) : Ex sc d 274 176 [l0, l1, l2, l3, l4, l5, l6] (vI i :: vS 9 :: st) hs Q ↔ Ex sc d 274 177 [l0, l1, l2, l3, l4, l5, l6] (vI (sc.2 i.toNat) :: st) hs Q := e_ialdS ((cd274 176).trans rfl) hq
set_option maxRecDepth 20000 in
theorem x274_177 {sc : Scr} {d : Nat} {l1 l2 l3 l4 l5 l6 : Option V} {st : List V} {hs : HS} {Q : Rs → HS → Prop} {a : Nat} : Ex sc d 274 177 [some (vS a), l1, l2, l3, l4, l5, l6] st hs Q ↔ Ex sc d 274 178 [some (vS a), l1, l2, l3, l4, l5, l6] (vS a :: st) hs Q := e_aloadS ((cd274 177).trans rfl) rfl
set_option maxRecDepth 20000 in
theorem x274_178 {sc : Scr} {d : Nat} {l0 l1 l2 l3 l5 l6 : Option V} {st : List V} {hs : HS} {Q : Rs → HS → Prop} {a : Int} : Ex sc d 274 178 [l0, l1, l2, l3, some (vI a), l5, l6] st hs Q ↔ Ex sc d 274 180 [l0, l1, l2, l3, some (vI a), l5, l6] (vI a :: st) hs Q := e_iload ((cd274 178).trans rfl) rfl
set_option maxRecDepth 20000 in
theorem x274_180 {sc : Scr} {d : Nat} {l0 l1 l2 l3 l4 l5 l6 : Option V} {st : List V} {hs : HS} {Q : Rs → HS → Prop} : Ex sc d 274 180 [l0, l1, l2, l3, l4, l5, l6] st hs Q ↔ Ex sc d 274 181 [l0, l1, l2, l3, l4, l5, l6] (vI (5) :: st) hs Q := e_iconst ((cd274 180).trans rfl)
set_option maxRecDepth 20000 in
theorem x274_181 {sc : Scr} {d : Nat} {l0 l1 l2 l3 l4 l5 l6 : Option V} {st : List V} {hs : HS} {Q : Rs → HS → Prop} {a b : Int} : Ex sc d 274 181 [l0, l1, l2, l3, l4, l5, l6] (vI b :: vI a :: st) hs Q ↔ Ex sc d 274 182 [l0, l1, l2, l3, l4, l5, l6] (vI (a + b) :: st) hs Q := e_iadd ((cd274 181).trans rfl)
set_option maxRecDepth 20000 in
theorem x274_182 {sc : Scr} {d : Nat} {l0 l1 l2 l3 l4 l5 l6 : Option V} {st : List V} {hs : HS} {Q : Rs → HS → Prop} {i : Int} (hq : 0 ≤ i ∧ i < (sc.1 : Int) ∧ sc.1 < 2147483648) : Ex sc d 274 182 [l0, l1, l2, l3, l4, l5, l6] (vI i :: vS 9 :: st) hs Q ↔ Ex sc d 274 183 [l0, l1, l2, l3, l4, l5, l6] (vI (sc.2 i.toNat) :: st) hs Q := e_ialdS ((cd274 182).trans rfl) hq
set_option maxRecDepth 20000 in
theorem x274_183 {sc : Scr} {d : Nat} {l0 l1 l2 l3 l4 l5 l6 : Option V} {st : List V} {hs : HS} {Q : Rs → HS → Prop} {a0 : Int} {a1 : Int} {a2 : Int} {a3 : Int} {a4 : Int} {q : Nat} (hd : 0 < d) (hc : catS st ≤ 8) (ho : isObj hs 11 (vR q) = true) : Ex sc d 274 183 [l0, l1, l2, l3, l4, l5, l6] (vI a4 :: vI a3 :: vI a2 :: vI a1 :: vI a0 :: vR q :: st) hs Q ↔ Ex sc (d - 1) 13 0 [some (vR q), some (vI a0), some (vI a1), some (vI a2), some (vI a3), some (vI a4)] [] hs (Kc sc d 274 183 186 [l0, l1, l2, l3, l4, l5, l6] st Q) := e_callV ((cd274 183).trans rfl) ho (by simp only [List.length_cons]; omega) (by decide) rfl rfl rfl hc rfl hd
set_option maxRecDepth 20000 in
theorem x274_186 {sc : Scr} {d : Nat} {l0 l1 l3 l4 l5 l6 : Option V} {st : List V} {hs : HS} {Q : Rs → HS → Prop} {a : Nat} : Ex sc d 274 186 [l0, l1, some (vR a), l3, l4, l5, l6] st hs Q ↔ Ex sc d 274 187 [l0, l1, some (vR a), l3, l4, l5, l6] (vR a :: st) hs Q := e_aload ((cd274 186).trans rfl) rfl
set_option maxRecDepth 20000 in
theorem x274_187 {sc : Scr} {d : Nat} {l1 l2 l3 l4 l5 l6 : Option V} {st : List V} {hs : HS} {Q : Rs → HS → Prop} {a : Nat} : Ex sc d 274 187 [some (vS a), l1, l2, l3, l4, l5, l6] st hs Q ↔ Ex sc d 274 188 [some (vS a), l1, l2, l3, l4, l5, l6] (vS a :: st) hs Q := e_aloadS ((cd274 187).trans rfl) rfl
set_option maxRecDepth 20000 in
theorem x274_188 {sc : Scr} {d : Nat} {l0 l1 l2 l3 l5 l6 : Option V} {st : List V} {hs : HS} {Q : Rs → HS → Prop} {a : Int} : Ex sc d 274 188 [l0, l1, l2, l3, some (vI a), l5, l6] st hs Q ↔ Ex sc d 274 190 [l0, l1, l2, l3, some (vI a), l5, l6] (vI a :: st) hs Q := e_iload ((cd274 188).trans rfl) rfl
set_option maxRecDepth 20000 in
theorem x274_190 {sc : Scr} {d : Nat} {l0 l1 l2 l3 l4 l5 l6 : Option V} {st : List V} {hs : HS} {Q : Rs → HS → Prop} : Ex sc d 274 190 [l0, l1, l2, l3, l4, l5, l6] st hs Q ↔ Ex sc d 274 191 [l0, l1, l2, l3, l4, l5, l6] (vI (1) :: st) hs Q := e_iconst ((cd274 190).trans rfl)
set_option maxRecDepth 20000 in
theorem x274_191 {sc : Scr} {d : Nat} {l0 l1 l2 l3 l4 l5 l6 : Option V} {st : List V} {hs : HS} {Q : Rs → HS → Prop} {a b : Int} : Ex sc d 274 191 [l0, l1, l2, l3, l4, l5, l6] (vI b :: vI a :: st) hs Q ↔ Ex sc d 274 192 [l0, l1, l2, l3, l4, l5, l6] (vI (a + b) :: st) hs Q := e_iadd ((cd274 191).trans rfl)
set_option maxRecDepth 20000 in
theorem x274_192 {sc : Scr} {d : Nat} {l0 l1 l2 l3 l4 l5 l6 : Option V} {st : List V} {hs : HS} {Q : Rs → HS → Prop} {i : Int} (hq : 0 ≤ i ∧ i < (sc.1 : Int) ∧ sc.1 < 2147483648) : Ex sc d 274 192 [l0, l1, l2, l3, l4, l5, l6] (vI i :: vS 9 :: st) hs Q ↔ Ex sc d 274 193 [l0, l1, l2, l3, l4, l5, l6] (vI (sc.2 i.toNat) :: st) hs Q := e_ialdS ((cd274 192).trans rfl) hq
set_option maxRecDepth 20000 in
theorem x274_193 {sc : Scr} {d : Nat} {l1 l2 l3 l4 l5 l6 : Option V} {st : List V} {hs : HS} {Q : Rs → HS → Prop} {a : Nat} : Ex sc d 274 193 [some (vS a), l1, l2, l3, l4, l5, l6] st hs Q ↔ Ex sc d 274 194 [some (vS a), l1, l2, l3, l4, l5, l6] (vS a :: st) hs Q := e_aloadS ((cd274 193).trans rfl) rfl
set_option maxRecDepth 20000 in
theorem x274_194 {sc : Scr} {d : Nat} {l0 l1 l2 l3 l5 l6 : Option V} {st : List V} {hs : HS} {Q : Rs → HS → Prop} {a : Int} : Ex sc d 274 194 [l0, l1, l2, l3, some (vI a), l5, l6] st hs Q ↔ Ex sc d 274 196 [l0, l1, l2, l3, some (vI a), l5, l6] (vI a :: st) hs Q := e_iload ((cd274 194).trans rfl) rfl
set_option maxRecDepth 20000 in
theorem x274_196 {sc : Scr} {d : Nat} {l0 l1 l2 l3 l4 l5 l6 : Option V} {st : List V} {hs : HS} {Q : Rs → HS → Prop} : Ex sc d 274 196 [l0, l1, l2, l3, l4, l5, l6] st hs Q ↔ Ex sc d 274 197 [l0, l1, l2, l3, l4, l5, l6] (vI (2) :: st) hs Q := e_iconst ((cd274 196).trans rfl)
set_option maxRecDepth 20000 in
theorem x274_197 {sc : Scr} {d : Nat} {l0 l1 l2 l3 l4 l5 l6 : Option V} {st : List V} {hs : HS} {Q : Rs → HS → Prop} {a b : Int} : Ex sc d 274 197 [l0, l1, l2, l3, l4, l5, l6] (vI b :: vI a :: st) hs Q ↔ Ex sc d 274 198 [l0, l1, l2, l3, l4, l5, l6] (vI (a + b) :: st) hs Q := e_iadd ((cd274 197).trans rfl)
set_option maxRecDepth 20000 in
theorem x274_198 {sc : Scr} {d : Nat} {l0 l1 l2 l3 l4 l5 l6 : Option V} {st : List V} {hs : HS} {Q : Rs → HS → Prop} {i : Int} (hq : 0 ≤ i ∧ i < (sc.1 : Int) ∧ sc.1 < 2147483648) : Ex sc d 274 198 [l0, l1, l2, l3, l4, l5, l6] (vI i :: vS 9 :: st) hs Q ↔ Ex sc d 274 199 [l0, l1, l2, l3, l4, l5, l6] (vI (sc.2 i.toNat) :: st) hs Q := e_ialdS ((cd274 198).trans rfl) hq
set_option maxRecDepth 20000 in
theorem x274_199 {sc : Scr} {d : Nat} {l1 l2 l3 l4 l5 l6 : Option V} {st : List V} {hs : HS} {Q : Rs → HS → Prop} {a : Nat} : Ex sc d 274 199 [some (vS a), l1, l2, l3, l4, l5, l6] st hs Q ↔ Ex sc d 274 200 [some (vS a), l1, l2, l3, l4, l5, l6] (vS a :: st) hs Q := e_aloadS ((cd274 199).trans rfl) rfl
set_option maxRecDepth 20000 in
theorem x274_200 {sc : Scr} {d : Nat} {l0 l1 l2 l3 l5 l6 : Option V} {st : List V} {hs : HS} {Q : Rs → HS → Prop} {a : Int} : Ex sc d 274 200 [l0, l1, l2, l3, some (vI a), l5, l6] st hs Q ↔ Ex sc d 274 202 [l0, l1, l2, l3, some (vI a), l5, l6] (vI a :: st) hs Q := e_iload ((cd274 200).trans rfl) rfl
set_option maxRecDepth 20000 in
theorem x274_202 {sc : Scr} {d : Nat} {l0 l1 l2 l3 l4 l5 l6 : Option V} {st : List V} {hs : HS} {Q : Rs → HS → Prop} : Ex sc d 274 202 [l0, l1, l2, l3, l4, l5, l6] st hs Q ↔ Ex sc d 274 203 [l0, l1, l2, l3, l4, l5, l6] (vI (3) :: st) hs Q := e_iconst ((cd274 202).trans rfl)
set_option maxRecDepth 20000 in
theorem x274_203 {sc : Scr} {d : Nat} {l0 l1 l2 l3 l4 l5 l6 : Option V} {st : List V} {hs : HS} {Q : Rs → HS → Prop} {a b : Int} : Ex sc d 274 203 [l0, l1, l2, l3, l4, l5, l6] (vI b :: vI a :: st) hs Q ↔ Ex sc d 274 204 [l0, l1, l2, l3, l4, l5, l6] (vI (a + b) :: st) hs Q := e_iadd ((cd274 203).trans rfl)
set_option maxRecDepth 20000 in
theorem x274_204 {sc : Scr} {d : Nat} {l0 l1 l2 l3 l4 l5 l6 : Option V} {st : List V} {hs : HS} {Q : Rs → HS → Prop} {i : Int} (hq : 0 ≤ i ∧ i < (sc.1 : Int) ∧ sc.1 < 2147483648) : Ex sc d 274 204 [l0, l1, l2, l3, l4, l5, l6] (vI i :: vS 9 :: st) hs Q ↔ Ex sc d 274 205 [l0, l1, l2, l3, l4, l5, l6] (vI (sc.2 i.toNat) :: st) hs Q := e_ialdS ((cd274 204).trans rfl) hq
set_option maxRecDepth 20000 in
theorem x274_205 {sc : Scr} {d : Nat} {l1 l2 l3 l4 l5 l6 : Option V} {st : List V} {hs : HS} {Q : Rs → HS → Prop} {a : Nat} : Ex sc d 274 205 [some (vS a), l1, l2, l3, l4, l5, l6] st hs Q ↔ Ex sc d 274 206 [some (vS a), l1, l2, l3, l4, l5, l6] (vS a :: st) hs Q := e_aloadS ((cd274 205).trans rfl) rfl
set_option maxRecDepth 20000 in
theorem x274_206 {sc : Scr} {d : Nat} {l0 l1 l2 l3 l5 l6 : Option V} {st : List V} {hs : HS} {Q : Rs → HS → Prop} {a : Int} : Ex sc d 274 206 [l0, l1, l2, l3, some (vI a), l5, l6] st hs Q ↔ Ex sc d 274 208 [l0, l1, l2, l3, some (vI a), l5, l6] (vI a :: st) hs Q := e_iload ((cd274 206).trans rfl) rfl
set_option maxRecDepth 20000 in
theorem x274_208 {sc : Scr} {d : Nat} {l0 l1 l2 l3 l4 l5 l6 : Option V} {st : List V} {hs : HS} {Q : Rs → HS → Prop} : Ex sc d 274 208 [l0, l1, l2, l3, l4, l5, l6] st hs Q ↔ Ex sc d 274 209 [l0, l1, l2, l3, l4, l5, l6] (vI (4) :: st) hs Q := e_iconst ((cd274 208).trans rfl)
set_option maxRecDepth 20000 in
theorem x274_209 {sc : Scr} {d : Nat} {l0 l1 l2 l3 l4 l5 l6 : Option V} {st : List V} {hs : HS} {Q : Rs → HS → Prop} {a b : Int} : Ex sc d 274 209 [l0, l1, l2, l3, l4, l5, l6] (vI b :: vI a :: st) hs Q ↔ Ex sc d 274 210 [l0, l1, l2, l3, l4, l5, l6] (vI (a + b) :: st) hs Q := e_iadd ((cd274 209).trans rfl)
set_option maxRecDepth 20000 in
theorem x274_210 {sc : Scr} {d : Nat} {l0 l1 l2 l3 l4 l5 l6 : Option V} {st : List V} {hs : HS} {Q : Rs → HS → Prop} {i : Int} (hq : 0 ≤ i ∧ i < (sc.1 : Int) ∧ sc.1 < 2147483648) : Ex sc d 274 210 [l0, l1, l2, l3, l4, l5, l6] (vI i :: vS 9 :: st) hs Q ↔ Ex sc d 274 211 [l0, l1, l2, l3, l4, l5, l6] (vI (sc.2 i.toNat) :: st) hs Q := e_ialdS ((cd274 210).trans rfl) hq
set_option maxRecDepth 20000 in
theorem x274_211 {sc : Scr} {d : Nat} {l1 l2 l3 l4 l5 l6 : Option V} {st : List V} {hs : HS} {Q : Rs → HS → Prop} {a : Nat} : Ex sc d 274 211 [some (vS a), l1, l2, l3, l4, l5, l6] st hs Q ↔ Ex sc d 274 212 [some (vS a), l1, l2, l3, l4, l5, l6] (vS a :: st) hs Q := e_aloadS ((cd274 211).trans rfl) rfl
set_option maxRecDepth 20000 in
theorem x274_212 {sc : Scr} {d : Nat} {l0 l1 l2 l3 l5 l6 : Option V} {st : List V} {hs : HS} {Q : Rs → HS → Prop} {a : Int} : Ex sc d 274 212 [l0, l1, l2, l3, some (vI a), l5, l6] st hs Q ↔ Ex sc d 274 214 [l0, l1, l2, l3, some (vI a), l5, l6] (vI a :: st) hs Q := e_iload ((cd274 212).trans rfl) rfl
set_option maxRecDepth 20000 in
theorem x274_214 {sc : Scr} {d : Nat} {l0 l1 l2 l3 l4 l5 l6 : Option V} {st : List V} {hs : HS} {Q : Rs → HS → Prop} : Ex sc d 274 214 [l0, l1, l2, l3, l4, l5, l6] st hs Q ↔ Ex sc d 274 215 [l0, l1, l2, l3, l4, l5, l6] (vI (5) :: st) hs Q := e_iconst ((cd274 214).trans rfl)
set_option maxRecDepth 20000 in
theorem x274_215 {sc : Scr} {d : Nat} {l0 l1 l2 l3 l4 l5 l6 : Option V} {st : List V} {hs : HS} {Q : Rs → HS → Prop} {a b : Int} : Ex sc d 274 215 [l0, l1, l2, l3, l4, l5, l6] (vI b :: vI a :: st) hs Q ↔ Ex sc d 274 216 [l0, l1, l2, l3, l4, l5, l6] (vI (a + b) :: st) hs Q := e_iadd ((cd274 215).trans rfl)
set_option maxRecDepth 20000 in
theorem x274_216 {sc : Scr} {d : Nat} {l0 l1 l2 l3 l4 l5 l6 : Option V} {st : List V} {hs : HS} {Q : Rs → HS → Prop} {i : Int} (hq : 0 ≤ i ∧ i < (sc.1 : Int) ∧ sc.1 < 2147483648) : Ex sc d 274 216 [l0, l1, l2, l3, l4, l5, l6] (vI i :: vS 9 :: st) hs Q ↔ Ex sc d 274 217 [l0, l1, l2, l3, l4, l5, l6] (vI (sc.2 i.toNat) :: st) hs Q := e_ialdS ((cd274 216).trans rfl) hq
set_option maxRecDepth 20000 in
theorem x274_217 {sc : Scr} {d : Nat} {l0 l1 l2 l3 l4 l5 l6 : Option V} {st : List V} {hs : HS} {Q : Rs → HS → Prop} {a0 : Int} {a1 : Int} {a2 : Int} {a3 : Int} {a4 : Int} {q : Nat} (hd : 0 < d) (hc : catS st ≤ 8) (ho : isObj hs 12 (vR q) = true) : Ex sc d 274 217 [l0, l1, l2, l3, l4, l5, l6] (vI a4 :: vI a3 :: vI a2 :: vI a1 :: vI a0 :: vR q :: st) hs Q ↔ Ex sc (d - 1) 178 0 [some (vR q), some (vI a0), some (vI a1), some (vI a2), some (vI a3), some (vI a4), none, none] [] hs (Kc sc d 274 217 220 [l0, l1, l2, l3, l4, l5, l6] st Q) := e_callV ((cd274 217).trans rfl) ho (by simp only [List.length_cons]; omega) (by decide) rfl rfl rfl hc rfl hd
set_option maxRecDepth 20000 in
theorem x274_220 {sc : Scr} {d : Nat} {l0 l1 l2 l3 l4 l5 l6 : Option V} {st : List V} {hs : HS} {Q : Rs → HS → Prop} {a b : Int} (ha : inR a) (hb : inR b) : Ex sc d 274 220 [l0, l1, l2, l3, l4, l5, l6] (vI b :: vI a :: st) hs Q ↔ if a = b then Ex sc d 274 1660 [l0, l1, l2, l3, l4, l5, l6] st hs Q else Ex sc d 274 223 [l0, l1, l2, l3, l4, l5, l6] st hs Q := (e_icmp ((cd274 220).trans rfl) ha hb).trans (by simp only [cmpI, decide_eq_true_eq])
set_option maxRecDepth 20000 in
theorem x274_223 {sc : Scr} {d : Nat} {l0 l1 l2 l3 l4 l5 l6 : Option V} {st : List V} {hs : HS} {Q : Rs → HS → Prop} : Ex sc d 274 223 [l0, l1, l2, l3, l4, l5, l6] st hs Q ↔ Ex sc d 274 224 [l0, l1, l2, l3, l4, l5, l6] (vI (0) :: st) hs Q := e_iconst ((cd274 223).trans rfl)
set_option maxRecDepth 20000 in
theorem x274_224 {sc : Scr} {d : Nat} {l0 l1 l2 l3 l4 l5 l6 : Option V} {hs : HS} {Q : Rs → HS → Prop} {a : Int} (ha : a = 0 ∨ a = 1) : Ex sc d 274 224 [l0, l1, l2, l3, l4, l5, l6] [vI a] hs Q ↔ Q (.inl (some (vI a))) hs := e_zret ((cd274 224).trans rfl) rfl ha
set_option maxRecDepth 20000 in
theorem x274_225 {sc : Scr} {d : Nat} {l0 l2 l3 l4 l5 l6 : Option V} {st : List V} {hs : HS} {Q : Rs → HS → Prop} {a : Nat} : Ex sc d 274 225 [l0, some (vR a), l2, l3, l4, l5, l6] st hs Q ↔ Ex sc d 274 226 [l0, some (vR a), l2, l3, l4, l5, l6] (vR a :: st) hs Q := e_aload ((cd274 225).trans rfl) rfl
set_option maxRecDepth 20000 in
theorem x274_226 {sc : Scr} {d : Nat} {l1 l2 l3 l4 l5 l6 : Option V} {st : List V} {hs : HS} {Q : Rs → HS → Prop} {a : Nat} : Ex sc d 274 226 [some (vS a), l1, l2, l3, l4, l5, l6] st hs Q ↔ Ex sc d 274 227 [some (vS a), l1, l2, l3, l4, l5, l6] (vS a :: st) hs Q := e_aloadS ((cd274 226).trans rfl) rfl
set_option maxRecDepth 20000 in
theorem x274_227 {sc : Scr} {d : Nat} {l0 l1 l2 l3 l5 l6 : Option V} {st : List V} {hs : HS} {Q : Rs → HS → Prop} {a : Int} : Ex sc d 274 227 [l0, l1, l2, l3, some (vI a), l5, l6] st hs Q ↔ Ex sc d 274 229 [l0, l1, l2, l3, some (vI a), l5, l6] (vI a :: st) hs Q := e_iload ((cd274 227).trans rfl) rfl
set_option maxRecDepth 20000 in
theorem x274_229 {sc : Scr} {d : Nat} {l0 l1 l2 l3 l4 l5 l6 : Option V} {st : List V} {hs : HS} {Q : Rs → HS → Prop} : Ex sc d 274 229 [l0, l1, l2, l3, l4, l5, l6] st hs Q ↔ Ex sc d 274 230 [l0, l1, l2, l3, l4, l5, l6] (vI (1) :: st) hs Q := e_iconst ((cd274 229).trans rfl)
set_option maxRecDepth 20000 in
theorem x274_230 {sc : Scr} {d : Nat} {l0 l1 l2 l3 l4 l5 l6 : Option V} {st : List V} {hs : HS} {Q : Rs → HS → Prop} {a b : Int} : Ex sc d 274 230 [l0, l1, l2, l3, l4, l5, l6] (vI b :: vI a :: st) hs Q ↔ Ex sc d 274 231 [l0, l1, l2, l3, l4, l5, l6] (vI (a + b) :: st) hs Q := e_iadd ((cd274 230).trans rfl)
set_option maxRecDepth 20000 in
theorem x274_231 {sc : Scr} {d : Nat} {l0 l1 l2 l3 l4 l5 l6 : Option V} {st : List V} {hs : HS} {Q : Rs → HS → Prop} {i : Int} (hq : 0 ≤ i ∧ i < (sc.1 : Int) ∧ sc.1 < 2147483648) : Ex sc d 274 231 [l0, l1, l2, l3, l4, l5, l6] (vI i :: vS 9 :: st) hs Q ↔ Ex sc d 274 232 [l0, l1, l2, l3, l4, l5, l6] (vI (sc.2 i.toNat) :: st) hs Q := e_ialdS ((cd274 231).trans rfl) hq
set_option maxRecDepth 20000 in
theorem x274_232 {sc : Scr} {d : Nat} {l0 l1 l2 l3 l4 l5 l6 : Option V} {st : List V} {hs : HS} {Q : Rs → HS → Prop} {a0 : Int} {q : Nat} (hd : 0 < d) (hc : catS st ≤ 8) (ho : isObj hs 11 (vR q) = true) : Ex sc d 274 232 [l0, l1, l2, l3, l4, l5, l6] (vI a0 :: vR q :: st) hs Q ↔ Ex sc (d - 1) 15 0 [some (vR q), some (vI a0)] [] hs (Kc sc d 274 232 235 [l0, l1, l2, l3, l4, l5, l6] st Q) := e_callV ((cd274 232).trans rfl) ho (by simp only [List.length_cons]; omega) (by decide) rfl rfl rfl hc rfl hd
set_option maxRecDepth 20000 in
theorem x274_235 {sc : Scr} {d : Nat} {l0 l1 l3 l4 l5 l6 : Option V} {st : List V} {hs : HS} {Q : Rs → HS → Prop} {a : Nat} : Ex sc d 274 235 [l0, l1, some (vR a), l3, l4, l5, l6] st hs Q ↔ Ex sc d 274 236 [l0, l1, some (vR a), l3, l4, l5, l6] (vR a :: st) hs Q := e_aload ((cd274 235).trans rfl) rfl
set_option maxRecDepth 20000 in
theorem x274_236 {sc : Scr} {d : Nat} {l1 l2 l3 l4 l5 l6 : Option V} {st : List V} {hs : HS} {Q : Rs → HS → Prop} {a : Nat} : Ex sc d 274 236 [some (vS a), l1, l2, l3, l4, l5, l6] st hs Q ↔ Ex sc d 274 237 [some (vS a), l1, l2, l3, l4, l5, l6] (vS a :: st) hs Q := e_aloadS ((cd274 236).trans rfl) rfl
set_option maxRecDepth 20000 in
theorem x274_237 {sc : Scr} {d : Nat} {l0 l1 l2 l3 l5 l6 : Option V} {st : List V} {hs : HS} {Q : Rs → HS → Prop} {a : Int} : Ex sc d 274 237 [l0, l1, l2, l3, some (vI a), l5, l6] st hs Q ↔ Ex sc d 274 239 [l0, l1, l2, l3, some (vI a), l5, l6] (vI a :: st) hs Q := e_iload ((cd274 237).trans rfl) rfl
set_option maxRecDepth 20000 in
theorem x274_239 {sc : Scr} {d : Nat} {l0 l1 l2 l3 l4 l5 l6 : Option V} {st : List V} {hs : HS} {Q : Rs → HS → Prop} : Ex sc d 274 239 [l0, l1, l2, l3, l4, l5, l6] st hs Q ↔ Ex sc d 274 240 [l0, l1, l2, l3, l4, l5, l6] (vI (1) :: st) hs Q := e_iconst ((cd274 239).trans rfl)
set_option maxRecDepth 20000 in
theorem x274_240 {sc : Scr} {d : Nat} {l0 l1 l2 l3 l4 l5 l6 : Option V} {st : List V} {hs : HS} {Q : Rs → HS → Prop} {a b : Int} : Ex sc d 274 240 [l0, l1, l2, l3, l4, l5, l6] (vI b :: vI a :: st) hs Q ↔ Ex sc d 274 241 [l0, l1, l2, l3, l4, l5, l6] (vI (a + b) :: st) hs Q := e_iadd ((cd274 240).trans rfl)
set_option maxRecDepth 20000 in
theorem x274_241 {sc : Scr} {d : Nat} {l0 l1 l2 l3 l4 l5 l6 : Option V} {st : List V} {hs : HS} {Q : Rs → HS → Prop} {i : Int} (hq : 0 ≤ i ∧ i < (sc.1 : Int) ∧ sc.1 < 2147483648) : Ex sc d 274 241 [l0, l1, l2, l3, l4, l5, l6] (vI i :: vS 9 :: st) hs Q ↔ Ex sc d 274 242 [l0, l1, l2, l3, l4, l5, l6] (vI (sc.2 i.toNat) :: st) hs Q := e_ialdS ((cd274 241).trans rfl) hq
set_option maxRecDepth 20000 in
theorem x274_242 {sc : Scr} {d : Nat} {l0 l1 l2 l3 l4 l5 l6 : Option V} {st : List V} {hs : HS} {Q : Rs → HS → Prop} {a0 : Int} {q : Nat} (hd : 0 < d) (hc : catS st ≤ 8) (ho : isObj hs 12 (vR q) = true) : Ex sc d 274 242 [l0, l1, l2, l3, l4, l5, l6] (vI a0 :: vR q :: st) hs Q ↔ Ex sc (d - 1) 179 0 [some (vR q), some (vI a0)] [] hs (Kc sc d 274 242 245 [l0, l1, l2, l3, l4, l5, l6] st Q) := e_callV ((cd274 242).trans rfl) ho (by simp only [List.length_cons]; omega) (by decide) rfl rfl rfl hc rfl hd
set_option maxRecDepth 20000 in
theorem x274_245 {sc : Scr} {d : Nat} {l0 l1 l2 l3 l4 l5 l6 : Option V} {st : List V} {hs : HS} {Q : Rs → HS → Prop} {a b : Int} (ha : inR a) (hb : inR b) : Ex sc d 274 245 [l0, l1, l2, l3, l4, l5, l6] (vI b :: vI a :: st) hs Q ↔ if a = b then Ex sc d 274 1660 [l0, l1, l2, l3, l4, l5, l6] st hs Q else Ex sc d 274 248 [l0, l1, l2, l3, l4, l5, l6] st hs Q := (e_icmp ((cd274 245).trans rfl) ha hb).trans (by simp only [cmpI, decide_eq_true_eq])
set_option maxRecDepth 20000 in
theorem x274_248 {sc : Scr} {d : Nat} {l0 l1 l2 l3 l4 l5 l6 : Option V} {st : List V} {hs : HS} {Q : Rs → HS → Prop} : Ex sc d 274 248 [l0, l1, l2, l3, l4, l5, l6] st hs Q ↔ Ex sc d 274 249 [l0, l1, l2, l3, l4, l5, l6] (vI (0) :: st) hs Q := e_iconst ((cd274 248).trans rfl)
set_option maxRecDepth 20000 in
theorem x274_249 {sc : Scr} {d : Nat} {l0 l1 l2 l3 l4 l5 l6 : Option V} {hs : HS} {Q : Rs → HS → Prop} {a : Int} (ha : a = 0 ∨ a = 1) : Ex sc d 274 249 [l0, l1, l2, l3, l4, l5, l6] [vI a] hs Q ↔ Q (.inl (some (vI a))) hs := e_zret ((cd274 249).trans rfl) rfl ha
set_option maxRecDepth 20000 in
theorem x274_250 {sc : Scr} {d : Nat} {l0 l2 l3 l4 l5 l6 : Option V} {st : List V} {hs : HS} {Q : Rs → HS → Prop} {a : Nat} : Ex sc d 274 250 [l0, some (vR a), l2, l3, l4, l5, l6] st hs Q ↔ Ex sc d 274 251 [l0, some (vR a), l2, l3, l4, l5, l6] (vR a :: st) hs Q := e_aload ((cd274 250).trans rfl) rfl
set_option maxRecDepth 20000 in
theorem x274_251 {sc : Scr} {d : Nat} {l1 l2 l3 l4 l5 l6 : Option V} {st : List V} {hs : HS} {Q : Rs → HS → Prop} {a : Nat} : Ex sc d 274 251 [some (vS a), l1, l2, l3, l4, l5, l6] st hs Q ↔ Ex sc d 274 252 [some (vS a), l1, l2, l3, l4, l5, l6] (vS a :: st) hs Q := e_aloadS ((cd274 251).trans rfl) rfl
set_option maxRecDepth 20000 in
theorem x274_252 {sc : Scr} {d : Nat} {l0 l1 l2 l3 l5 l6 : Option V} {st : List V} {hs : HS} {Q : Rs → HS → Prop} {a : Int} : Ex sc d 274 252 [l0, l1, l2, l3, some (vI a), l5, l6] st hs Q ↔ Ex sc d 274 254 [l0, l1, l2, l3, some (vI a), l5, l6] (vI a :: st) hs Q := e_iload ((cd274 252).trans rfl) rfl
set_option maxRecDepth 20000 in
theorem x274_254 {sc : Scr} {d : Nat} {l0 l1 l2 l3 l4 l5 l6 : Option V} {st : List V} {hs : HS} {Q : Rs → HS → Prop} : Ex sc d 274 254 [l0, l1, l2, l3, l4, l5, l6] st hs Q ↔ Ex sc d 274 255 [l0, l1, l2, l3, l4, l5, l6] (vI (1) :: st) hs Q := e_iconst ((cd274 254).trans rfl)
set_option maxRecDepth 20000 in
theorem x274_255 {sc : Scr} {d : Nat} {l0 l1 l2 l3 l4 l5 l6 : Option V} {st : List V} {hs : HS} {Q : Rs → HS → Prop} {a b : Int} : Ex sc d 274 255 [l0, l1, l2, l3, l4, l5, l6] (vI b :: vI a :: st) hs Q ↔ Ex sc d 274 256 [l0, l1, l2, l3, l4, l5, l6] (vI (a + b) :: st) hs Q := e_iadd ((cd274 255).trans rfl)
set_option maxRecDepth 20000 in
theorem x274_256 {sc : Scr} {d : Nat} {l0 l1 l2 l3 l4 l5 l6 : Option V} {st : List V} {hs : HS} {Q : Rs → HS → Prop} {i : Int} (hq : 0 ≤ i ∧ i < (sc.1 : Int) ∧ sc.1 < 2147483648) : Ex sc d 274 256 [l0, l1, l2, l3, l4, l5, l6] (vI i :: vS 9 :: st) hs Q ↔ Ex sc d 274 257 [l0, l1, l2, l3, l4, l5, l6] (vI (sc.2 i.toNat) :: st) hs Q := e_ialdS ((cd274 256).trans rfl) hq
set_option maxRecDepth 20000 in
theorem x274_257 {sc : Scr} {d : Nat} {l0 l1 l2 l4 l5 l6 : Option V} {st : List V} {hs : HS} {Q : Rs → HS → Prop} {a : Nat} : Ex sc d 274 257 [l0, l1, l2, some (vR a), l4, l5, l6] st hs Q ↔ Ex sc d 274 258 [l0, l1, l2, some (vR a), l4, l5, l6] (vR a :: st) hs Q := e_aload ((cd274 257).trans rfl) rfl
set_option maxRecDepth 20000 in
theorem x274_258 {sc : Scr} {d : Nat} {l0 l1 l2 l3 l4 l5 l6 : Option V} {st : List V} {hs : HS} {Q : Rs → HS → Prop} {a0 : Nat} {a1 : Int} {a2 : Nat} (hd : 0 < d) (hc : catS st ≤ 8) : Ex sc d 274 258 [l0, l1, l2, l3, l4, l5, l6] (vR a2 :: vI a1 :: vR a0 :: st) hs Q ↔ Ex sc (d - 1) 21 0 [some (vR a0), some (vI a1), some (vR a2), none] [] hs (Kc sc d 274 258 261 [l0, l1, l2, l3, l4, l5, l6] st Q) := e_callS ((cd274 258).trans rfl) (by simp only [List.length_cons]; omega) (by decide) rfl rfl rfl hc rfl hd
set_option maxRecDepth 20000 in
theorem x274_261 {sc : Scr} {d : Nat} {l0 l1 l2 l3 l4 l5 l6 : Option V} {st : List V} {hs : HS} {Q : Rs → HS → Prop} {a : Int} (hn : notL l4 = true) : Ex sc d 274 261 [l0, l1, l2, l3, l4, l5, l6] (vI a :: st) hs Q ↔ Ex sc d 274 263 [l0, l1, l2, l3, l4, some (vI a), l6] st hs Q := e_istore ((cd274 261).trans rfl) (by show 5 < 7; decide) (noL_of (j := 4) rfl hn) rfl
set_option maxRecDepth 20000 in
theorem x274_263 {sc : Scr} {d : Nat} {l0 l1 l3 l4 l5 l6 : Option V} {st : List V} {hs : HS} {Q : Rs → HS → Prop} {a : Nat} : Ex sc d 274 263 [l0, l1, some (vR a), l3, l4, l5, l6] st hs Q ↔ Ex sc d 274 264 [l0, l1, some (vR a), l3, l4, l5, l6] (vR a :: st) hs Q := e_aload ((cd274 263).trans rfl) rfl
set_option maxRecDepth 20000 in
theorem x274_264 {sc : Scr} {d : Nat} {l1 l2 l3 l4 l5 l6 : Option V} {st : List V} {hs : HS} {Q : Rs → HS → Prop} {a : Nat} : Ex sc d 274 264 [some (vS a), l1, l2, l3, l4, l5, l6] st hs Q ↔ Ex sc d 274 265 [some (vS a), l1, l2, l3, l4, l5, l6] (vS a :: st) hs Q := e_aloadS ((cd274 264).trans rfl) rfl
set_option maxRecDepth 20000 in
theorem x274_265 {sc : Scr} {d : Nat} {l0 l1 l2 l3 l5 l6 : Option V} {st : List V} {hs : HS} {Q : Rs → HS → Prop} {a : Int} : Ex sc d 274 265 [l0, l1, l2, l3, some (vI a), l5, l6] st hs Q ↔ Ex sc d 274 267 [l0, l1, l2, l3, some (vI a), l5, l6] (vI a :: st) hs Q := e_iload ((cd274 265).trans rfl) rfl
set_option maxRecDepth 20000 in
theorem x274_267 {sc : Scr} {d : Nat} {l0 l1 l2 l3 l4 l5 l6 : Option V} {st : List V} {hs : HS} {Q : Rs → HS → Prop} : Ex sc d 274 267 [l0, l1, l2, l3, l4, l5, l6] st hs Q ↔ Ex sc d 274 268 [l0, l1, l2, l3, l4, l5, l6] (vI (1) :: st) hs Q := e_iconst ((cd274 267).trans rfl)
set_option maxRecDepth 20000 in
theorem x274_268 {sc : Scr} {d : Nat} {l0 l1 l2 l3 l4 l5 l6 : Option V} {st : List V} {hs : HS} {Q : Rs → HS → Prop} {a b : Int} : Ex sc d 274 268 [l0, l1, l2, l3, l4, l5, l6] (vI b :: vI a :: st) hs Q ↔ Ex sc d 274 269 [l0, l1, l2, l3, l4, l5, l6] (vI (a + b) :: st) hs Q := e_iadd ((cd274 268).trans rfl)
set_option maxRecDepth 20000 in
theorem x274_269 {sc : Scr} {d : Nat} {l0 l1 l2 l3 l4 l5 l6 : Option V} {st : List V} {hs : HS} {Q : Rs → HS → Prop} {i : Int} (hq : 0 ≤ i ∧ i < (sc.1 : Int) ∧ sc.1 < 2147483648) : Ex sc d 274 269 [l0, l1, l2, l3, l4, l5, l6] (vI i :: vS 9 :: st) hs Q ↔ Ex sc d 274 270 [l0, l1, l2, l3, l4, l5, l6] (vI (sc.2 i.toNat) :: st) hs Q := e_ialdS ((cd274 269).trans rfl) hq
set_option maxRecDepth 20000 in
theorem x274_270 {sc : Scr} {d : Nat} {l0 l1 l2 l3 l4 l5 l6 : Option V} {st : List V} {hs : HS} {Q : Rs → HS → Prop} {a0 : Int} {q : Nat} (hd : 0 < d) (hc : catS st ≤ 8) (ho : isObj hs 12 (vR q) = true) : Ex sc d 274 270 [l0, l1, l2, l3, l4, l5, l6] (vI a0 :: vR q :: st) hs Q ↔ Ex sc (d - 1) 181 0 [some (vR q), some (vI a0), none] [] hs (Kc sc d 274 270 273 [l0, l1, l2, l3, l4, l5, l6] st Q) := e_callV ((cd274 270).trans rfl) ho (by simp only [List.length_cons]; omega) (by decide) rfl rfl rfl hc rfl hd
set_option maxRecDepth 20000 in
theorem x274_273 {sc : Scr} {d : Nat} {l0 l1 l2 l3 l4 l5 l6 : Option V} {st : List V} {hs : HS} {Q : Rs → HS → Prop} {a : Int} (hn : notL l5 = true) : Ex sc d 274 273 [l0, l1, l2, l3, l4, l5, l6] (vI a :: st) hs Q ↔ Ex sc d 274 275 [l0, l1, l2, l3, l4, l5, some (vI a)] st hs Q := e_istore ((cd274 273).trans rfl) (by show 6 < 7; decide) (noL_of (j := 5) rfl hn) rfl
set_option maxRecDepth 20000 in
theorem x274_275 {sc : Scr} {d : Nat} {l0 l1 l3 l4 l5 l6 : Option V} {st : List V} {hs : HS} {Q : Rs → HS → Prop} {a : Nat} : Ex sc d 274 275 [l0, l1, some (vR a), l3, l4, l5, l6] st hs Q ↔ Ex sc d 274 276 [l0, l1, some (vR a), l3, l4, l5, l6] (vR a :: st) hs Q := e_aload ((cd274 275).trans rfl) rfl
set_option maxRecDepth 20000 in
theorem x274_276 {sc : Scr} {d : Nat} {l0 l1 l2 l3 l4 l5 l6 : Option V} {st : List V} {hs : HS} {Q : Rs → HS → Prop} {q : Nat} (hd : 0 < d) (hc : catS st ≤ 8) (ho : isObj hs 12 (vR q) = true) : Ex sc d 274 276 [l0, l1, l2, l3, l4, l5, l6] (vR q :: st) hs Q ↔ Ex sc (d - 1) 177 0 [some (vR q)] [] hs (Kc sc d 274 276 279 [l0, l1, l2, l3, l4, l5, l6] st Q) := e_callV ((cd274 276).trans rfl) ho (by simp only [List.length_cons]; omega) (by decide) rfl rfl rfl hc rfl hd
set_option maxRecDepth 20000 in
theorem x274_279 {sc : Scr} {d : Nat} {l0 l1 l2 l3 l4 l6 : Option V} {st : List V} {hs : HS} {Q : Rs → HS → Prop} {a : Int} : Ex sc d 274 279 [l0, l1, l2, l3, l4, some (vI a), l6] st hs Q ↔ Ex sc d 274 281 [l0, l1, l2, l3, l4, some (vI a), l6] (vI a :: st) hs Q := e_iload ((cd274 279).trans rfl) rfl
set_option maxRecDepth 20000 in
theorem x274_281 {sc : Scr} {d : Nat} {l0 l1 l2 l3 l4 l5 l6 : Option V} {st : List V} {hs : HS} {Q : Rs → HS → Prop} {a b : Int} (ha : inR a) (hb : inR b) : Ex sc d 274 281 [l0, l1, l2, l3, l4, l5, l6] (vI b :: vI a :: st) hs Q ↔ if a = b then Ex sc d 274 286 [l0, l1, l2, l3, l4, l5, l6] st hs Q else Ex sc d 274 284 [l0, l1, l2, l3, l4, l5, l6] st hs Q := (e_icmp ((cd274 281).trans rfl) ha hb).trans (by simp only [cmpI, decide_eq_true_eq])
set_option maxRecDepth 20000 in
theorem x274_284 {sc : Scr} {d : Nat} {l0 l1 l2 l3 l4 l5 l6 : Option V} {st : List V} {hs : HS} {Q : Rs → HS → Prop} : Ex sc d 274 284 [l0, l1, l2, l3, l4, l5, l6] st hs Q ↔ Ex sc d 274 285 [l0, l1, l2, l3, l4, l5, l6] (vI (0) :: st) hs Q := e_iconst ((cd274 284).trans rfl)
set_option maxRecDepth 20000 in
theorem x274_285 {sc : Scr} {d : Nat} {l0 l1 l2 l3 l4 l5 l6 : Option V} {hs : HS} {Q : Rs → HS → Prop} {a : Int} (ha : a = 0 ∨ a = 1) : Ex sc d 274 285 [l0, l1, l2, l3, l4, l5, l6] [vI a] hs Q ↔ Q (.inl (some (vI a))) hs := e_zret ((cd274 285).trans rfl) rfl ha
set_option maxRecDepth 20000 in
theorem x274_286 {sc : Scr} {d : Nat} {l0 l1 l2 l3 l4 l6 : Option V} {st : List V} {hs : HS} {Q : Rs → HS → Prop} {a : Int} : Ex sc d 274 286 [l0, l1, l2, l3, l4, some (vI a), l6] st hs Q ↔ Ex sc d 274 288 [l0, l1, l2, l3, l4, some (vI a), l6] (vI a :: st) hs Q := e_iload ((cd274 286).trans rfl) rfl
set_option maxRecDepth 20000 in
theorem x274_288 {sc : Scr} {d : Nat} {l0 l1 l2 l3 l4 l5 l6 : Option V} {st : List V} {hs : HS} {Q : Rs → HS → Prop} {a : Int} (ha : inR a) : Ex sc d 274 288 [l0, l1, l2, l3, l4, l5, l6] (vI a :: st) hs Q ↔ if ¬ a = 0 then Ex sc d 274 303 [l0, l1, l2, l3, l4, l5, l6] st hs Q else Ex sc d 274 291 [l0, l1, l2, l3, l4, l5, l6] st hs Q := (e_if ((cd274 288).trans rfl) ha).trans (by simp only [cmpI, decide_eq_true_eq])
set_option maxRecDepth 20000 in
theorem x274_291 {sc : Scr} {d : Nat} {l0 l1 l2 l4 l5 l6 : Option V} {st : List V} {hs : HS} {Q : Rs → HS → Prop} {a : Nat} : Ex sc d 274 291 [l0, l1, l2, some (vR a), l4, l5, l6] st hs Q ↔ Ex sc d 274 292 [l0, l1, l2, some (vR a), l4, l5, l6] (vR a :: st) hs Q := e_aload ((cd274 291).trans rfl) rfl
set_option maxRecDepth 20000 in
theorem x274_292 {sc : Scr} {d : Nat} {l0 l1 l2 l3 l4 l5 l6 : Option V} {st : List V} {hs : HS} {Q : Rs → HS → Prop} : Ex sc d 274 292 [l0, l1, l2, l3, l4, l5, l6] st hs Q ↔ Ex sc d 274 293 [l0, l1, l2, l3, l4, l5, l6] (vI (0) :: st) hs Q := e_iconst ((cd274 292).trans rfl)
set_option maxRecDepth 20000 in
theorem x274_293 {sc : Scr} {d : Nat} {l0 l1 l2 l3 l4 l5 l6 : Option V} {st : List V} {hs : HS} {Q : Rs → HS → Prop} {a : Nat} {i : Int} : Ex sc d 274 293 [l0, l1, l2, l3, l4, l5, l6] (vI i :: vR a :: st) hs Q ↔ Ra hs 2 a i (fun z => Ex sc d 274 294 [l0, l1, l2, l3, l4, l5, l6] (vL z :: st) hs Q) := e_lald ((cd274 293).trans rfl)
set_option maxRecDepth 20000 in
theorem x274_294 {sc : Scr} {d : Nat} {l0 l1 l2 l3 l4 l5 : Option V} {st : List V} {hs : HS} {Q : Rs → HS → Prop} {a : Int} : Ex sc d 274 294 [l0, l1, l2, l3, l4, l5, some (vI a)] st hs Q ↔ Ex sc d 274 296 [l0, l1, l2, l3, l4, l5, some (vI a)] (vI a :: st) hs Q := e_iload ((cd274 294).trans rfl) rfl
set_option maxRecDepth 20000 in
theorem x274_296 {sc : Scr} {d : Nat} {l0 l1 l2 l3 l4 l5 l6 : Option V} {st : List V} {hs : HS} {Q : Rs → HS → Prop} {a : Int} (ha : inR a) : Ex sc d 274 296 [l0, l1, l2, l3, l4, l5, l6] (vI a :: st) hs Q ↔ Ex sc d 274 297 [l0, l1, l2, l3, l4, l5, l6] (vL a :: st) hs Q := e_i2l ((cd274 296).trans rfl) ha
set_option maxRecDepth 20000 in
theorem x274_297 {sc : Scr} {d : Nat} {l0 l1 l2 l3 l4 l5 l6 : Option V} {st : List V} {hs : HS} {Q : Rs → HS → Prop} {a b : Int} (ha : inL a) (hb : inL b) : Ex sc d 274 297 [l0, l1, l2, l3, l4, l5, l6] (vL b :: vL a :: st) hs Q ↔ Ex sc d 274 298 [l0, l1, l2, l3, l4, l5, l6] (vI (if a < b then -1 else if a = b then 0 else 1) :: st) hs Q := e_lcmp ((cd274 297).trans rfl) ha hb
set_option maxRecDepth 20000 in
theorem x274_298 {sc : Scr} {d : Nat} {l0 l1 l2 l3 l4 l5 l6 : Option V} {st : List V} {hs : HS} {Q : Rs → HS → Prop} {a : Int} (ha : inR a) : Ex sc d 274 298 [l0, l1, l2, l3, l4, l5, l6] (vI a :: st) hs Q ↔ if a = 0 then Ex sc d 274 303 [l0, l1, l2, l3, l4, l5, l6] st hs Q else Ex sc d 274 301 [l0, l1, l2, l3, l4, l5, l6] st hs Q := (e_if ((cd274 298).trans rfl) ha).trans (by simp only [cmpI, decide_eq_true_eq])
set_option maxRecDepth 20000 in
theorem x274_301 {sc : Scr} {d : Nat} {l0 l1 l2 l3 l4 l5 l6 : Option V} {st : List V} {hs : HS} {Q : Rs → HS → Prop} : Ex sc d 274 301 [l0, l1, l2, l3, l4, l5, l6] st hs Q ↔ Ex sc d 274 302 [l0, l1, l2, l3, l4, l5, l6] (vI (0) :: st) hs Q := e_iconst ((cd274 301).trans rfl)
set_option maxRecDepth 20000 in
theorem x274_302 {sc : Scr} {d : Nat} {l0 l1 l2 l3 l4 l5 l6 : Option V} {hs : HS} {Q : Rs → HS → Prop} {a : Int} (ha : a = 0 ∨ a = 1) : Ex sc d 274 302 [l0, l1, l2, l3, l4, l5, l6] [vI a] hs Q ↔ Q (.inl (some (vI a))) hs := e_zret ((cd274 302).trans rfl) rfl ha
set_option maxRecDepth 20000 in
theorem x274_303 {sc : Scr} {d : Nat} {l0 l1 l2 l3 l4 l5 l6 : Option V} {st : List V} {hs : HS} {Q : Rs → HS → Prop} : Ex sc d 274 303 [l0, l1, l2, l3, l4, l5, l6] st hs Q ↔ Ex sc d 274 1660 [l0, l1, l2, l3, l4, l5, l6] st hs Q := e_goto ((cd274 303).trans rfl)
set_option maxRecDepth 20000 in
theorem x274_306 {sc : Scr} {d : Nat} {l0 l2 l3 l4 l5 l6 : Option V} {st : List V} {hs : HS} {Q : Rs → HS → Prop} {a : Nat} : Ex sc d 274 306 [l0, some (vR a), l2, l3, l4, l5, l6] st hs Q ↔ Ex sc d 274 307 [l0, some (vR a), l2, l3, l4, l5, l6] (vR a :: st) hs Q := e_aload ((cd274 306).trans rfl) rfl
set_option maxRecDepth 20000 in
theorem x274_307 {sc : Scr} {d : Nat} {l1 l2 l3 l4 l5 l6 : Option V} {st : List V} {hs : HS} {Q : Rs → HS → Prop} {a : Nat} : Ex sc d 274 307 [some (vS a), l1, l2, l3, l4, l5, l6] st hs Q ↔ Ex sc d 274 308 [some (vS a), l1, l2, l3, l4, l5, l6] (vS a :: st) hs Q := e_aloadS ((cd274 307).trans rfl) rfl
set_option maxRecDepth 20000 in
theorem x274_308 {sc : Scr} {d : Nat} {l0 l1 l2 l3 l5 l6 : Option V} {st : List V} {hs : HS} {Q : Rs → HS → Prop} {a : Int} : Ex sc d 274 308 [l0, l1, l2, l3, some (vI a), l5, l6] st hs Q ↔ Ex sc d 274 310 [l0, l1, l2, l3, some (vI a), l5, l6] (vI a :: st) hs Q := e_iload ((cd274 308).trans rfl) rfl
set_option maxRecDepth 20000 in
theorem x274_310 {sc : Scr} {d : Nat} {l0 l1 l2 l3 l4 l5 l6 : Option V} {st : List V} {hs : HS} {Q : Rs → HS → Prop} : Ex sc d 274 310 [l0, l1, l2, l3, l4, l5, l6] st hs Q ↔ Ex sc d 274 311 [l0, l1, l2, l3, l4, l5, l6] (vI (1) :: st) hs Q := e_iconst ((cd274 310).trans rfl)
set_option maxRecDepth 20000 in
theorem x274_311 {sc : Scr} {d : Nat} {l0 l1 l2 l3 l4 l5 l6 : Option V} {st : List V} {hs : HS} {Q : Rs → HS → Prop} {a b : Int} : Ex sc d 274 311 [l0, l1, l2, l3, l4, l5, l6] (vI b :: vI a :: st) hs Q ↔ Ex sc d 274 312 [l0, l1, l2, l3, l4, l5, l6] (vI (a + b) :: st) hs Q := e_iadd ((cd274 311).trans rfl)
set_option maxRecDepth 20000 in
theorem x274_312 {sc : Scr} {d : Nat} {l0 l1 l2 l3 l4 l5 l6 : Option V} {st : List V} {hs : HS} {Q : Rs → HS → Prop} {i : Int} (hq : 0 ≤ i ∧ i < (sc.1 : Int) ∧ sc.1 < 2147483648) : Ex sc d 274 312 [l0, l1, l2, l3, l4, l5, l6] (vI i :: vS 9 :: st) hs Q ↔ Ex sc d 274 313 [l0, l1, l2, l3, l4, l5, l6] (vI (sc.2 i.toNat) :: st) hs Q := e_ialdS ((cd274 312).trans rfl) hq
set_option maxRecDepth 20000 in
theorem x274_313 {sc : Scr} {d : Nat} {l0 l1 l2 l3 l4 l5 l6 : Option V} {st : List V} {hs : HS} {Q : Rs → HS → Prop} {a0 : Int} {q : Nat} (hd : 0 < d) (hc : catS st ≤ 8) (ho : isObj hs 11 (vR q) = true) : Ex sc d 274 313 [l0, l1, l2, l3, l4, l5, l6] (vI a0 :: vR q :: st) hs Q ↔ Ex sc (d - 1) 16 0 [some (vR q), some (vI a0)] [] hs (Kc sc d 274 313 316 [l0, l1, l2, l3, l4, l5, l6] st Q) := e_callV ((cd274 313).trans rfl) ho (by simp only [List.length_cons]; omega) (by decide) rfl rfl rfl hc rfl hd
set_option maxRecDepth 20000 in
theorem x274_316 {sc : Scr} {d : Nat} {l0 l1 l3 l4 l5 l6 : Option V} {st : List V} {hs : HS} {Q : Rs → HS → Prop} {a : Nat} : Ex sc d 274 316 [l0, l1, some (vR a), l3, l4, l5, l6] st hs Q ↔ Ex sc d 274 317 [l0, l1, some (vR a), l3, l4, l5, l6] (vR a :: st) hs Q := e_aload ((cd274 316).trans rfl) rfl
set_option maxRecDepth 20000 in
theorem x274_317 {sc : Scr} {d : Nat} {l1 l2 l3 l4 l5 l6 : Option V} {st : List V} {hs : HS} {Q : Rs → HS → Prop} {a : Nat} : Ex sc d 274 317 [some (vS a), l1, l2, l3, l4, l5, l6] st hs Q ↔ Ex sc d 274 318 [some (vS a), l1, l2, l3, l4, l5, l6] (vS a :: st) hs Q := e_aloadS ((cd274 317).trans rfl) rfl
set_option maxRecDepth 20000 in
theorem x274_318 {sc : Scr} {d : Nat} {l0 l1 l2 l3 l5 l6 : Option V} {st : List V} {hs : HS} {Q : Rs → HS → Prop} {a : Int} : Ex sc d 274 318 [l0, l1, l2, l3, some (vI a), l5, l6] st hs Q ↔ Ex sc d 274 320 [l0, l1, l2, l3, some (vI a), l5, l6] (vI a :: st) hs Q := e_iload ((cd274 318).trans rfl) rfl
set_option maxRecDepth 20000 in
theorem x274_320 {sc : Scr} {d : Nat} {l0 l1 l2 l3 l4 l5 l6 : Option V} {st : List V} {hs : HS} {Q : Rs → HS → Prop} : Ex sc d 274 320 [l0, l1, l2, l3, l4, l5, l6] st hs Q ↔ Ex sc d 274 321 [l0, l1, l2, l3, l4, l5, l6] (vI (1) :: st) hs Q := e_iconst ((cd274 320).trans rfl)
set_option maxRecDepth 20000 in
theorem x274_321 {sc : Scr} {d : Nat} {l0 l1 l2 l3 l4 l5 l6 : Option V} {st : List V} {hs : HS} {Q : Rs → HS → Prop} {a b : Int} : Ex sc d 274 321 [l0, l1, l2, l3, l4, l5, l6] (vI b :: vI a :: st) hs Q ↔ Ex sc d 274 322 [l0, l1, l2, l3, l4, l5, l6] (vI (a + b) :: st) hs Q := e_iadd ((cd274 321).trans rfl)
set_option maxRecDepth 20000 in
theorem x274_322 {sc : Scr} {d : Nat} {l0 l1 l2 l3 l4 l5 l6 : Option V} {st : List V} {hs : HS} {Q : Rs → HS → Prop} {i : Int} (hq : 0 ≤ i ∧ i < (sc.1 : Int) ∧ sc.1 < 2147483648) : Ex sc d 274 322 [l0, l1, l2, l3, l4, l5, l6] (vI i :: vS 9 :: st) hs Q ↔ Ex sc d 274 323 [l0, l1, l2, l3, l4, l5, l6] (vI (sc.2 i.toNat) :: st) hs Q := e_ialdS ((cd274 322).trans rfl) hq
set_option maxRecDepth 20000 in
theorem x274_323 {sc : Scr} {d : Nat} {l0 l1 l2 l3 l4 l5 l6 : Option V} {st : List V} {hs : HS} {Q : Rs → HS → Prop} {a0 : Int} {q : Nat} (hd : 0 < d) (hc : catS st ≤ 8) (ho : isObj hs 12 (vR q) = true) : Ex sc d 274 323 [l0, l1, l2, l3, l4, l5, l6] (vI a0 :: vR q :: st) hs Q ↔ Ex sc (d - 1) 216 0 [some (vR q), some (vI a0)] [] hs (Kc sc d 274 323 326 [l0, l1, l2, l3, l4, l5, l6] st Q) := e_callV ((cd274 323).trans rfl) ho (by simp only [List.length_cons]; omega) (by decide) rfl rfl rfl hc rfl hd
set_option maxRecDepth 20000 in
theorem x274_326 {sc : Scr} {d : Nat} {l0 l1 l2 l3 l4 l5 l6 : Option V} {st : List V} {hs : HS} {Q : Rs → HS → Prop} {a b : Int} (ha : inR a) (hb : inR b) : Ex sc d 274 326 [l0, l1, l2, l3, l4, l5, l6] (vI b :: vI a :: st) hs Q ↔ if a = b then Ex sc d 274 1660 [l0, l1, l2, l3, l4, l5, l6] st hs Q else Ex sc d 274 329 [l0, l1, l2, l3, l4, l5, l6] st hs Q := (e_icmp ((cd274 326).trans rfl) ha hb).trans (by simp only [cmpI, decide_eq_true_eq])
set_option maxRecDepth 20000 in
theorem x274_329 {sc : Scr} {d : Nat} {l0 l1 l2 l3 l4 l5 l6 : Option V} {st : List V} {hs : HS} {Q : Rs → HS → Prop} : Ex sc d 274 329 [l0, l1, l2, l3, l4, l5, l6] st hs Q ↔ Ex sc d 274 330 [l0, l1, l2, l3, l4, l5, l6] (vI (0) :: st) hs Q := e_iconst ((cd274 329).trans rfl)
set_option maxRecDepth 20000 in
theorem x274_330 {sc : Scr} {d : Nat} {l0 l1 l2 l3 l4 l5 l6 : Option V} {hs : HS} {Q : Rs → HS → Prop} {a : Int} (ha : a = 0 ∨ a = 1) : Ex sc d 274 330 [l0, l1, l2, l3, l4, l5, l6] [vI a] hs Q ↔ Q (.inl (some (vI a))) hs := e_zret ((cd274 330).trans rfl) rfl ha
set_option maxRecDepth 20000 in
theorem x274_331 {sc : Scr} {d : Nat} {l0 l2 l3 l4 l5 l6 : Option V} {st : List V} {hs : HS} {Q : Rs → HS → Prop} {a : Nat} : Ex sc d 274 331 [l0, some (vR a), l2, l3, l4, l5, l6] st hs Q ↔ Ex sc d 274 332 [l0, some (vR a), l2, l3, l4, l5, l6] (vR a :: st) hs Q := e_aload ((cd274 331).trans rfl) rfl
set_option maxRecDepth 20000 in
theorem x274_332 {sc : Scr} {d : Nat} {l1 l2 l3 l4 l5 l6 : Option V} {st : List V} {hs : HS} {Q : Rs → HS → Prop} {a : Nat} : Ex sc d 274 332 [some (vS a), l1, l2, l3, l4, l5, l6] st hs Q ↔ Ex sc d 274 333 [some (vS a), l1, l2, l3, l4, l5, l6] (vS a :: st) hs Q := e_aloadS ((cd274 332).trans rfl) rfl
set_option maxRecDepth 20000 in
theorem x274_333 {sc : Scr} {d : Nat} {l0 l1 l2 l3 l5 l6 : Option V} {st : List V} {hs : HS} {Q : Rs → HS → Prop} {a : Int} : Ex sc d 274 333 [l0, l1, l2, l3, some (vI a), l5, l6] st hs Q ↔ Ex sc d 274 335 [l0, l1, l2, l3, some (vI a), l5, l6] (vI a :: st) hs Q := e_iload ((cd274 333).trans rfl) rfl
set_option maxRecDepth 20000 in
theorem x274_335 {sc : Scr} {d : Nat} {l0 l1 l2 l3 l4 l5 l6 : Option V} {st : List V} {hs : HS} {Q : Rs → HS → Prop} : Ex sc d 274 335 [l0, l1, l2, l3, l4, l5, l6] st hs Q ↔ Ex sc d 274 336 [l0, l1, l2, l3, l4, l5, l6] (vI (1) :: st) hs Q := e_iconst ((cd274 335).trans rfl)
set_option maxRecDepth 20000 in
theorem x274_336 {sc : Scr} {d : Nat} {l0 l1 l2 l3 l4 l5 l6 : Option V} {st : List V} {hs : HS} {Q : Rs → HS → Prop} {a b : Int} : Ex sc d 274 336 [l0, l1, l2, l3, l4, l5, l6] (vI b :: vI a :: st) hs Q ↔ Ex sc d 274 337 [l0, l1, l2, l3, l4, l5, l6] (vI (a + b) :: st) hs Q := e_iadd ((cd274 336).trans rfl)
set_option maxRecDepth 20000 in
theorem x274_337 {sc : Scr} {d : Nat} {l0 l1 l2 l3 l4 l5 l6 : Option V} {st : List V} {hs : HS} {Q : Rs → HS → Prop} {i : Int} (hq : 0 ≤ i ∧ i < (sc.1 : Int) ∧ sc.1 < 2147483648) : Ex sc d 274 337 [l0, l1, l2, l3, l4, l5, l6] (vI i :: vS 9 :: st) hs Q ↔ Ex sc d 274 338 [l0, l1, l2, l3, l4, l5, l6] (vI (sc.2 i.toNat) :: st) hs Q := e_ialdS ((cd274 337).trans rfl) hq
set_option maxRecDepth 20000 in
theorem x274_338 {sc : Scr} {d : Nat} {l1 l2 l3 l4 l5 l6 : Option V} {st : List V} {hs : HS} {Q : Rs → HS → Prop} {a : Nat} : Ex sc d 274 338 [some (vS a), l1, l2, l3, l4, l5, l6] st hs Q ↔ Ex sc d 274 339 [some (vS a), l1, l2, l3, l4, l5, l6] (vS a :: st) hs Q := e_aloadS ((cd274 338).trans rfl) rfl
set_option maxRecDepth 20000 in
theorem x274_339 {sc : Scr} {d : Nat} {l0 l1 l2 l3 l5 l6 : Option V} {st : List V} {hs : HS} {Q : Rs → HS → Prop} {a : Int} : Ex sc d 274 339 [l0, l1, l2, l3, some (vI a), l5, l6] st hs Q ↔ Ex sc d 274 341 [l0, l1, l2, l3, some (vI a), l5, l6] (vI a :: st) hs Q := e_iload ((cd274 339).trans rfl) rfl
set_option maxRecDepth 20000 in
theorem x274_341 {sc : Scr} {d : Nat} {l0 l1 l2 l3 l4 l5 l6 : Option V} {st : List V} {hs : HS} {Q : Rs → HS → Prop} : Ex sc d 274 341 [l0, l1, l2, l3, l4, l5, l6] st hs Q ↔ Ex sc d 274 342 [l0, l1, l2, l3, l4, l5, l6] (vI (2) :: st) hs Q := e_iconst ((cd274 341).trans rfl)
set_option maxRecDepth 20000 in
theorem x274_342 {sc : Scr} {d : Nat} {l0 l1 l2 l3 l4 l5 l6 : Option V} {st : List V} {hs : HS} {Q : Rs → HS → Prop} {a b : Int} : Ex sc d 274 342 [l0, l1, l2, l3, l4, l5, l6] (vI b :: vI a :: st) hs Q ↔ Ex sc d 274 343 [l0, l1, l2, l3, l4, l5, l6] (vI (a + b) :: st) hs Q := e_iadd ((cd274 342).trans rfl)
set_option maxRecDepth 20000 in
theorem x274_343 {sc : Scr} {d : Nat} {l0 l1 l2 l3 l4 l5 l6 : Option V} {st : List V} {hs : HS} {Q : Rs → HS → Prop} {i : Int} (hq : 0 ≤ i ∧ i < (sc.1 : Int) ∧ sc.1 < 2147483648) : Ex sc d 274 343 [l0, l1, l2, l3, l4, l5, l6] (vI i :: vS 9 :: st) hs Q ↔ Ex sc d 274 344 [l0, l1, l2, l3, l4, l5, l6] (vI (sc.2 i.toNat) :: st) hs Q := e_ialdS ((cd274 343).trans rfl) hq
set_option maxRecDepth 20000 in
theorem x274_344 {sc : Scr} {d : Nat} {l0 l1 l2 l4 l5 l6 : Option V} {st : List V} {hs : HS} {Q : Rs → HS → Prop} {a : Nat} : Ex sc d 274 344 [l0, l1, l2, some (vR a), l4, l5, l6] st hs Q ↔ Ex sc d 274 345 [l0, l1, l2, some (vR a), l4, l5, l6] (vR a :: st) hs Q := e_aload ((cd274 344).trans rfl) rfl
set_option maxRecDepth 20000 in
theorem x274_345 {sc : Scr} {d : Nat} {l0 l1 l2 l3 l4 l5 l6 : Option V} {st : List V} {hs : HS} {Q : Rs → HS → Prop} {a0 : Nat} {a1 : Int} {a2 : Int} {a3 : Nat} (hd : 0 < d) (hc : catS st ≤ 8) : Ex sc d 274 345 [l0, l1, l2, l3, l4, l5, l6] (vR a3 :: vI a2 :: vI a1 :: vR a0 :: st) hs Q ↔ Ex sc (d - 1) 73 0 [some (vR a0), some (vI a1), some (vI a2), some (vR a3), none] [] hs (Kc sc d 274 345 348 [l0, l1, l2, l3, l4, l5, l6] st Q) := e_callS ((cd274 345).trans rfl) (by simp only [List.length_cons]; omega) (by decide) rfl rfl rfl hc rfl hd
set_option maxRecDepth 20000 in
theorem x274_348 {sc : Scr} {d : Nat} {l0 l1 l2 l3 l4 l5 l6 : Option V} {st : List V} {hs : HS} {Q : Rs → HS → Prop} {a : Int} (hn : notL l4 = true) : Ex sc d 274 348 [l0, l1, l2, l3, l4, l5, l6] (vI a :: st) hs Q ↔ Ex sc d 274 350 [l0, l1, l2, l3, l4, some (vI a), l6] st hs Q := e_istore ((cd274 348).trans rfl) (by show 5 < 7; decide) (noL_of (j := 4) rfl hn) rfl
set_option maxRecDepth 20000 in
theorem x274_350 {sc : Scr} {d : Nat} {l0 l1 l3 l4 l5 l6 : Option V} {st : List V} {hs : HS} {Q : Rs → HS → Prop} {a : Nat} : Ex sc d 274 350 [l0, l1, some (vR a), l3, l4, l5, l6] st hs Q ↔ Ex sc d 274 351 [l0, l1, some (vR a), l3, l4, l5, l6] (vR a :: st) hs Q := e_aload ((cd274 350).trans rfl) rfl
set_option maxRecDepth 20000 in
theorem x274_351 {sc : Scr} {d : Nat} {l1 l2 l3 l4 l5 l6 : Option V} {st : List V} {hs : HS} {Q : Rs → HS → Prop} {a : Nat} : Ex sc d 274 351 [some (vS a), l1, l2, l3, l4, l5, l6] st hs Q ↔ Ex sc d 274 352 [some (vS a), l1, l2, l3, l4, l5, l6] (vS a :: st) hs Q := e_aloadS ((cd274 351).trans rfl) rfl
set_option maxRecDepth 20000 in
theorem x274_352 {sc : Scr} {d : Nat} {l0 l1 l2 l3 l5 l6 : Option V} {st : List V} {hs : HS} {Q : Rs → HS → Prop} {a : Int} : Ex sc d 274 352 [l0, l1, l2, l3, some (vI a), l5, l6] st hs Q ↔ Ex sc d 274 354 [l0, l1, l2, l3, some (vI a), l5, l6] (vI a :: st) hs Q := e_iload ((cd274 352).trans rfl) rfl
set_option maxRecDepth 20000 in
theorem x274_354 {sc : Scr} {d : Nat} {l0 l1 l2 l3 l4 l5 l6 : Option V} {st : List V} {hs : HS} {Q : Rs → HS → Prop} : Ex sc d 274 354 [l0, l1, l2, l3, l4, l5, l6] st hs Q ↔ Ex sc d 274 355 [l0, l1, l2, l3, l4, l5, l6] (vI (1) :: st) hs Q := e_iconst ((cd274 354).trans rfl)
set_option maxRecDepth 20000 in
theorem x274_355 {sc : Scr} {d : Nat} {l0 l1 l2 l3 l4 l5 l6 : Option V} {st : List V} {hs : HS} {Q : Rs → HS → Prop} {a b : Int} : Ex sc d 274 355 [l0, l1, l2, l3, l4, l5, l6] (vI b :: vI a :: st) hs Q ↔ Ex sc d 274 356 [l0, l1, l2, l3, l4, l5, l6] (vI (a + b) :: st) hs Q := e_iadd ((cd274 355).trans rfl)
set_option maxRecDepth 20000 in
theorem x274_356 {sc : Scr} {d : Nat} {l0 l1 l2 l3 l4 l5 l6 : Option V} {st : List V} {hs : HS} {Q : Rs → HS → Prop} {i : Int} (hq : 0 ≤ i ∧ i < (sc.1 : Int) ∧ sc.1 < 2147483648) : Ex sc d 274 356 [l0, l1, l2, l3, l4, l5, l6] (vI i :: vS 9 :: st) hs Q ↔ Ex sc d 274 357 [l0, l1, l2, l3, l4, l5, l6] (vI (sc.2 i.toNat) :: st) hs Q := e_ialdS ((cd274 356).trans rfl) hq
set_option maxRecDepth 20000 in
theorem x274_357 {sc : Scr} {d : Nat} {l1 l2 l3 l4 l5 l6 : Option V} {st : List V} {hs : HS} {Q : Rs → HS → Prop} {a : Nat} : Ex sc d 274 357 [some (vS a), l1, l2, l3, l4, l5, l6] st hs Q ↔ Ex sc d 274 358 [some (vS a), l1, l2, l3, l4, l5, l6] (vS a :: st) hs Q := e_aloadS ((cd274 357).trans rfl) rfl
set_option maxRecDepth 20000 in
theorem x274_358 {sc : Scr} {d : Nat} {l0 l1 l2 l3 l5 l6 : Option V} {st : List V} {hs : HS} {Q : Rs → HS → Prop} {a : Int} : Ex sc d 274 358 [l0, l1, l2, l3, some (vI a), l5, l6] st hs Q ↔ Ex sc d 274 360 [l0, l1, l2, l3, some (vI a), l5, l6] (vI a :: st) hs Q := e_iload ((cd274 358).trans rfl) rfl
set_option maxRecDepth 20000 in
theorem x274_360 {sc : Scr} {d : Nat} {l0 l1 l2 l3 l4 l5 l6 : Option V} {st : List V} {hs : HS} {Q : Rs → HS → Prop} : Ex sc d 274 360 [l0, l1, l2, l3, l4, l5, l6] st hs Q ↔ Ex sc d 274 361 [l0, l1, l2, l3, l4, l5, l6] (vI (2) :: st) hs Q := e_iconst ((cd274 360).trans rfl)
set_option maxRecDepth 20000 in
theorem x274_361 {sc : Scr} {d : Nat} {l0 l1 l2 l3 l4 l5 l6 : Option V} {st : List V} {hs : HS} {Q : Rs → HS → Prop} {a b : Int} : Ex sc d 274 361 [l0, l1, l2, l3, l4, l5, l6] (vI b :: vI a :: st) hs Q ↔ Ex sc d 274 362 [l0, l1, l2, l3, l4, l5, l6] (vI (a + b) :: st) hs Q := e_iadd ((cd274 361).trans rfl)
set_option maxRecDepth 20000 in
theorem x274_362 {sc : Scr} {d : Nat} {l0 l1 l2 l3 l4 l5 l6 : Option V} {st : List V} {hs : HS} {Q : Rs → HS → Prop} {i : Int} (hq : 0 ≤ i ∧ i < (sc.1 : Int) ∧ sc.1 < 2147483648) : Ex sc d 274 362 [l0, l1, l2, l3, l4, l5, l6] (vI i :: vS 9 :: st) hs Q ↔ Ex sc d 274 363 [l0, l1, l2, l3, l4, l5, l6] (vI (sc.2 i.toNat) :: st) hs Q := e_ialdS ((cd274 362).trans rfl) hq
set_option maxRecDepth 20000 in
theorem x274_363 {sc : Scr} {d : Nat} {l0 l1 l2 l3 l4 l5 l6 : Option V} {st : List V} {hs : HS} {Q : Rs → HS → Prop} {a0 : Int} {a1 : Int} {q : Nat} (hd : 0 < d) (hc : catS st ≤ 8) (ho : isObj hs 12 (vR q) = true) : Ex sc d 274 363 [l0, l1, l2, l3, l4, l5, l6] (vI a1 :: vI a0 :: vR q :: st) hs Q ↔ Ex sc (d - 1) 217 0 [some (vR q), some (vI a0), some (vI a1)] [] hs (Kc sc d 274 363 366 [l0, l1, l2, l3, l4, l5, l6] st Q) := e_callV ((cd274 363).trans rfl) ho (by simp only [List.length_cons]; omega) (by decide) rfl rfl rfl hc rfl hd
set_option maxRecDepth 20000 in
theorem x274_366 {sc : Scr} {d : Nat} {l0 l1 l2 l3 l4 l5 l6 : Option V} {st : List V} {hs : HS} {Q : Rs → HS → Prop} {a : Int} (hn : notL l5 = true) : Ex sc d 274 366 [l0, l1, l2, l3, l4, l5, l6] (vI a :: st) hs Q ↔ Ex sc d 274 368 [l0, l1, l2, l3, l4, l5, some (vI a)] st hs Q := e_istore ((cd274 366).trans rfl) (by show 6 < 7; decide) (noL_of (j := 5) rfl hn) rfl
set_option maxRecDepth 20000 in
theorem x274_368 {sc : Scr} {d : Nat} {l0 l1 l3 l4 l5 l6 : Option V} {st : List V} {hs : HS} {Q : Rs → HS → Prop} {a : Nat} : Ex sc d 274 368 [l0, l1, some (vR a), l3, l4, l5, l6] st hs Q ↔ Ex sc d 274 369 [l0, l1, some (vR a), l3, l4, l5, l6] (vR a :: st) hs Q := e_aload ((cd274 368).trans rfl) rfl
set_option maxRecDepth 20000 in
theorem x274_369 {sc : Scr} {d : Nat} {l0 l1 l2 l3 l4 l5 l6 : Option V} {st : List V} {hs : HS} {Q : Rs → HS → Prop} {q : Nat} (hd : 0 < d) (hc : catS st ≤ 8) (ho : isObj hs 12 (vR q) = true) : Ex sc d 274 369 [l0, l1, l2, l3, l4, l5, l6] (vR q :: st) hs Q ↔ Ex sc (d - 1) 177 0 [some (vR q)] [] hs (Kc sc d 274 369 372 [l0, l1, l2, l3, l4, l5, l6] st Q) := e_callV ((cd274 369).trans rfl) ho (by simp only [List.length_cons]; omega) (by decide) rfl rfl rfl hc rfl hd
set_option maxRecDepth 20000 in
theorem x274_372 {sc : Scr} {d : Nat} {l0 l1 l2 l3 l4 l6 : Option V} {st : List V} {hs : HS} {Q : Rs → HS → Prop} {a : Int} : Ex sc d 274 372 [l0, l1, l2, l3, l4, some (vI a), l6] st hs Q ↔ Ex sc d 274 374 [l0, l1, l2, l3, l4, some (vI a), l6] (vI a :: st) hs Q := e_iload ((cd274 372).trans rfl) rfl
set_option maxRecDepth 20000 in
theorem x274_374 {sc : Scr} {d : Nat} {l0 l1 l2 l3 l4 l5 l6 : Option V} {st : List V} {hs : HS} {Q : Rs → HS → Prop} {a b : Int} (ha : inR a) (hb : inR b) : Ex sc d 274 374 [l0, l1, l2, l3, l4, l5, l6] (vI b :: vI a :: st) hs Q ↔ if a = b then Ex sc d 274 379 [l0, l1, l2, l3, l4, l5, l6] st hs Q else Ex sc d 274 377 [l0, l1, l2, l3, l4, l5, l6] st hs Q := (e_icmp ((cd274 374).trans rfl) ha hb).trans (by simp only [cmpI, decide_eq_true_eq])
set_option maxRecDepth 20000 in
theorem x274_377 {sc : Scr} {d : Nat} {l0 l1 l2 l3 l4 l5 l6 : Option V} {st : List V} {hs : HS} {Q : Rs → HS → Prop} : Ex sc d 274 377 [l0, l1, l2, l3, l4, l5, l6] st hs Q ↔ Ex sc d 274 378 [l0, l1, l2, l3, l4, l5, l6] (vI (0) :: st) hs Q := e_iconst ((cd274 377).trans rfl)
set_option maxRecDepth 20000 in
theorem x274_378 {sc : Scr} {d : Nat} {l0 l1 l2 l3 l4 l5 l6 : Option V} {hs : HS} {Q : Rs → HS → Prop} {a : Int} (ha : a = 0 ∨ a = 1) : Ex sc d 274 378 [l0, l1, l2, l3, l4, l5, l6] [vI a] hs Q ↔ Q (.inl (some (vI a))) hs := e_zret ((cd274 378).trans rfl) rfl ha
set_option maxRecDepth 20000 in
theorem x274_379 {sc : Scr} {d : Nat} {l0 l1 l2 l3 l4 l6 : Option V} {st : List V} {hs : HS} {Q : Rs → HS → Prop} {a : Int} : Ex sc d 274 379 [l0, l1, l2, l3, l4, some (vI a), l6] st hs Q ↔ Ex sc d 274 381 [l0, l1, l2, l3, l4, some (vI a), l6] (vI a :: st) hs Q := e_iload ((cd274 379).trans rfl) rfl
set_option maxRecDepth 20000 in
theorem x274_381 {sc : Scr} {d : Nat} {l0 l1 l2 l3 l4 l5 l6 : Option V} {st : List V} {hs : HS} {Q : Rs → HS → Prop} {a : Int} (ha : inR a) : Ex sc d 274 381 [l0, l1, l2, l3, l4, l5, l6] (vI a :: st) hs Q ↔ if ¬ a = 0 then Ex sc d 274 396 [l0, l1, l2, l3, l4, l5, l6] st hs Q else Ex sc d 274 384 [l0, l1, l2, l3, l4, l5, l6] st hs Q := (e_if ((cd274 381).trans rfl) ha).trans (by simp only [cmpI, decide_eq_true_eq])
set_option maxRecDepth 20000 in
theorem x274_384 {sc : Scr} {d : Nat} {l0 l1 l2 l4 l5 l6 : Option V} {st : List V} {hs : HS} {Q : Rs → HS → Prop} {a : Nat} : Ex sc d 274 384 [l0, l1, l2, some (vR a), l4, l5, l6] st hs Q ↔ Ex sc d 274 385 [l0, l1, l2, some (vR a), l4, l5, l6] (vR a :: st) hs Q := e_aload ((cd274 384).trans rfl) rfl
set_option maxRecDepth 20000 in
theorem x274_385 {sc : Scr} {d : Nat} {l0 l1 l2 l3 l4 l5 l6 : Option V} {st : List V} {hs : HS} {Q : Rs → HS → Prop} : Ex sc d 274 385 [l0, l1, l2, l3, l4, l5, l6] st hs Q ↔ Ex sc d 274 386 [l0, l1, l2, l3, l4, l5, l6] (vI (0) :: st) hs Q := e_iconst ((cd274 385).trans rfl)
set_option maxRecDepth 20000 in
theorem x274_386 {sc : Scr} {d : Nat} {l0 l1 l2 l3 l4 l5 l6 : Option V} {st : List V} {hs : HS} {Q : Rs → HS → Prop} {a : Nat} {i : Int} : Ex sc d 274 386 [l0, l1, l2, l3, l4, l5, l6] (vI i :: vR a :: st) hs Q ↔ Ra hs 2 a i (fun z => Ex sc d 274 387 [l0, l1, l2, l3, l4, l5, l6] (vL z :: st) hs Q) := e_lald ((cd274 386).trans rfl)
set_option maxRecDepth 20000 in
theorem x274_387 {sc : Scr} {d : Nat} {l0 l1 l2 l3 l4 l5 : Option V} {st : List V} {hs : HS} {Q : Rs → HS → Prop} {a : Int} : Ex sc d 274 387 [l0, l1, l2, l3, l4, l5, some (vI a)] st hs Q ↔ Ex sc d 274 389 [l0, l1, l2, l3, l4, l5, some (vI a)] (vI a :: st) hs Q := e_iload ((cd274 387).trans rfl) rfl
set_option maxRecDepth 20000 in
theorem x274_389 {sc : Scr} {d : Nat} {l0 l1 l2 l3 l4 l5 l6 : Option V} {st : List V} {hs : HS} {Q : Rs → HS → Prop} {a : Int} (ha : inR a) : Ex sc d 274 389 [l0, l1, l2, l3, l4, l5, l6] (vI a :: st) hs Q ↔ Ex sc d 274 390 [l0, l1, l2, l3, l4, l5, l6] (vL a :: st) hs Q := e_i2l ((cd274 389).trans rfl) ha
set_option maxRecDepth 20000 in
theorem x274_390 {sc : Scr} {d : Nat} {l0 l1 l2 l3 l4 l5 l6 : Option V} {st : List V} {hs : HS} {Q : Rs → HS → Prop} {a b : Int} (ha : inL a) (hb : inL b) : Ex sc d 274 390 [l0, l1, l2, l3, l4, l5, l6] (vL b :: vL a :: st) hs Q ↔ Ex sc d 274 391 [l0, l1, l2, l3, l4, l5, l6] (vI (if a < b then -1 else if a = b then 0 else 1) :: st) hs Q := e_lcmp ((cd274 390).trans rfl) ha hb
set_option maxRecDepth 20000 in
theorem x274_391 {sc : Scr} {d : Nat} {l0 l1 l2 l3 l4 l5 l6 : Option V} {st : List V} {hs : HS} {Q : Rs → HS → Prop} {a : Int} (ha : inR a) : Ex sc d 274 391 [l0, l1, l2, l3, l4, l5, l6] (vI a :: st) hs Q ↔ if a = 0 then Ex sc d 274 396 [l0, l1, l2, l3, l4, l5, l6] st hs Q else Ex sc d 274 394 [l0, l1, l2, l3, l4, l5, l6] st hs Q := (e_if ((cd274 391).trans rfl) ha).trans (by simp only [cmpI, decide_eq_true_eq])
set_option maxRecDepth 20000 in
theorem x274_394 {sc : Scr} {d : Nat} {l0 l1 l2 l3 l4 l5 l6 : Option V} {st : List V} {hs : HS} {Q : Rs → HS → Prop} : Ex sc d 274 394 [l0, l1, l2, l3, l4, l5, l6] st hs Q ↔ Ex sc d 274 395 [l0, l1, l2, l3, l4, l5, l6] (vI (0) :: st) hs Q := e_iconst ((cd274 394).trans rfl)
set_option maxRecDepth 20000 in
theorem x274_395 {sc : Scr} {d : Nat} {l0 l1 l2 l3 l4 l5 l6 : Option V} {hs : HS} {Q : Rs → HS → Prop} {a : Int} (ha : a = 0 ∨ a = 1) : Ex sc d 274 395 [l0, l1, l2, l3, l4, l5, l6] [vI a] hs Q ↔ Q (.inl (some (vI a))) hs := e_zret ((cd274 395).trans rfl) rfl ha
set_option maxRecDepth 20000 in
theorem x274_396 {sc : Scr} {d : Nat} {l0 l1 l2 l3 l4 l5 l6 : Option V} {st : List V} {hs : HS} {Q : Rs → HS → Prop} : Ex sc d 274 396 [l0, l1, l2, l3, l4, l5, l6] st hs Q ↔ Ex sc d 274 1660 [l0, l1, l2, l3, l4, l5, l6] st hs Q := e_goto ((cd274 396).trans rfl)
set_option maxRecDepth 20000 in
theorem x274_399 {sc : Scr} {d : Nat} {l0 l2 l3 l4 l5 l6 : Option V} {st : List V} {hs : HS} {Q : Rs → HS → Prop} {a : Nat} : Ex sc d 274 399 [l0, some (vR a), l2, l3, l4, l5, l6] st hs Q ↔ Ex sc d 274 400 [l0, some (vR a), l2, l3, l4, l5, l6] (vR a :: st) hs Q := e_aload ((cd274 399).trans rfl) rfl
set_option maxRecDepth 20000 in
theorem x274_400 {sc : Scr} {d : Nat} {l1 l2 l3 l4 l5 l6 : Option V} {st : List V} {hs : HS} {Q : Rs → HS → Prop} {a : Nat} : Ex sc d 274 400 [some (vS a), l1, l2, l3, l4, l5, l6] st hs Q ↔ Ex sc d 274 401 [some (vS a), l1, l2, l3, l4, l5, l6] (vS a :: st) hs Q := e_aloadS ((cd274 400).trans rfl) rfl
set_option maxRecDepth 20000 in
theorem x274_401 {sc : Scr} {d : Nat} {l0 l1 l2 l3 l5 l6 : Option V} {st : List V} {hs : HS} {Q : Rs → HS → Prop} {a : Int} : Ex sc d 274 401 [l0, l1, l2, l3, some (vI a), l5, l6] st hs Q ↔ Ex sc d 274 403 [l0, l1, l2, l3, some (vI a), l5, l6] (vI a :: st) hs Q := e_iload ((cd274 401).trans rfl) rfl
set_option maxRecDepth 20000 in
theorem x274_403 {sc : Scr} {d : Nat} {l0 l1 l2 l3 l4 l5 l6 : Option V} {st : List V} {hs : HS} {Q : Rs → HS → Prop} : Ex sc d 274 403 [l0, l1, l2, l3, l4, l5, l6] st hs Q ↔ Ex sc d 274 404 [l0, l1, l2, l3, l4, l5, l6] (vI (1) :: st) hs Q := e_iconst ((cd274 403).trans rfl)
set_option maxRecDepth 20000 in
theorem x274_404 {sc : Scr} {d : Nat} {l0 l1 l2 l3 l4 l5 l6 : Option V} {st : List V} {hs : HS} {Q : Rs → HS → Prop} {a b : Int} : Ex sc d 274 404 [l0, l1, l2, l3, l4, l5, l6] (vI b :: vI a :: st) hs Q ↔ Ex sc d 274 405 [l0, l1, l2, l3, l4, l5, l6] (vI (a + b) :: st) hs Q := e_iadd ((cd274 404).trans rfl)
set_option maxRecDepth 20000 in
theorem x274_405 {sc : Scr} {d : Nat} {l0 l1 l2 l3 l4 l5 l6 : Option V} {st : List V} {hs : HS} {Q : Rs → HS → Prop} {i : Int} (hq : 0 ≤ i ∧ i < (sc.1 : Int) ∧ sc.1 < 2147483648) : Ex sc d 274 405 [l0, l1, l2, l3, l4, l5, l6] (vI i :: vS 9 :: st) hs Q ↔ Ex sc d 274 406 [l0, l1, l2, l3, l4, l5, l6] (vI (sc.2 i.toNat) :: st) hs Q := e_ialdS ((cd274 405).trans rfl) hq
set_option maxRecDepth 20000 in
theorem x274_406 {sc : Scr} {d : Nat} {l1 l2 l3 l4 l5 l6 : Option V} {st : List V} {hs : HS} {Q : Rs → HS → Prop} {a : Nat} : Ex sc d 274 406 [some (vS a), l1, l2, l3, l4, l5, l6] st hs Q ↔ Ex sc d 274 407 [some (vS a), l1, l2, l3, l4, l5, l6] (vS a :: st) hs Q := e_aloadS ((cd274 406).trans rfl) rfl
set_option maxRecDepth 20000 in
theorem x274_407 {sc : Scr} {d : Nat} {l0 l1 l2 l3 l5 l6 : Option V} {st : List V} {hs : HS} {Q : Rs → HS → Prop} {a : Int} : Ex sc d 274 407 [l0, l1, l2, l3, some (vI a), l5, l6] st hs Q ↔ Ex sc d 274 409 [l0, l1, l2, l3, some (vI a), l5, l6] (vI a :: st) hs Q := e_iload ((cd274 407).trans rfl) rfl
set_option maxRecDepth 20000 in
theorem x274_409 {sc : Scr} {d : Nat} {l0 l1 l2 l3 l4 l5 l6 : Option V} {st : List V} {hs : HS} {Q : Rs → HS → Prop} : Ex sc d 274 409 [l0, l1, l2, l3, l4, l5, l6] st hs Q ↔ Ex sc d 274 410 [l0, l1, l2, l3, l4, l5, l6] (vI (2) :: st) hs Q := e_iconst ((cd274 409).trans rfl)
set_option maxRecDepth 20000 in
theorem x274_410 {sc : Scr} {d : Nat} {l0 l1 l2 l3 l4 l5 l6 : Option V} {st : List V} {hs : HS} {Q : Rs → HS → Prop} {a b : Int} : Ex sc d 274 410 [l0, l1, l2, l3, l4, l5, l6] (vI b :: vI a :: st) hs Q ↔ Ex sc d 274 411 [l0, l1, l2, l3, l4, l5, l6] (vI (a + b) :: st) hs Q := e_iadd ((cd274 410).trans rfl)
set_option maxRecDepth 20000 in
theorem x274_411 {sc : Scr} {d : Nat} {l0 l1 l2 l3 l4 l5 l6 : Option V} {st : List V} {hs : HS} {Q : Rs → HS → Prop} {i : Int} (hq : 0 ≤ i ∧ i < (sc.1 : Int) ∧ sc.1 < 2147483648) : Ex sc d 274 411 [l0, l1, l2, l3, l4, l5, l6] (vI i :: vS 9 :: st) hs Q ↔ Ex sc d 274 412 [l0, l1, l2, l3, l4, l5, l6] (vI (sc.2 i.toNat) :: st) hs Q := e_ialdS ((cd274 411).trans rfl) hq
set_option maxRecDepth 20000 in
theorem x274_412 {sc : Scr} {d : Nat} {l0 l1 l2 l4 l5 l6 : Option V} {st : List V} {hs : HS} {Q : Rs → HS → Prop} {a : Nat} : Ex sc d 274 412 [l0, l1, l2, some (vR a), l4, l5, l6] st hs Q ↔ Ex sc d 274 413 [l0, l1, l2, some (vR a), l4, l5, l6] (vR a :: st) hs Q := e_aload ((cd274 412).trans rfl) rfl
set_option maxRecDepth 20000 in
theorem x274_413 {sc : Scr} {d : Nat} {l0 l1 l2 l3 l4 l5 l6 : Option V} {st : List V} {hs : HS} {Q : Rs → HS → Prop} {a0 : Nat} {a1 : Int} {a2 : Int} {a3 : Nat} (hd : 0 < d) (hc : catS st ≤ 8) : Ex sc d 274 413 [l0, l1, l2, l3, l4, l5, l6] (vR a3 :: vI a2 :: vI a1 :: vR a0 :: st) hs Q ↔ Ex sc (d - 1) 75 0 [some (vR a0), some (vI a1), some (vI a2), some (vR a3), none] [] hs (Kc sc d 274 413 416 [l0, l1, l2, l3, l4, l5, l6] st Q) := e_callS ((cd274 413).trans rfl) (by simp only [List.length_cons]; omega) (by decide) rfl rfl rfl hc rfl hd
set_option maxRecDepth 20000 in
theorem x274_416 {sc : Scr} {d : Nat} {l0 l1 l2 l3 l4 l5 l6 : Option V} {st : List V} {hs : HS} {Q : Rs → HS → Prop} {a : Int} (hn : notL l4 = true) : Ex sc d 274 416 [l0, l1, l2, l3, l4, l5, l6] (vI a :: st) hs Q ↔ Ex sc d 274 418 [l0, l1, l2, l3, l4, some (vI a), l6] st hs Q := e_istore ((cd274 416).trans rfl) (by show 5 < 7; decide) (noL_of (j := 4) rfl hn) rfl
set_option maxRecDepth 20000 in
theorem x274_418 {sc : Scr} {d : Nat} {l0 l1 l3 l4 l5 l6 : Option V} {st : List V} {hs : HS} {Q : Rs → HS → Prop} {a : Nat} : Ex sc d 274 418 [l0, l1, some (vR a), l3, l4, l5, l6] st hs Q ↔ Ex sc d 274 419 [l0, l1, some (vR a), l3, l4, l5, l6] (vR a :: st) hs Q := e_aload ((cd274 418).trans rfl) rfl
set_option maxRecDepth 20000 in
theorem x274_419 {sc : Scr} {d : Nat} {l1 l2 l3 l4 l5 l6 : Option V} {st : List V} {hs : HS} {Q : Rs → HS → Prop} {a : Nat} : Ex sc d 274 419 [some (vS a), l1, l2, l3, l4, l5, l6] st hs Q ↔ Ex sc d 274 420 [some (vS a), l1, l2, l3, l4, l5, l6] (vS a :: st) hs Q := e_aloadS ((cd274 419).trans rfl) rfl
set_option maxRecDepth 20000 in
theorem x274_420 {sc : Scr} {d : Nat} {l0 l1 l2 l3 l5 l6 : Option V} {st : List V} {hs : HS} {Q : Rs → HS → Prop} {a : Int} : Ex sc d 274 420 [l0, l1, l2, l3, some (vI a), l5, l6] st hs Q ↔ Ex sc d 274 422 [l0, l1, l2, l3, some (vI a), l5, l6] (vI a :: st) hs Q := e_iload ((cd274 420).trans rfl) rfl
set_option maxRecDepth 20000 in
theorem x274_422 {sc : Scr} {d : Nat} {l0 l1 l2 l3 l4 l5 l6 : Option V} {st : List V} {hs : HS} {Q : Rs → HS → Prop} : Ex sc d 274 422 [l0, l1, l2, l3, l4, l5, l6] st hs Q ↔ Ex sc d 274 423 [l0, l1, l2, l3, l4, l5, l6] (vI (1) :: st) hs Q := e_iconst ((cd274 422).trans rfl)
set_option maxRecDepth 20000 in
theorem x274_423 {sc : Scr} {d : Nat} {l0 l1 l2 l3 l4 l5 l6 : Option V} {st : List V} {hs : HS} {Q : Rs → HS → Prop} {a b : Int} : Ex sc d 274 423 [l0, l1, l2, l3, l4, l5, l6] (vI b :: vI a :: st) hs Q ↔ Ex sc d 274 424 [l0, l1, l2, l3, l4, l5, l6] (vI (a + b) :: st) hs Q := e_iadd ((cd274 423).trans rfl)
set_option maxRecDepth 20000 in
theorem x274_424 {sc : Scr} {d : Nat} {l0 l1 l2 l3 l4 l5 l6 : Option V} {st : List V} {hs : HS} {Q : Rs → HS → Prop} {i : Int} (hq : 0 ≤ i ∧ i < (sc.1 : Int) ∧ sc.1 < 2147483648) : Ex sc d 274 424 [l0, l1, l2, l3, l4, l5, l6] (vI i :: vS 9 :: st) hs Q ↔ Ex sc d 274 425 [l0, l1, l2, l3, l4, l5, l6] (vI (sc.2 i.toNat) :: st) hs Q := e_ialdS ((cd274 424).trans rfl) hq
set_option maxRecDepth 20000 in
theorem x274_425 {sc : Scr} {d : Nat} {l1 l2 l3 l4 l5 l6 : Option V} {st : List V} {hs : HS} {Q : Rs → HS → Prop} {a : Nat} : Ex sc d 274 425 [some (vS a), l1, l2, l3, l4, l5, l6] st hs Q ↔ Ex sc d 274 426 [some (vS a), l1, l2, l3, l4, l5, l6] (vS a :: st) hs Q := e_aloadS ((cd274 425).trans rfl) rfl
set_option maxRecDepth 20000 in
theorem x274_426 {sc : Scr} {d : Nat} {l0 l1 l2 l3 l5 l6 : Option V} {st : List V} {hs : HS} {Q : Rs → HS → Prop} {a : Int} : Ex sc d 274 426 [l0, l1, l2, l3, some (vI a), l5, l6] st hs Q ↔ Ex sc d 274 428 [l0, l1, l2, l3, some (vI a), l5, l6] (vI a :: st) hs Q := e_iload ((cd274 426).trans rfl) rfl
set_option maxRecDepth 20000 in
theorem x274_428 {sc : Scr} {d : Nat} {l0 l1 l2 l3 l4 l5 l6 : Option V} {st : List V} {hs : HS} {Q : Rs → HS → Prop} : Ex sc d 274 428 [l0, l1, l2, l3, l4, l5, l6] st hs Q ↔ Ex sc d 274 429 [l0, l1, l2, l3, l4, l5, l6] (vI (2) :: st) hs Q := e_iconst ((cd274 428).trans rfl)
set_option maxRecDepth 20000 in
theorem x274_429 {sc : Scr} {d : Nat} {l0 l1 l2 l3 l4 l5 l6 : Option V} {st : List V} {hs : HS} {Q : Rs → HS → Prop} {a b : Int} : Ex sc d 274 429 [l0, l1, l2, l3, l4, l5, l6] (vI b :: vI a :: st) hs Q ↔ Ex sc d 274 430 [l0, l1, l2, l3, l4, l5, l6] (vI (a + b) :: st) hs Q := e_iadd ((cd274 429).trans rfl)
set_option maxRecDepth 20000 in
theorem x274_430 {sc : Scr} {d : Nat} {l0 l1 l2 l3 l4 l5 l6 : Option V} {st : List V} {hs : HS} {Q : Rs → HS → Prop} {i : Int} (hq : 0 ≤ i ∧ i < (sc.1 : Int) ∧ sc.1 < 2147483648) : Ex sc d 274 430 [l0, l1, l2, l3, l4, l5, l6] (vI i :: vS 9 :: st) hs Q ↔ Ex sc d 274 431 [l0, l1, l2, l3, l4, l5, l6] (vI (sc.2 i.toNat) :: st) hs Q := e_ialdS ((cd274 430).trans rfl) hq
set_option maxRecDepth 20000 in
theorem x274_431 {sc : Scr} {d : Nat} {l0 l1 l2 l3 l4 l5 l6 : Option V} {st : List V} {hs : HS} {Q : Rs → HS → Prop} {a0 : Int} {a1 : Int} {q : Nat} (hd : 0 < d) (hc : catS st ≤ 8) (ho : isObj hs 12 (vR q) = true) : Ex sc d 274 431 [l0, l1, l2, l3, l4, l5, l6] (vI a1 :: vI a0 :: vR q :: st) hs Q ↔ Ex sc (d - 1) 218 0 [some (vR q), some (vI a0), some (vI a1)] [] hs (Kc sc d 274 431 434 [l0, l1, l2, l3, l4, l5, l6] st Q) := e_callV ((cd274 431).trans rfl) ho (by simp only [List.length_cons]; omega) (by decide) rfl rfl rfl hc rfl hd
set_option maxRecDepth 20000 in
theorem x274_434 {sc : Scr} {d : Nat} {l0 l1 l2 l3 l4 l5 l6 : Option V} {st : List V} {hs : HS} {Q : Rs → HS → Prop} {a : Int} (hn : notL l5 = true) : Ex sc d 274 434 [l0, l1, l2, l3, l4, l5, l6] (vI a :: st) hs Q ↔ Ex sc d 274 436 [l0, l1, l2, l3, l4, l5, some (vI a)] st hs Q := e_istore ((cd274 434).trans rfl) (by show 6 < 7; decide) (noL_of (j := 5) rfl hn) rfl
set_option maxRecDepth 20000 in
theorem x274_436 {sc : Scr} {d : Nat} {l0 l1 l3 l4 l5 l6 : Option V} {st : List V} {hs : HS} {Q : Rs → HS → Prop} {a : Nat} : Ex sc d 274 436 [l0, l1, some (vR a), l3, l4, l5, l6] st hs Q ↔ Ex sc d 274 437 [l0, l1, some (vR a), l3, l4, l5, l6] (vR a :: st) hs Q := e_aload ((cd274 436).trans rfl) rfl
set_option maxRecDepth 20000 in
theorem x274_437 {sc : Scr} {d : Nat} {l0 l1 l2 l3 l4 l5 l6 : Option V} {st : List V} {hs : HS} {Q : Rs → HS → Prop} {q : Nat} (hd : 0 < d) (hc : catS st ≤ 8) (ho : isObj hs 12 (vR q) = true) : Ex sc d 274 437 [l0, l1, l2, l3, l4, l5, l6] (vR q :: st) hs Q ↔ Ex sc (d - 1) 177 0 [some (vR q)] [] hs (Kc sc d 274 437 440 [l0, l1, l2, l3, l4, l5, l6] st Q) := e_callV ((cd274 437).trans rfl) ho (by simp only [List.length_cons]; omega) (by decide) rfl rfl rfl hc rfl hd
set_option maxRecDepth 20000 in
theorem x274_440 {sc : Scr} {d : Nat} {l0 l1 l2 l3 l4 l6 : Option V} {st : List V} {hs : HS} {Q : Rs → HS → Prop} {a : Int} : Ex sc d 274 440 [l0, l1, l2, l3, l4, some (vI a), l6] st hs Q ↔ Ex sc d 274 442 [l0, l1, l2, l3, l4, some (vI a), l6] (vI a :: st) hs Q := e_iload ((cd274 440).trans rfl) rfl
set_option maxRecDepth 20000 in
theorem x274_442 {sc : Scr} {d : Nat} {l0 l1 l2 l3 l4 l5 l6 : Option V} {st : List V} {hs : HS} {Q : Rs → HS → Prop} {a b : Int} (ha : inR a) (hb : inR b) : Ex sc d 274 442 [l0, l1, l2, l3, l4, l5, l6] (vI b :: vI a :: st) hs Q ↔ if a = b then Ex sc d 274 447 [l0, l1, l2, l3, l4, l5, l6] st hs Q else Ex sc d 274 445 [l0, l1, l2, l3, l4, l5, l6] st hs Q := (e_icmp ((cd274 442).trans rfl) ha hb).trans (by simp only [cmpI, decide_eq_true_eq])
set_option maxRecDepth 20000 in
theorem x274_445 {sc : Scr} {d : Nat} {l0 l1 l2 l3 l4 l5 l6 : Option V} {st : List V} {hs : HS} {Q : Rs → HS → Prop} : Ex sc d 274 445 [l0, l1, l2, l3, l4, l5, l6] st hs Q ↔ Ex sc d 274 446 [l0, l1, l2, l3, l4, l5, l6] (vI (0) :: st) hs Q := e_iconst ((cd274 445).trans rfl)
set_option maxRecDepth 20000 in
theorem x274_446 {sc : Scr} {d : Nat} {l0 l1 l2 l3 l4 l5 l6 : Option V} {hs : HS} {Q : Rs → HS → Prop} {a : Int} (ha : a = 0 ∨ a = 1) : Ex sc d 274 446 [l0, l1, l2, l3, l4, l5, l6] [vI a] hs Q ↔ Q (.inl (some (vI a))) hs := e_zret ((cd274 446).trans rfl) rfl ha
set_option maxRecDepth 20000 in
theorem x274_447 {sc : Scr} {d : Nat} {l0 l1 l2 l3 l4 l6 : Option V} {st : List V} {hs : HS} {Q : Rs → HS → Prop} {a : Int} : Ex sc d 274 447 [l0, l1, l2, l3, l4, some (vI a), l6] st hs Q ↔ Ex sc d 274 449 [l0, l1, l2, l3, l4, some (vI a), l6] (vI a :: st) hs Q := e_iload ((cd274 447).trans rfl) rfl
set_option maxRecDepth 20000 in
theorem x274_449 {sc : Scr} {d : Nat} {l0 l1 l2 l3 l4 l5 l6 : Option V} {st : List V} {hs : HS} {Q : Rs → HS → Prop} {a : Int} (ha : inR a) : Ex sc d 274 449 [l0, l1, l2, l3, l4, l5, l6] (vI a :: st) hs Q ↔ if ¬ a = 0 then Ex sc d 274 464 [l0, l1, l2, l3, l4, l5, l6] st hs Q else Ex sc d 274 452 [l0, l1, l2, l3, l4, l5, l6] st hs Q := (e_if ((cd274 449).trans rfl) ha).trans (by simp only [cmpI, decide_eq_true_eq])
set_option maxRecDepth 20000 in
theorem x274_452 {sc : Scr} {d : Nat} {l0 l1 l2 l4 l5 l6 : Option V} {st : List V} {hs : HS} {Q : Rs → HS → Prop} {a : Nat} : Ex sc d 274 452 [l0, l1, l2, some (vR a), l4, l5, l6] st hs Q ↔ Ex sc d 274 453 [l0, l1, l2, some (vR a), l4, l5, l6] (vR a :: st) hs Q := e_aload ((cd274 452).trans rfl) rfl
set_option maxRecDepth 20000 in
theorem x274_453 {sc : Scr} {d : Nat} {l0 l1 l2 l3 l4 l5 l6 : Option V} {st : List V} {hs : HS} {Q : Rs → HS → Prop} : Ex sc d 274 453 [l0, l1, l2, l3, l4, l5, l6] st hs Q ↔ Ex sc d 274 454 [l0, l1, l2, l3, l4, l5, l6] (vI (0) :: st) hs Q := e_iconst ((cd274 453).trans rfl)
set_option maxRecDepth 20000 in
theorem x274_454 {sc : Scr} {d : Nat} {l0 l1 l2 l3 l4 l5 l6 : Option V} {st : List V} {hs : HS} {Q : Rs → HS → Prop} {a : Nat} {i : Int} : Ex sc d 274 454 [l0, l1, l2, l3, l4, l5, l6] (vI i :: vR a :: st) hs Q ↔ Ra hs 2 a i (fun z => Ex sc d 274 455 [l0, l1, l2, l3, l4, l5, l6] (vL z :: st) hs Q) := e_lald ((cd274 454).trans rfl)
set_option maxRecDepth 20000 in
theorem x274_455 {sc : Scr} {d : Nat} {l0 l1 l2 l3 l4 l5 : Option V} {st : List V} {hs : HS} {Q : Rs → HS → Prop} {a : Int} : Ex sc d 274 455 [l0, l1, l2, l3, l4, l5, some (vI a)] st hs Q ↔ Ex sc d 274 457 [l0, l1, l2, l3, l4, l5, some (vI a)] (vI a :: st) hs Q := e_iload ((cd274 455).trans rfl) rfl
set_option maxRecDepth 20000 in
theorem x274_457 {sc : Scr} {d : Nat} {l0 l1 l2 l3 l4 l5 l6 : Option V} {st : List V} {hs : HS} {Q : Rs → HS → Prop} {a : Int} (ha : inR a) : Ex sc d 274 457 [l0, l1, l2, l3, l4, l5, l6] (vI a :: st) hs Q ↔ Ex sc d 274 458 [l0, l1, l2, l3, l4, l5, l6] (vL a :: st) hs Q := e_i2l ((cd274 457).trans rfl) ha
set_option maxRecDepth 20000 in
theorem x274_458 {sc : Scr} {d : Nat} {l0 l1 l2 l3 l4 l5 l6 : Option V} {st : List V} {hs : HS} {Q : Rs → HS → Prop} {a b : Int} (ha : inL a) (hb : inL b) : Ex sc d 274 458 [l0, l1, l2, l3, l4, l5, l6] (vL b :: vL a :: st) hs Q ↔ Ex sc d 274 459 [l0, l1, l2, l3, l4, l5, l6] (vI (if a < b then -1 else if a = b then 0 else 1) :: st) hs Q := e_lcmp ((cd274 458).trans rfl) ha hb
set_option maxRecDepth 20000 in
theorem x274_459 {sc : Scr} {d : Nat} {l0 l1 l2 l3 l4 l5 l6 : Option V} {st : List V} {hs : HS} {Q : Rs → HS → Prop} {a : Int} (ha : inR a) : Ex sc d 274 459 [l0, l1, l2, l3, l4, l5, l6] (vI a :: st) hs Q ↔ if a = 0 then Ex sc d 274 464 [l0, l1, l2, l3, l4, l5, l6] st hs Q else Ex sc d 274 462 [l0, l1, l2, l3, l4, l5, l6] st hs Q := (e_if ((cd274 459).trans rfl) ha).trans (by simp only [cmpI, decide_eq_true_eq])
set_option maxRecDepth 20000 in
theorem x274_462 {sc : Scr} {d : Nat} {l0 l1 l2 l3 l4 l5 l6 : Option V} {st : List V} {hs : HS} {Q : Rs → HS → Prop} : Ex sc d 274 462 [l0, l1, l2, l3, l4, l5, l6] st hs Q ↔ Ex sc d 274 463 [l0, l1, l2, l3, l4, l5, l6] (vI (0) :: st) hs Q := e_iconst ((cd274 462).trans rfl)
set_option maxRecDepth 20000 in
theorem x274_463 {sc : Scr} {d : Nat} {l0 l1 l2 l3 l4 l5 l6 : Option V} {hs : HS} {Q : Rs → HS → Prop} {a : Int} (ha : a = 0 ∨ a = 1) : Ex sc d 274 463 [l0, l1, l2, l3, l4, l5, l6] [vI a] hs Q ↔ Q (.inl (some (vI a))) hs := e_zret ((cd274 463).trans rfl) rfl ha
set_option maxRecDepth 20000 in
theorem x274_464 {sc : Scr} {d : Nat} {l0 l1 l2 l3 l4 l5 l6 : Option V} {st : List V} {hs : HS} {Q : Rs → HS → Prop} : Ex sc d 274 464 [l0, l1, l2, l3, l4, l5, l6] st hs Q ↔ Ex sc d 274 1660 [l0, l1, l2, l3, l4, l5, l6] st hs Q := e_goto ((cd274 464).trans rfl)
set_option maxRecDepth 20000 in
theorem x274_467 {sc : Scr} {d : Nat} {l0 l2 l3 l4 l5 l6 : Option V} {st : List V} {hs : HS} {Q : Rs → HS → Prop} {a : Nat} : Ex sc d 274 467 [l0, some (vR a), l2, l3, l4, l5, l6] st hs Q ↔ Ex sc d 274 468 [l0, some (vR a), l2, l3, l4, l5, l6] (vR a :: st) hs Q := e_aload ((cd274 467).trans rfl) rfl
set_option maxRecDepth 20000 in
theorem x274_468 {sc : Scr} {d : Nat} {l1 l2 l3 l4 l5 l6 : Option V} {st : List V} {hs : HS} {Q : Rs → HS → Prop} {a : Nat} : Ex sc d 274 468 [some (vS a), l1, l2, l3, l4, l5, l6] st hs Q ↔ Ex sc d 274 469 [some (vS a), l1, l2, l3, l4, l5, l6] (vS a :: st) hs Q := e_aloadS ((cd274 468).trans rfl) rfl
set_option maxRecDepth 20000 in
theorem x274_469 {sc : Scr} {d : Nat} {l0 l1 l2 l3 l5 l6 : Option V} {st : List V} {hs : HS} {Q : Rs → HS → Prop} {a : Int} : Ex sc d 274 469 [l0, l1, l2, l3, some (vI a), l5, l6] st hs Q ↔ Ex sc d 274 471 [l0, l1, l2, l3, some (vI a), l5, l6] (vI a :: st) hs Q := e_iload ((cd274 469).trans rfl) rfl
set_option maxRecDepth 20000 in
theorem x274_471 {sc : Scr} {d : Nat} {l0 l1 l2 l3 l4 l5 l6 : Option V} {st : List V} {hs : HS} {Q : Rs → HS → Prop} : Ex sc d 274 471 [l0, l1, l2, l3, l4, l5, l6] st hs Q ↔ Ex sc d 274 472 [l0, l1, l2, l3, l4, l5, l6] (vI (1) :: st) hs Q := e_iconst ((cd274 471).trans rfl)
set_option maxRecDepth 20000 in
theorem x274_472 {sc : Scr} {d : Nat} {l0 l1 l2 l3 l4 l5 l6 : Option V} {st : List V} {hs : HS} {Q : Rs → HS → Prop} {a b : Int} : Ex sc d 274 472 [l0, l1, l2, l3, l4, l5, l6] (vI b :: vI a :: st) hs Q ↔ Ex sc d 274 473 [l0, l1, l2, l3, l4, l5, l6] (vI (a + b) :: st) hs Q := e_iadd ((cd274 472).trans rfl)
set_option maxRecDepth 20000 in
theorem x274_473 {sc : Scr} {d : Nat} {l0 l1 l2 l3 l4 l5 l6 : Option V} {st : List V} {hs : HS} {Q : Rs → HS → Prop} {i : Int} (hq : 0 ≤ i ∧ i < (sc.1 : Int) ∧ sc.1 < 2147483648) : Ex sc d 274 473 [l0, l1, l2, l3, l4, l5, l6] (vI i :: vS 9 :: st) hs Q ↔ Ex sc d 274 474 [l0, l1, l2, l3, l4, l5, l6] (vI (sc.2 i.toNat) :: st) hs Q := e_ialdS ((cd274 473).trans rfl) hq
set_option maxRecDepth 20000 in
theorem x274_474 {sc : Scr} {d : Nat} {l1 l2 l3 l4 l5 l6 : Option V} {st : List V} {hs : HS} {Q : Rs → HS → Prop} {a : Nat} : Ex sc d 274 474 [some (vS a), l1, l2, l3, l4, l5, l6] st hs Q ↔ Ex sc d 274 475 [some (vS a), l1, l2, l3, l4, l5, l6] (vS a :: st) hs Q := e_aloadS ((cd274 474).trans rfl) rfl
set_option maxRecDepth 20000 in
theorem x274_475 {sc : Scr} {d : Nat} {l0 l1 l2 l3 l5 l6 : Option V} {st : List V} {hs : HS} {Q : Rs → HS → Prop} {a : Int} : Ex sc d 274 475 [l0, l1, l2, l3, some (vI a), l5, l6] st hs Q ↔ Ex sc d 274 477 [l0, l1, l2, l3, some (vI a), l5, l6] (vI a :: st) hs Q := e_iload ((cd274 475).trans rfl) rfl
set_option maxRecDepth 20000 in
theorem x274_477 {sc : Scr} {d : Nat} {l0 l1 l2 l3 l4 l5 l6 : Option V} {st : List V} {hs : HS} {Q : Rs → HS → Prop} : Ex sc d 274 477 [l0, l1, l2, l3, l4, l5, l6] st hs Q ↔ Ex sc d 274 478 [l0, l1, l2, l3, l4, l5, l6] (vI (2) :: st) hs Q := e_iconst ((cd274 477).trans rfl)
set_option maxRecDepth 20000 in
theorem x274_478 {sc : Scr} {d : Nat} {l0 l1 l2 l3 l4 l5 l6 : Option V} {st : List V} {hs : HS} {Q : Rs → HS → Prop} {a b : Int} : Ex sc d 274 478 [l0, l1, l2, l3, l4, l5, l6] (vI b :: vI a :: st) hs Q ↔ Ex sc d 274 479 [l0, l1, l2, l3, l4, l5, l6] (vI (a + b) :: st) hs Q := e_iadd ((cd274 478).trans rfl)
set_option maxRecDepth 20000 in
theorem x274_479 {sc : Scr} {d : Nat} {l0 l1 l2 l3 l4 l5 l6 : Option V} {st : List V} {hs : HS} {Q : Rs → HS → Prop} {i : Int} (hq : 0 ≤ i ∧ i < (sc.1 : Int) ∧ sc.1 < 2147483648) : Ex sc d 274 479 [l0, l1, l2, l3, l4, l5, l6] (vI i :: vS 9 :: st) hs Q ↔ Ex sc d 274 480 [l0, l1, l2, l3, l4, l5, l6] (vI (sc.2 i.toNat) :: st) hs Q := e_ialdS ((cd274 479).trans rfl) hq
set_option maxRecDepth 20000 in
theorem x274_480 {sc : Scr} {d : Nat} {l1 l2 l3 l4 l5 l6 : Option V} {st : List V} {hs : HS} {Q : Rs → HS → Prop} {a : Nat} : Ex sc d 274 480 [some (vS a), l1, l2, l3, l4, l5, l6] st hs Q ↔ Ex sc d 274 481 [some (vS a), l1, l2, l3, l4, l5, l6] (vS a :: st) hs Q := e_aloadS ((cd274 480).trans rfl) rfl
set_option maxRecDepth 20000 in
theorem x274_481 {sc : Scr} {d : Nat} {l0 l1 l2 l3 l5 l6 : Option V} {st : List V} {hs : HS} {Q : Rs → HS → Prop} {a : Int} : Ex sc d 274 481 [l0, l1, l2, l3, some (vI a), l5, l6] st hs Q ↔ Ex sc d 274 483 [l0, l1, l2, l3, some (vI a), l5, l6] (vI a :: st) hs Q := e_iload ((cd274 481).trans rfl) rfl
set_option maxRecDepth 20000 in
theorem x274_483 {sc : Scr} {d : Nat} {l0 l1 l2 l3 l4 l5 l6 : Option V} {st : List V} {hs : HS} {Q : Rs → HS → Prop} : Ex sc d 274 483 [l0, l1, l2, l3, l4, l5, l6] st hs Q ↔ Ex sc d 274 484 [l0, l1, l2, l3, l4, l5, l6] (vI (3) :: st) hs Q := e_iconst ((cd274 483).trans rfl)
set_option maxRecDepth 20000 in
theorem x274_484 {sc : Scr} {d : Nat} {l0 l1 l2 l3 l4 l5 l6 : Option V} {st : List V} {hs : HS} {Q : Rs → HS → Prop} {a b : Int} : Ex sc d 274 484 [l0, l1, l2, l3, l4, l5, l6] (vI b :: vI a :: st) hs Q ↔ Ex sc d 274 485 [l0, l1, l2, l3, l4, l5, l6] (vI (a + b) :: st) hs Q := e_iadd ((cd274 484).trans rfl)
set_option maxRecDepth 20000 in
theorem x274_485 {sc : Scr} {d : Nat} {l0 l1 l2 l3 l4 l5 l6 : Option V} {st : List V} {hs : HS} {Q : Rs → HS → Prop} {i : Int} (hq : 0 ≤ i ∧ i < (sc.1 : Int) ∧ sc.1 < 2147483648) : Ex sc d 274 485 [l0, l1, l2, l3, l4, l5, l6] (vI i :: vS 9 :: st) hs Q ↔ Ex sc d 274 486 [l0, l1, l2, l3, l4, l5, l6] (vI (sc.2 i.toNat) :: st) hs Q := e_ialdS ((cd274 485).trans rfl) hq
set_option maxRecDepth 20000 in
theorem x274_486 {sc : Scr} {d : Nat} {l0 l1 l2 l4 l5 l6 : Option V} {st : List V} {hs : HS} {Q : Rs → HS → Prop} {a : Nat} : Ex sc d 274 486 [l0, l1, l2, some (vR a), l4, l5, l6] st hs Q ↔ Ex sc d 274 487 [l0, l1, l2, some (vR a), l4, l5, l6] (vR a :: st) hs Q := e_aload ((cd274 486).trans rfl) rfl
set_option maxRecDepth 20000 in
theorem x274_487 {sc : Scr} {d : Nat} {l0 l1 l2 l3 l4 l5 l6 : Option V} {st : List V} {hs : HS} {Q : Rs → HS → Prop} {a0 : Nat} {a1 : Int} {a2 : Int} {a3 : Int} {a4 : Nat} (hd : 0 < d) (hc : catS st ≤ 8) : Ex sc d 274 487 [l0, l1, l2, l3, l4, l5, l6] (vR a4 :: vI a3 :: vI a2 :: vI a1 :: vR a0 :: st) hs Q ↔ Ex sc (d - 1) 80 0 [some (vR a0), some (vI a1), some (vI a2), some (vI a3), some (vR a4), none] [] hs (Kc sc d 274 487 490 [l0, l1, l2, l3, l4, l5, l6] st Q) := e_callS ((cd274 487).trans rfl) (by simp only [List.length_cons]; omega) (by decide) rfl rfl rfl hc rfl hd
set_option maxRecDepth 20000 in
theorem x274_490 {sc : Scr} {d : Nat} {l0 l1 l2 l3 l4 l5 l6 : Option V} {st : List V} {hs : HS} {Q : Rs → HS → Prop} {a : Int} (hn : notL l4 = true) : Ex sc d 274 490 [l0, l1, l2, l3, l4, l5, l6] (vI a :: st) hs Q ↔ Ex sc d 274 492 [l0, l1, l2, l3, l4, some (vI a), l6] st hs Q := e_istore ((cd274 490).trans rfl) (by show 5 < 7; decide) (noL_of (j := 4) rfl hn) rfl
set_option maxRecDepth 20000 in
theorem x274_492 {sc : Scr} {d : Nat} {l0 l1 l3 l4 l5 l6 : Option V} {st : List V} {hs : HS} {Q : Rs → HS → Prop} {a : Nat} : Ex sc d 274 492 [l0, l1, some (vR a), l3, l4, l5, l6] st hs Q ↔ Ex sc d 274 493 [l0, l1, some (vR a), l3, l4, l5, l6] (vR a :: st) hs Q := e_aload ((cd274 492).trans rfl) rfl
set_option maxRecDepth 20000 in
theorem x274_493 {sc : Scr} {d : Nat} {l1 l2 l3 l4 l5 l6 : Option V} {st : List V} {hs : HS} {Q : Rs → HS → Prop} {a : Nat} : Ex sc d 274 493 [some (vS a), l1, l2, l3, l4, l5, l6] st hs Q ↔ Ex sc d 274 494 [some (vS a), l1, l2, l3, l4, l5, l6] (vS a :: st) hs Q := e_aloadS ((cd274 493).trans rfl) rfl
set_option maxRecDepth 20000 in
theorem x274_494 {sc : Scr} {d : Nat} {l0 l1 l2 l3 l5 l6 : Option V} {st : List V} {hs : HS} {Q : Rs → HS → Prop} {a : Int} : Ex sc d 274 494 [l0, l1, l2, l3, some (vI a), l5, l6] st hs Q ↔ Ex sc d 274 496 [l0, l1, l2, l3, some (vI a), l5, l6] (vI a :: st) hs Q := e_iload ((cd274 494).trans rfl) rfl
set_option maxRecDepth 20000 in
theorem x274_496 {sc : Scr} {d : Nat} {l0 l1 l2 l3 l4 l5 l6 : Option V} {st : List V} {hs : HS} {Q : Rs → HS → Prop} : Ex sc d 274 496 [l0, l1, l2, l3, l4, l5, l6] st hs Q ↔ Ex sc d 274 497 [l0, l1, l2, l3, l4, l5, l6] (vI (1) :: st) hs Q := e_iconst ((cd274 496).trans rfl)
set_option maxRecDepth 20000 in
theorem x274_497 {sc : Scr} {d : Nat} {l0 l1 l2 l3 l4 l5 l6 : Option V} {st : List V} {hs : HS} {Q : Rs → HS → Prop} {a b : Int} : Ex sc d 274 497 [l0, l1, l2, l3, l4, l5, l6] (vI b :: vI a :: st) hs Q ↔ Ex sc d 274 498 [l0, l1, l2, l3, l4, l5, l6] (vI (a + b) :: st) hs Q := e_iadd ((cd274 497).trans rfl)
set_option maxRecDepth 20000 in
theorem x274_498 {sc : Scr} {d : Nat} {l0 l1 l2 l3 l4 l5 l6 : Option V} {st : List V} {hs : HS} {Q : Rs → HS → Prop} {i : Int} (hq : 0 ≤ i ∧ i < (sc.1 : Int) ∧ sc.1 < 2147483648) : Ex sc d 274 498 [l0, l1, l2, l3, l4, l5, l6] (vI i :: vS 9 :: st) hs Q ↔ Ex sc d 274 499 [l0, l1, l2, l3, l4, l5, l6] (vI (sc.2 i.toNat) :: st) hs Q := e_ialdS ((cd274 498).trans rfl) hq
set_option maxRecDepth 20000 in
theorem x274_499 {sc : Scr} {d : Nat} {l1 l2 l3 l4 l5 l6 : Option V} {st : List V} {hs : HS} {Q : Rs → HS → Prop} {a : Nat} : Ex sc d 274 499 [some (vS a), l1, l2, l3, l4, l5, l6] st hs Q ↔ Ex sc d 274 500 [some (vS a), l1, l2, l3, l4, l5, l6] (vS a :: st) hs Q := e_aloadS ((cd274 499).trans rfl) rfl
set_option maxRecDepth 20000 in
theorem x274_500 {sc : Scr} {d : Nat} {l0 l1 l2 l3 l5 l6 : Option V} {st : List V} {hs : HS} {Q : Rs → HS → Prop} {a : Int} : Ex sc d 274 500 [l0, l1, l2, l3, some (vI a), l5, l6] st hs Q ↔ Ex sc d 274 502 [l0, l1, l2, l3, some (vI a), l5, l6] (vI a :: st) hs Q := e_iload ((cd274 500).trans rfl) rfl
set_option maxRecDepth 20000 in
theorem x274_502 {sc : Scr} {d : Nat} {l0 l1 l2 l3 l4 l5 l6 : Option V} {st : List V} {hs : HS} {Q : Rs → HS → Prop} : Ex sc d 274 502 [l0, l1, l2, l3, l4, l5, l6] st hs Q ↔ Ex sc d 274 503 [l0, l1, l2, l3, l4, l5, l6] (vI (2) :: st) hs Q := e_iconst ((cd274 502).trans rfl)
set_option maxRecDepth 20000 in
theorem x274_503 {sc : Scr} {d : Nat} {l0 l1 l2 l3 l4 l5 l6 : Option V} {st : List V} {hs : HS} {Q : Rs → HS → Prop} {a b : Int} : Ex sc d 274 503 [l0, l1, l2, l3, l4, l5, l6] (vI b :: vI a :: st) hs Q ↔ Ex sc d 274 504 [l0, l1, l2, l3, l4, l5, l6] (vI (a + b) :: st) hs Q := e_iadd ((cd274 503).trans rfl)
set_option maxRecDepth 20000 in
theorem x274_504 {sc : Scr} {d : Nat} {l0 l1 l2 l3 l4 l5 l6 : Option V} {st : List V} {hs : HS} {Q : Rs → HS → Prop} {i : Int} (hq : 0 ≤ i ∧ i < (sc.1 : Int) ∧ sc.1 < 2147483648) : Ex sc d 274 504 [l0, l1, l2, l3, l4, l5, l6] (vI i :: vS 9 :: st) hs Q ↔ Ex sc d 274 505 [l0, l1, l2, l3, l4, l5, l6] (vI (sc.2 i.toNat) :: st) hs Q := e_ialdS ((cd274 504).trans rfl) hq
set_option maxRecDepth 20000 in
theorem x274_505 {sc : Scr} {d : Nat} {l1 l2 l3 l4 l5 l6 : Option V} {st : List V} {hs : HS} {Q : Rs → HS → Prop} {a : Nat} : Ex sc d 274 505 [some (vS a), l1, l2, l3, l4, l5, l6] st hs Q ↔ Ex sc d 274 506 [some (vS a), l1, l2, l3, l4, l5, l6] (vS a :: st) hs Q := e_aloadS ((cd274 505).trans rfl) rfl
set_option maxRecDepth 20000 in
theorem x274_506 {sc : Scr} {d : Nat} {l0 l1 l2 l3 l5 l6 : Option V} {st : List V} {hs : HS} {Q : Rs → HS → Prop} {a : Int} : Ex sc d 274 506 [l0, l1, l2, l3, some (vI a), l5, l6] st hs Q ↔ Ex sc d 274 508 [l0, l1, l2, l3, some (vI a), l5, l6] (vI a :: st) hs Q := e_iload ((cd274 506).trans rfl) rfl
set_option maxRecDepth 20000 in
theorem x274_508 {sc : Scr} {d : Nat} {l0 l1 l2 l3 l4 l5 l6 : Option V} {st : List V} {hs : HS} {Q : Rs → HS → Prop} : Ex sc d 274 508 [l0, l1, l2, l3, l4, l5, l6] st hs Q ↔ Ex sc d 274 509 [l0, l1, l2, l3, l4, l5, l6] (vI (3) :: st) hs Q := e_iconst ((cd274 508).trans rfl)
set_option maxRecDepth 20000 in
theorem x274_509 {sc : Scr} {d : Nat} {l0 l1 l2 l3 l4 l5 l6 : Option V} {st : List V} {hs : HS} {Q : Rs → HS → Prop} {a b : Int} : Ex sc d 274 509 [l0, l1, l2, l3, l4, l5, l6] (vI b :: vI a :: st) hs Q ↔ Ex sc d 274 510 [l0, l1, l2, l3, l4, l5, l6] (vI (a + b) :: st) hs Q := e_iadd ((cd274 509).trans rfl)
set_option maxRecDepth 20000 in
theorem x274_510 {sc : Scr} {d : Nat} {l0 l1 l2 l3 l4 l5 l6 : Option V} {st : List V} {hs : HS} {Q : Rs → HS → Prop} {i : Int} (hq : 0 ≤ i ∧ i < (sc.1 : Int) ∧ sc.1 < 2147483648) : Ex sc d 274 510 [l0, l1, l2, l3, l4, l5, l6] (vI i :: vS 9 :: st) hs Q ↔ Ex sc d 274 511 [l0, l1, l2, l3, l4, l5, l6] (vI (sc.2 i.toNat) :: st) hs Q := e_ialdS ((cd274 510).trans rfl) hq
set_option maxRecDepth 20000 in
theorem x274_511 {sc : Scr} {d : Nat} {l0 l1 l2 l3 l4 l5 l6 : Option V} {st : List V} {hs : HS} {Q : Rs → HS → Prop} {a0 : Int} {a1 : Int} {a2 : Int} {q : Nat} (hd : 0 < d) (hc : catS st ≤ 8) (ho : isObj hs 12 (vR q) = true) : Ex sc d 274 511 [l0, l1, l2, l3, l4, l5, l6] (vI a2 :: vI a1 :: vI a0 :: vR q :: st) hs Q ↔ Ex sc (d - 1) 221 0 [some (vR q), some (vI a0), some (vI a1), some (vI a2), none, none] [] hs (Kc sc d 274 511 514 [l0, l1, l2, l3, l4, l5, l6] st Q) := e_callV ((cd274 511).trans rfl) ho (by simp only [List.length_cons]; omega) (by decide) rfl rfl rfl hc rfl hd
set_option maxRecDepth 20000 in
theorem x274_514 {sc : Scr} {d : Nat} {l0 l1 l2 l3 l4 l5 l6 : Option V} {st : List V} {hs : HS} {Q : Rs → HS → Prop} {a : Int} (hn : notL l5 = true) : Ex sc d 274 514 [l0, l1, l2, l3, l4, l5, l6] (vI a :: st) hs Q ↔ Ex sc d 274 516 [l0, l1, l2, l3, l4, l5, some (vI a)] st hs Q := e_istore ((cd274 514).trans rfl) (by show 6 < 7; decide) (noL_of (j := 5) rfl hn) rfl
set_option maxRecDepth 20000 in
theorem x274_516 {sc : Scr} {d : Nat} {l0 l1 l3 l4 l5 l6 : Option V} {st : List V} {hs : HS} {Q : Rs → HS → Prop} {a : Nat} : Ex sc d 274 516 [l0, l1, some (vR a), l3, l4, l5, l6] st hs Q ↔ Ex sc d 274 517 [l0, l1, some (vR a), l3, l4, l5, l6] (vR a :: st) hs Q := e_aload ((cd274 516).trans rfl) rfl
set_option maxRecDepth 20000 in
theorem x274_517 {sc : Scr} {d : Nat} {l0 l1 l2 l3 l4 l5 l6 : Option V} {st : List V} {hs : HS} {Q : Rs → HS → Prop} {q : Nat} (hd : 0 < d) (hc : catS st ≤ 8) (ho : isObj hs 12 (vR q) = true) : Ex sc d 274 517 [l0, l1, l2, l3, l4, l5, l6] (vR q :: st) hs Q ↔ Ex sc (d - 1) 177 0 [some (vR q)] [] hs (Kc sc d 274 517 520 [l0, l1, l2, l3, l4, l5, l6] st Q) := e_callV ((cd274 517).trans rfl) ho (by simp only [List.length_cons]; omega) (by decide) rfl rfl rfl hc rfl hd
set_option maxRecDepth 20000 in
theorem x274_520 {sc : Scr} {d : Nat} {l0 l1 l2 l3 l4 l6 : Option V} {st : List V} {hs : HS} {Q : Rs → HS → Prop} {a : Int} : Ex sc d 274 520 [l0, l1, l2, l3, l4, some (vI a), l6] st hs Q ↔ Ex sc d 274 522 [l0, l1, l2, l3, l4, some (vI a), l6] (vI a :: st) hs Q := e_iload ((cd274 520).trans rfl) rfl
set_option maxRecDepth 20000 in
theorem x274_522 {sc : Scr} {d : Nat} {l0 l1 l2 l3 l4 l5 l6 : Option V} {st : List V} {hs : HS} {Q : Rs → HS → Prop} {a b : Int} (ha : inR a) (hb : inR b) : Ex sc d 274 522 [l0, l1, l2, l3, l4, l5, l6] (vI b :: vI a :: st) hs Q ↔ if a = b then Ex sc d 274 527 [l0, l1, l2, l3, l4, l5, l6] st hs Q else Ex sc d 274 525 [l0, l1, l2, l3, l4, l5, l6] st hs Q := (e_icmp ((cd274 522).trans rfl) ha hb).trans (by simp only [cmpI, decide_eq_true_eq])
set_option maxRecDepth 20000 in
theorem x274_525 {sc : Scr} {d : Nat} {l0 l1 l2 l3 l4 l5 l6 : Option V} {st : List V} {hs : HS} {Q : Rs → HS → Prop} : Ex sc d 274 525 [l0, l1, l2, l3, l4, l5, l6] st hs Q ↔ Ex sc d 274 526 [l0, l1, l2, l3, l4, l5, l6] (vI (0) :: st) hs Q := e_iconst ((cd274 525).trans rfl)
set_option maxRecDepth 20000 in
theorem x274_526 {sc : Scr} {d : Nat} {l0 l1 l2 l3 l4 l5 l6 : Option V} {hs : HS} {Q : Rs → HS → Prop} {a : Int} (ha : a = 0 ∨ a = 1) : Ex sc d 274 526 [l0, l1, l2, l3, l4, l5, l6] [vI a] hs Q ↔ Q (.inl (some (vI a))) hs := e_zret ((cd274 526).trans rfl) rfl ha
set_option maxRecDepth 20000 in
theorem x274_527 {sc : Scr} {d : Nat} {l0 l1 l2 l3 l4 l6 : Option V} {st : List V} {hs : HS} {Q : Rs → HS → Prop} {a : Int} : Ex sc d 274 527 [l0, l1, l2, l3, l4, some (vI a), l6] st hs Q ↔ Ex sc d 274 529 [l0, l1, l2, l3, l4, some (vI a), l6] (vI a :: st) hs Q := e_iload ((cd274 527).trans rfl) rfl
set_option maxRecDepth 20000 in
theorem x274_529 {sc : Scr} {d : Nat} {l0 l1 l2 l3 l4 l5 l6 : Option V} {st : List V} {hs : HS} {Q : Rs → HS → Prop} {a : Int} (ha : inR a) : Ex sc d 274 529 [l0, l1, l2, l3, l4, l5, l6] (vI a :: st) hs Q ↔ if ¬ a = 0 then Ex sc d 274 544 [l0, l1, l2, l3, l4, l5, l6] st hs Q else Ex sc d 274 532 [l0, l1, l2, l3, l4, l5, l6] st hs Q := (e_if ((cd274 529).trans rfl) ha).trans (by simp only [cmpI, decide_eq_true_eq])
set_option maxRecDepth 20000 in
theorem x274_532 {sc : Scr} {d : Nat} {l0 l1 l2 l4 l5 l6 : Option V} {st : List V} {hs : HS} {Q : Rs → HS → Prop} {a : Nat} : Ex sc d 274 532 [l0, l1, l2, some (vR a), l4, l5, l6] st hs Q ↔ Ex sc d 274 533 [l0, l1, l2, some (vR a), l4, l5, l6] (vR a :: st) hs Q := e_aload ((cd274 532).trans rfl) rfl
set_option maxRecDepth 20000 in
theorem x274_533 {sc : Scr} {d : Nat} {l0 l1 l2 l3 l4 l5 l6 : Option V} {st : List V} {hs : HS} {Q : Rs → HS → Prop} : Ex sc d 274 533 [l0, l1, l2, l3, l4, l5, l6] st hs Q ↔ Ex sc d 274 534 [l0, l1, l2, l3, l4, l5, l6] (vI (0) :: st) hs Q := e_iconst ((cd274 533).trans rfl)
set_option maxRecDepth 20000 in
theorem x274_534 {sc : Scr} {d : Nat} {l0 l1 l2 l3 l4 l5 l6 : Option V} {st : List V} {hs : HS} {Q : Rs → HS → Prop} {a : Nat} {i : Int} : Ex sc d 274 534 [l0, l1, l2, l3, l4, l5, l6] (vI i :: vR a :: st) hs Q ↔ Ra hs 2 a i (fun z => Ex sc d 274 535 [l0, l1, l2, l3, l4, l5, l6] (vL z :: st) hs Q) := e_lald ((cd274 534).trans rfl)
set_option maxRecDepth 20000 in
theorem x274_535 {sc : Scr} {d : Nat} {l0 l1 l2 l3 l4 l5 : Option V} {st : List V} {hs : HS} {Q : Rs → HS → Prop} {a : Int} : Ex sc d 274 535 [l0, l1, l2, l3, l4, l5, some (vI a)] st hs Q ↔ Ex sc d 274 537 [l0, l1, l2, l3, l4, l5, some (vI a)] (vI a :: st) hs Q := e_iload ((cd274 535).trans rfl) rfl
set_option maxRecDepth 20000 in
theorem x274_537 {sc : Scr} {d : Nat} {l0 l1 l2 l3 l4 l5 l6 : Option V} {st : List V} {hs : HS} {Q : Rs → HS → Prop} {a : Int} (ha : inR a) : Ex sc d 274 537 [l0, l1, l2, l3, l4, l5, l6] (vI a :: st) hs Q ↔ Ex sc d 274 538 [l0, l1, l2, l3, l4, l5, l6] (vL a :: st) hs Q := e_i2l ((cd274 537).trans rfl) ha
set_option maxRecDepth 20000 in
theorem x274_538 {sc : Scr} {d : Nat} {l0 l1 l2 l3 l4 l5 l6 : Option V} {st : List V} {hs : HS} {Q : Rs → HS → Prop} {a b : Int} (ha : inL a) (hb : inL b) : Ex sc d 274 538 [l0, l1, l2, l3, l4, l5, l6] (vL b :: vL a :: st) hs Q ↔ Ex sc d 274 539 [l0, l1, l2, l3, l4, l5, l6] (vI (if a < b then -1 else if a = b then 0 else 1) :: st) hs Q := e_lcmp ((cd274 538).trans rfl) ha hb
set_option maxRecDepth 20000 in
theorem x274_539 {sc : Scr} {d : Nat} {l0 l1 l2 l3 l4 l5 l6 : Option V} {st : List V} {hs : HS} {Q : Rs → HS → Prop} {a : Int} (ha : inR a) : Ex sc d 274 539 [l0, l1, l2, l3, l4, l5, l6] (vI a :: st) hs Q ↔ if a = 0 then Ex sc d 274 544 [l0, l1, l2, l3, l4, l5, l6] st hs Q else Ex sc d 274 542 [l0, l1, l2, l3, l4, l5, l6] st hs Q := (e_if ((cd274 539).trans rfl) ha).trans (by simp only [cmpI, decide_eq_true_eq])
set_option maxRecDepth 20000 in
theorem x274_542 {sc : Scr} {d : Nat} {l0 l1 l2 l3 l4 l5 l6 : Option V} {st : List V} {hs : HS} {Q : Rs → HS → Prop} : Ex sc d 274 542 [l0, l1, l2, l3, l4, l5, l6] st hs Q ↔ Ex sc d 274 543 [l0, l1, l2, l3, l4, l5, l6] (vI (0) :: st) hs Q := e_iconst ((cd274 542).trans rfl)
set_option maxRecDepth 20000 in
theorem x274_543 {sc : Scr} {d : Nat} {l0 l1 l2 l3 l4 l5 l6 : Option V} {hs : HS} {Q : Rs → HS → Prop} {a : Int} (ha : a = 0 ∨ a = 1) : Ex sc d 274 543 [l0, l1, l2, l3, l4, l5, l6] [vI a] hs Q ↔ Q (.inl (some (vI a))) hs := e_zret ((cd274 543).trans rfl) rfl ha
set_option maxRecDepth 20000 in
theorem x274_544 {sc : Scr} {d : Nat} {l0 l1 l2 l3 l4 l5 l6 : Option V} {st : List V} {hs : HS} {Q : Rs → HS → Prop} : Ex sc d 274 544 [l0, l1, l2, l3, l4, l5, l6] st hs Q ↔ Ex sc d 274 1660 [l0, l1, l2, l3, l4, l5, l6] st hs Q := e_goto ((cd274 544).trans rfl)
set_option maxRecDepth 20000 in
theorem x274_547 {sc : Scr} {d : Nat} {l0 l2 l3 l4 l5 l6 : Option V} {st : List V} {hs : HS} {Q : Rs → HS → Prop} {a : Nat} : Ex sc d 274 547 [l0, some (vR a), l2, l3, l4, l5, l6] st hs Q ↔ Ex sc d 274 548 [l0, some (vR a), l2, l3, l4, l5, l6] (vR a :: st) hs Q := e_aload ((cd274 547).trans rfl) rfl
set_option maxRecDepth 20000 in
theorem x274_548 {sc : Scr} {d : Nat} {l1 l2 l3 l4 l5 l6 : Option V} {st : List V} {hs : HS} {Q : Rs → HS → Prop} {a : Nat} : Ex sc d 274 548 [some (vS a), l1, l2, l3, l4, l5, l6] st hs Q ↔ Ex sc d 274 549 [some (vS a), l1, l2, l3, l4, l5, l6] (vS a :: st) hs Q := e_aloadS ((cd274 548).trans rfl) rfl
set_option maxRecDepth 20000 in
theorem x274_549 {sc : Scr} {d : Nat} {l0 l1 l2 l3 l5 l6 : Option V} {st : List V} {hs : HS} {Q : Rs → HS → Prop} {a : Int} : Ex sc d 274 549 [l0, l1, l2, l3, some (vI a), l5, l6] st hs Q ↔ Ex sc d 274 551 [l0, l1, l2, l3, some (vI a), l5, l6] (vI a :: st) hs Q := e_iload ((cd274 549).trans rfl) rfl
set_option maxRecDepth 20000 in
theorem x274_551 {sc : Scr} {d : Nat} {l0 l1 l2 l3 l4 l5 l6 : Option V} {st : List V} {hs : HS} {Q : Rs → HS → Prop} : Ex sc d 274 551 [l0, l1, l2, l3, l4, l5, l6] st hs Q ↔ Ex sc d 274 552 [l0, l1, l2, l3, l4, l5, l6] (vI (1) :: st) hs Q := e_iconst ((cd274 551).trans rfl)
set_option maxRecDepth 20000 in
theorem x274_552 {sc : Scr} {d : Nat} {l0 l1 l2 l3 l4 l5 l6 : Option V} {st : List V} {hs : HS} {Q : Rs → HS → Prop} {a b : Int} : Ex sc d 274 552 [l0, l1, l2, l3, l4, l5, l6] (vI b :: vI a :: st) hs Q ↔ Ex sc d 274 553 [l0, l1, l2, l3, l4, l5, l6] (vI (a + b) :: st) hs Q := e_iadd ((cd274 552).trans rfl)
set_option maxRecDepth 20000 in
theorem x274_553 {sc : Scr} {d : Nat} {l0 l1 l2 l3 l4 l5 l6 : Option V} {st : List V} {hs : HS} {Q : Rs → HS → Prop} {i : Int} (hq : 0 ≤ i ∧ i < (sc.1 : Int) ∧ sc.1 < 2147483648) : Ex sc d 274 553 [l0, l1, l2, l3, l4, l5, l6] (vI i :: vS 9 :: st) hs Q ↔ Ex sc d 274 554 [l0, l1, l2, l3, l4, l5, l6] (vI (sc.2 i.toNat) :: st) hs Q := e_ialdS ((cd274 553).trans rfl) hq
set_option maxRecDepth 20000 in
theorem x274_554 {sc : Scr} {d : Nat} {l1 l2 l3 l4 l5 l6 : Option V} {st : List V} {hs : HS} {Q : Rs → HS → Prop} {a : Nat} : Ex sc d 274 554 [some (vS a), l1, l2, l3, l4, l5, l6] st hs Q ↔ Ex sc d 274 555 [some (vS a), l1, l2, l3, l4, l5, l6] (vS a :: st) hs Q := e_aloadS ((cd274 554).trans rfl) rfl
set_option maxRecDepth 20000 in
theorem x274_555 {sc : Scr} {d : Nat} {l0 l1 l2 l3 l5 l6 : Option V} {st : List V} {hs : HS} {Q : Rs → HS → Prop} {a : Int} : Ex sc d 274 555 [l0, l1, l2, l3, some (vI a), l5, l6] st hs Q ↔ Ex sc d 274 557 [l0, l1, l2, l3, some (vI a), l5, l6] (vI a :: st) hs Q := e_iload ((cd274 555).trans rfl) rfl
set_option maxRecDepth 20000 in
theorem x274_557 {sc : Scr} {d : Nat} {l0 l1 l2 l3 l4 l5 l6 : Option V} {st : List V} {hs : HS} {Q : Rs → HS → Prop} : Ex sc d 274 557 [l0, l1, l2, l3, l4, l5, l6] st hs Q ↔ Ex sc d 274 558 [l0, l1, l2, l3, l4, l5, l6] (vI (2) :: st) hs Q := e_iconst ((cd274 557).trans rfl)
set_option maxRecDepth 20000 in
theorem x274_558 {sc : Scr} {d : Nat} {l0 l1 l2 l3 l4 l5 l6 : Option V} {st : List V} {hs : HS} {Q : Rs → HS → Prop} {a b : Int} : Ex sc d 274 558 [l0, l1, l2, l3, l4, l5, l6] (vI b :: vI a :: st) hs Q ↔ Ex sc d 274 559 [l0, l1, l2, l3, l4, l5, l6] (vI (a + b) :: st) hs Q := e_iadd ((cd274 558).trans rfl)
set_option maxRecDepth 20000 in
theorem x274_559 {sc : Scr} {d : Nat} {l0 l1 l2 l3 l4 l5 l6 : Option V} {st : List V} {hs : HS} {Q : Rs → HS → Prop} {i : Int} (hq : 0 ≤ i ∧ i < (sc.1 : Int) ∧ sc.1 < 2147483648) : Ex sc d 274 559 [l0, l1, l2, l3, l4, l5, l6] (vI i :: vS 9 :: st) hs Q ↔ Ex sc d 274 560 [l0, l1, l2, l3, l4, l5, l6] (vI (sc.2 i.toNat) :: st) hs Q := e_ialdS ((cd274 559).trans rfl) hq
set_option maxRecDepth 20000 in
theorem x274_560 {sc : Scr} {d : Nat} {l1 l2 l3 l4 l5 l6 : Option V} {st : List V} {hs : HS} {Q : Rs → HS → Prop} {a : Nat} : Ex sc d 274 560 [some (vS a), l1, l2, l3, l4, l5, l6] st hs Q ↔ Ex sc d 274 561 [some (vS a), l1, l2, l3, l4, l5, l6] (vS a :: st) hs Q := e_aloadS ((cd274 560).trans rfl) rfl
set_option maxRecDepth 20000 in
theorem x274_561 {sc : Scr} {d : Nat} {l0 l1 l2 l3 l5 l6 : Option V} {st : List V} {hs : HS} {Q : Rs → HS → Prop} {a : Int} : Ex sc d 274 561 [l0, l1, l2, l3, some (vI a), l5, l6] st hs Q ↔ Ex sc d 274 563 [l0, l1, l2, l3, some (vI a), l5, l6] (vI a :: st) hs Q := e_iload ((cd274 561).trans rfl) rfl
set_option maxRecDepth 20000 in
theorem x274_563 {sc : Scr} {d : Nat} {l0 l1 l2 l3 l4 l5 l6 : Option V} {st : List V} {hs : HS} {Q : Rs → HS → Prop} : Ex sc d 274 563 [l0, l1, l2, l3, l4, l5, l6] st hs Q ↔ Ex sc d 274 564 [l0, l1, l2, l3, l4, l5, l6] (vI (3) :: st) hs Q := e_iconst ((cd274 563).trans rfl)
set_option maxRecDepth 20000 in
theorem x274_564 {sc : Scr} {d : Nat} {l0 l1 l2 l3 l4 l5 l6 : Option V} {st : List V} {hs : HS} {Q : Rs → HS → Prop} {a b : Int} : Ex sc d 274 564 [l0, l1, l2, l3, l4, l5, l6] (vI b :: vI a :: st) hs Q ↔ Ex sc d 274 565 [l0, l1, l2, l3, l4, l5, l6] (vI (a + b) :: st) hs Q := e_iadd ((cd274 564).trans rfl)
set_option maxRecDepth 20000 in
theorem x274_565 {sc : Scr} {d : Nat} {l0 l1 l2 l3 l4 l5 l6 : Option V} {st : List V} {hs : HS} {Q : Rs → HS → Prop} {i : Int} (hq : 0 ≤ i ∧ i < (sc.1 : Int) ∧ sc.1 < 2147483648) : Ex sc d 274 565 [l0, l1, l2, l3, l4, l5, l6] (vI i :: vS 9 :: st) hs Q ↔ Ex sc d 274 566 [l0, l1, l2, l3, l4, l5, l6] (vI (sc.2 i.toNat) :: st) hs Q := e_ialdS ((cd274 565).trans rfl) hq
set_option maxRecDepth 20000 in
theorem x274_566 {sc : Scr} {d : Nat} {l1 l2 l3 l4 l5 l6 : Option V} {st : List V} {hs : HS} {Q : Rs → HS → Prop} {a : Nat} : Ex sc d 274 566 [some (vS a), l1, l2, l3, l4, l5, l6] st hs Q ↔ Ex sc d 274 567 [some (vS a), l1, l2, l3, l4, l5, l6] (vS a :: st) hs Q := e_aloadS ((cd274 566).trans rfl) rfl
set_option maxRecDepth 20000 in
theorem x274_567 {sc : Scr} {d : Nat} {l0 l1 l2 l3 l5 l6 : Option V} {st : List V} {hs : HS} {Q : Rs → HS → Prop} {a : Int} : Ex sc d 274 567 [l0, l1, l2, l3, some (vI a), l5, l6] st hs Q ↔ Ex sc d 274 569 [l0, l1, l2, l3, some (vI a), l5, l6] (vI a :: st) hs Q := e_iload ((cd274 567).trans rfl) rfl
set_option maxRecDepth 20000 in
theorem x274_569 {sc : Scr} {d : Nat} {l0 l1 l2 l3 l4 l5 l6 : Option V} {st : List V} {hs : HS} {Q : Rs → HS → Prop} : Ex sc d 274 569 [l0, l1, l2, l3, l4, l5, l6] st hs Q ↔ Ex sc d 274 570 [l0, l1, l2, l3, l4, l5, l6] (vI (4) :: st) hs Q := e_iconst ((cd274 569).trans rfl)
set_option maxRecDepth 20000 in
theorem x274_570 {sc : Scr} {d : Nat} {l0 l1 l2 l3 l4 l5 l6 : Option V} {st : List V} {hs : HS} {Q : Rs → HS → Prop} {a b : Int} : Ex sc d 274 570 [l0, l1, l2, l3, l4, l5, l6] (vI b :: vI a :: st) hs Q ↔ Ex sc d 274 571 [l0, l1, l2, l3, l4, l5, l6] (vI (a + b) :: st) hs Q := e_iadd ((cd274 570).trans rfl)
set_option maxRecDepth 20000 in
theorem x274_571 {sc : Scr} {d : Nat} {l0 l1 l2 l3 l4 l5 l6 : Option V} {st : List V} {hs : HS} {Q : Rs → HS → Prop} {i : Int} (hq : 0 ≤ i ∧ i < (sc.1 : Int) ∧ sc.1 < 2147483648) : Ex sc d 274 571 [l0, l1, l2, l3, l4, l5, l6] (vI i :: vS 9 :: st) hs Q ↔ Ex sc d 274 572 [l0, l1, l2, l3, l4, l5, l6] (vI (sc.2 i.toNat) :: st) hs Q := e_ialdS ((cd274 571).trans rfl) hq
set_option maxRecDepth 20000 in
theorem x274_572 {sc : Scr} {d : Nat} {l1 l2 l3 l4 l5 l6 : Option V} {st : List V} {hs : HS} {Q : Rs → HS → Prop} {a : Nat} : Ex sc d 274 572 [some (vS a), l1, l2, l3, l4, l5, l6] st hs Q ↔ Ex sc d 274 573 [some (vS a), l1, l2, l3, l4, l5, l6] (vS a :: st) hs Q := e_aloadS ((cd274 572).trans rfl) rfl
set_option maxRecDepth 20000 in
theorem x274_573 {sc : Scr} {d : Nat} {l0 l1 l2 l3 l5 l6 : Option V} {st : List V} {hs : HS} {Q : Rs → HS → Prop} {a : Int} : Ex sc d 274 573 [l0, l1, l2, l3, some (vI a), l5, l6] st hs Q ↔ Ex sc d 274 575 [l0, l1, l2, l3, some (vI a), l5, l6] (vI a :: st) hs Q := e_iload ((cd274 573).trans rfl) rfl
set_option maxRecDepth 20000 in
theorem x274_575 {sc : Scr} {d : Nat} {l0 l1 l2 l3 l4 l5 l6 : Option V} {st : List V} {hs : HS} {Q : Rs → HS → Prop} : Ex sc d 274 575 [l0, l1, l2, l3, l4, l5, l6] st hs Q ↔ Ex sc d 274 576 [l0, l1, l2, l3, l4, l5, l6] (vI (5) :: st) hs Q := e_iconst ((cd274 575).trans rfl)
set_option maxRecDepth 20000 in
theorem x274_576 {sc : Scr} {d : Nat} {l0 l1 l2 l3 l4 l5 l6 : Option V} {st : List V} {hs : HS} {Q : Rs → HS → Prop} {a b : Int} : Ex sc d 274 576 [l0, l1, l2, l3, l4, l5, l6] (vI b :: vI a :: st) hs Q ↔ Ex sc d 274 577 [l0, l1, l2, l3, l4, l5, l6] (vI (a + b) :: st) hs Q := e_iadd ((cd274 576).trans rfl)
set_option maxRecDepth 20000 in
theorem x274_577 {sc : Scr} {d : Nat} {l0 l1 l2 l3 l4 l5 l6 : Option V} {st : List V} {hs : HS} {Q : Rs → HS → Prop} {i : Int} (hq : 0 ≤ i ∧ i < (sc.1 : Int) ∧ sc.1 < 2147483648) : Ex sc d 274 577 [l0, l1, l2, l3, l4, l5, l6] (vI i :: vS 9 :: st) hs Q ↔ Ex sc d 274 578 [l0, l1, l2, l3, l4, l5, l6] (vI (sc.2 i.toNat) :: st) hs Q := e_ialdS ((cd274 577).trans rfl) hq
set_option maxRecDepth 20000 in
theorem x274_578 {sc : Scr} {d : Nat} {l0 l1 l2 l4 l5 l6 : Option V} {st : List V} {hs : HS} {Q : Rs → HS → Prop} {a : Nat} : Ex sc d 274 578 [l0, l1, l2, some (vR a), l4, l5, l6] st hs Q ↔ Ex sc d 274 579 [l0, l1, l2, some (vR a), l4, l5, l6] (vR a :: st) hs Q := e_aload ((cd274 578).trans rfl) rfl
set_option maxRecDepth 20000 in
theorem x274_579 {sc : Scr} {d : Nat} {l0 l1 l2 l3 l4 l5 l6 : Option V} {st : List V} {hs : HS} {Q : Rs → HS → Prop} {a0 : Nat} {a1 : Int} {a2 : Int} {a3 : Int} {a4 : Int} {a5 : Int} {a6 : Nat} (hd : 0 < d) (hc : catS st ≤ 8) : Ex sc d 274 579 [l0, l1, l2, l3, l4, l5, l6] (vR a6 :: vI a5 :: vI a4 :: vI a3 :: vI a2 :: vI a1 :: vR a0 :: st) hs Q ↔ Ex sc (d - 1) 83 0 [some (vR a0), some (vI a1), some (vI a2), some (vI a3), some (vI a4), some (vI a5), some (vR a6), none] [] hs (Kc sc d 274 579 582 [l0, l1, l2, l3, l4, l5, l6] st Q) := e_callS ((cd274 579).trans rfl) (by simp only [List.length_cons]; omega) (by decide) rfl rfl rfl hc rfl hd
set_option maxRecDepth 20000 in
theorem x274_582 {sc : Scr} {d : Nat} {l0 l1 l2 l3 l4 l5 l6 : Option V} {st : List V} {hs : HS} {Q : Rs → HS → Prop} {a : Int} (hn : notL l4 = true) : Ex sc d 274 582 [l0, l1, l2, l3, l4, l5, l6] (vI a :: st) hs Q ↔ Ex sc d 274 584 [l0, l1, l2, l3, l4, some (vI a), l6] st hs Q := e_istore ((cd274 582).trans rfl) (by show 5 < 7; decide) (noL_of (j := 4) rfl hn) rfl
set_option maxRecDepth 20000 in
theorem x274_584 {sc : Scr} {d : Nat} {l0 l1 l3 l4 l5 l6 : Option V} {st : List V} {hs : HS} {Q : Rs → HS → Prop} {a : Nat} : Ex sc d 274 584 [l0, l1, some (vR a), l3, l4, l5, l6] st hs Q ↔ Ex sc d 274 585 [l0, l1, some (vR a), l3, l4, l5, l6] (vR a :: st) hs Q := e_aload ((cd274 584).trans rfl) rfl
set_option maxRecDepth 20000 in
theorem x274_585 {sc : Scr} {d : Nat} {l1 l2 l3 l4 l5 l6 : Option V} {st : List V} {hs : HS} {Q : Rs → HS → Prop} {a : Nat} : Ex sc d 274 585 [some (vS a), l1, l2, l3, l4, l5, l6] st hs Q ↔ Ex sc d 274 586 [some (vS a), l1, l2, l3, l4, l5, l6] (vS a :: st) hs Q := e_aloadS ((cd274 585).trans rfl) rfl
set_option maxRecDepth 20000 in
theorem x274_586 {sc : Scr} {d : Nat} {l0 l1 l2 l3 l5 l6 : Option V} {st : List V} {hs : HS} {Q : Rs → HS → Prop} {a : Int} : Ex sc d 274 586 [l0, l1, l2, l3, some (vI a), l5, l6] st hs Q ↔ Ex sc d 274 588 [l0, l1, l2, l3, some (vI a), l5, l6] (vI a :: st) hs Q := e_iload ((cd274 586).trans rfl) rfl
set_option maxRecDepth 20000 in
theorem x274_588 {sc : Scr} {d : Nat} {l0 l1 l2 l3 l4 l5 l6 : Option V} {st : List V} {hs : HS} {Q : Rs → HS → Prop} : Ex sc d 274 588 [l0, l1, l2, l3, l4, l5, l6] st hs Q ↔ Ex sc d 274 589 [l0, l1, l2, l3, l4, l5, l6] (vI (1) :: st) hs Q := e_iconst ((cd274 588).trans rfl)
set_option maxRecDepth 20000 in
theorem x274_589 {sc : Scr} {d : Nat} {l0 l1 l2 l3 l4 l5 l6 : Option V} {st : List V} {hs : HS} {Q : Rs → HS → Prop} {a b : Int} : Ex sc d 274 589 [l0, l1, l2, l3, l4, l5, l6] (vI b :: vI a :: st) hs Q ↔ Ex sc d 274 590 [l0, l1, l2, l3, l4, l5, l6] (vI (a + b) :: st) hs Q := e_iadd ((cd274 589).trans rfl)
set_option maxRecDepth 20000 in
theorem x274_590 {sc : Scr} {d : Nat} {l0 l1 l2 l3 l4 l5 l6 : Option V} {st : List V} {hs : HS} {Q : Rs → HS → Prop} {i : Int} (hq : 0 ≤ i ∧ i < (sc.1 : Int) ∧ sc.1 < 2147483648) : Ex sc d 274 590 [l0, l1, l2, l3, l4, l5, l6] (vI i :: vS 9 :: st) hs Q ↔ Ex sc d 274 591 [l0, l1, l2, l3, l4, l5, l6] (vI (sc.2 i.toNat) :: st) hs Q := e_ialdS ((cd274 590).trans rfl) hq
set_option maxRecDepth 20000 in
theorem x274_591 {sc : Scr} {d : Nat} {l1 l2 l3 l4 l5 l6 : Option V} {st : List V} {hs : HS} {Q : Rs → HS → Prop} {a : Nat} : Ex sc d 274 591 [some (vS a), l1, l2, l3, l4, l5, l6] st hs Q ↔ Ex sc d 274 592 [some (vS a), l1, l2, l3, l4, l5, l6] (vS a :: st) hs Q := e_aloadS ((cd274 591).trans rfl) rfl
set_option maxRecDepth 20000 in
theorem x274_592 {sc : Scr} {d : Nat} {l0 l1 l2 l3 l5 l6 : Option V} {st : List V} {hs : HS} {Q : Rs → HS → Prop} {a : Int} : Ex sc d 274 592 [l0, l1, l2, l3, some (vI a), l5, l6] st hs Q ↔ Ex sc d 274 594 [l0, l1, l2, l3, some (vI a), l5, l6] (vI a :: st) hs Q := e_iload ((cd274 592).trans rfl) rfl
set_option maxRecDepth 20000 in
theorem x274_594 {sc : Scr} {d : Nat} {l0 l1 l2 l3 l4 l5 l6 : Option V} {st : List V} {hs : HS} {Q : Rs → HS → Prop} : Ex sc d 274 594 [l0, l1, l2, l3, l4, l5, l6] st hs Q ↔ Ex sc d 274 595 [l0, l1, l2, l3, l4, l5, l6] (vI (2) :: st) hs Q := e_iconst ((cd274 594).trans rfl)
set_option maxRecDepth 20000 in
theorem x274_595 {sc : Scr} {d : Nat} {l0 l1 l2 l3 l4 l5 l6 : Option V} {st : List V} {hs : HS} {Q : Rs → HS → Prop} {a b : Int} : Ex sc d 274 595 [l0, l1, l2, l3, l4, l5, l6] (vI b :: vI a :: st) hs Q ↔ Ex sc d 274 596 [l0, l1, l2, l3, l4, l5, l6] (vI (a + b) :: st) hs Q := e_iadd ((cd274 595).trans rfl)
set_option maxRecDepth 20000 in
theorem x274_596 {sc : Scr} {d : Nat} {l0 l1 l2 l3 l4 l5 l6 : Option V} {st : List V} {hs : HS} {Q : Rs → HS → Prop} {i : Int} (hq : 0 ≤ i ∧ i < (sc.1 : Int) ∧ sc.1 < 2147483648) : Ex sc d 274 596 [l0, l1, l2, l3, l4, l5, l6] (vI i :: vS 9 :: st) hs Q ↔ Ex sc d 274 597 [l0, l1, l2, l3, l4, l5, l6] (vI (sc.2 i.toNat) :: st) hs Q := e_ialdS ((cd274 596).trans rfl) hq
set_option maxRecDepth 20000 in
theorem x274_597 {sc : Scr} {d : Nat} {l1 l2 l3 l4 l5 l6 : Option V} {st : List V} {hs : HS} {Q : Rs → HS → Prop} {a : Nat} : Ex sc d 274 597 [some (vS a), l1, l2, l3, l4, l5, l6] st hs Q ↔ Ex sc d 274 598 [some (vS a), l1, l2, l3, l4, l5, l6] (vS a :: st) hs Q := e_aloadS ((cd274 597).trans rfl) rfl
set_option maxRecDepth 20000 in
theorem x274_598 {sc : Scr} {d : Nat} {l0 l1 l2 l3 l5 l6 : Option V} {st : List V} {hs : HS} {Q : Rs → HS → Prop} {a : Int} : Ex sc d 274 598 [l0, l1, l2, l3, some (vI a), l5, l6] st hs Q ↔ Ex sc d 274 600 [l0, l1, l2, l3, some (vI a), l5, l6] (vI a :: st) hs Q := e_iload ((cd274 598).trans rfl) rfl
set_option maxRecDepth 20000 in
theorem x274_600 {sc : Scr} {d : Nat} {l0 l1 l2 l3 l4 l5 l6 : Option V} {st : List V} {hs : HS} {Q : Rs → HS → Prop} : Ex sc d 274 600 [l0, l1, l2, l3, l4, l5, l6] st hs Q ↔ Ex sc d 274 601 [l0, l1, l2, l3, l4, l5, l6] (vI (3) :: st) hs Q := e_iconst ((cd274 600).trans rfl)
set_option maxRecDepth 20000 in
theorem x274_601 {sc : Scr} {d : Nat} {l0 l1 l2 l3 l4 l5 l6 : Option V} {st : List V} {hs : HS} {Q : Rs → HS → Prop} {a b : Int} : Ex sc d 274 601 [l0, l1, l2, l3, l4, l5, l6] (vI b :: vI a :: st) hs Q ↔ Ex sc d 274 602 [l0, l1, l2, l3, l4, l5, l6] (vI (a + b) :: st) hs Q := e_iadd ((cd274 601).trans rfl)
set_option maxRecDepth 20000 in
theorem x274_602 {sc : Scr} {d : Nat} {l0 l1 l2 l3 l4 l5 l6 : Option V} {st : List V} {hs : HS} {Q : Rs → HS → Prop} {i : Int} (hq : 0 ≤ i ∧ i < (sc.1 : Int) ∧ sc.1 < 2147483648) : Ex sc d 274 602 [l0, l1, l2, l3, l4, l5, l6] (vI i :: vS 9 :: st) hs Q ↔ Ex sc d 274 603 [l0, l1, l2, l3, l4, l5, l6] (vI (sc.2 i.toNat) :: st) hs Q := e_ialdS ((cd274 602).trans rfl) hq
set_option maxRecDepth 20000 in
theorem x274_603 {sc : Scr} {d : Nat} {l1 l2 l3 l4 l5 l6 : Option V} {st : List V} {hs : HS} {Q : Rs → HS → Prop} {a : Nat} : Ex sc d 274 603 [some (vS a), l1, l2, l3, l4, l5, l6] st hs Q ↔ Ex sc d 274 604 [some (vS a), l1, l2, l3, l4, l5, l6] (vS a :: st) hs Q := e_aloadS ((cd274 603).trans rfl) rfl
set_option maxRecDepth 20000 in
theorem x274_604 {sc : Scr} {d : Nat} {l0 l1 l2 l3 l5 l6 : Option V} {st : List V} {hs : HS} {Q : Rs → HS → Prop} {a : Int} : Ex sc d 274 604 [l0, l1, l2, l3, some (vI a), l5, l6] st hs Q ↔ Ex sc d 274 606 [l0, l1, l2, l3, some (vI a), l5, l6] (vI a :: st) hs Q := e_iload ((cd274 604).trans rfl) rfl
set_option maxRecDepth 20000 in
theorem x274_606 {sc : Scr} {d : Nat} {l0 l1 l2 l3 l4 l5 l6 : Option V} {st : List V} {hs : HS} {Q : Rs → HS → Prop} : Ex sc d 274 606 [l0, l1, l2, l3, l4, l5, l6] st hs Q ↔ Ex sc d 274 607 [l0, l1, l2, l3, l4, l5, l6] (vI (4) :: st) hs Q := e_iconst ((cd274 606).trans rfl)
set_option maxRecDepth 20000 in
theorem x274_607 {sc : Scr} {d : Nat} {l0 l1 l2 l3 l4 l5 l6 : Option V} {st : List V} {hs : HS} {Q : Rs → HS → Prop} {a b : Int} : Ex sc d 274 607 [l0, l1, l2, l3, l4, l5, l6] (vI b :: vI a :: st) hs Q ↔ Ex sc d 274 608 [l0, l1, l2, l3, l4, l5, l6] (vI (a + b) :: st) hs Q := e_iadd ((cd274 607).trans rfl)
set_option maxRecDepth 20000 in
theorem x274_608 {sc : Scr} {d : Nat} {l0 l1 l2 l3 l4 l5 l6 : Option V} {st : List V} {hs : HS} {Q : Rs → HS → Prop} {i : Int} (hq : 0 ≤ i ∧ i < (sc.1 : Int) ∧ sc.1 < 2147483648) : Ex sc d 274 608 [l0, l1, l2, l3, l4, l5, l6] (vI i :: vS 9 :: st) hs Q ↔ Ex sc d 274 609 [l0, l1, l2, l3, l4, l5, l6] (vI (sc.2 i.toNat) :: st) hs Q := e_ialdS ((cd274 608).trans rfl) hq
set_option maxRecDepth 20000 in
theorem x274_609 {sc : Scr} {d : Nat} {l1 l2 l3 l4 l5 l6 : Option V} {st : List V} {hs : HS} {Q : Rs → HS → Prop} {a : Nat} : Ex sc d 274 609 [some (vS a), l1, l2, l3, l4, l5, l6] st hs Q ↔ Ex sc d 274 610 [some (vS a), l1, l2, l3, l4, l5, l6] (vS a :: st) hs Q := e_aloadS ((cd274 609).trans rfl) rfl
set_option maxRecDepth 20000 in
theorem x274_610 {sc : Scr} {d : Nat} {l0 l1 l2 l3 l5 l6 : Option V} {st : List V} {hs : HS} {Q : Rs → HS → Prop} {a : Int} : Ex sc d 274 610 [l0, l1, l2, l3, some (vI a), l5, l6] st hs Q ↔ Ex sc d 274 612 [l0, l1, l2, l3, some (vI a), l5, l6] (vI a :: st) hs Q := e_iload ((cd274 610).trans rfl) rfl
set_option maxRecDepth 20000 in
theorem x274_612 {sc : Scr} {d : Nat} {l0 l1 l2 l3 l4 l5 l6 : Option V} {st : List V} {hs : HS} {Q : Rs → HS → Prop} : Ex sc d 274 612 [l0, l1, l2, l3, l4, l5, l6] st hs Q ↔ Ex sc d 274 613 [l0, l1, l2, l3, l4, l5, l6] (vI (5) :: st) hs Q := e_iconst ((cd274 612).trans rfl)
set_option maxRecDepth 20000 in
theorem x274_613 {sc : Scr} {d : Nat} {l0 l1 l2 l3 l4 l5 l6 : Option V} {st : List V} {hs : HS} {Q : Rs → HS → Prop} {a b : Int} : Ex sc d 274 613 [l0, l1, l2, l3, l4, l5, l6] (vI b :: vI a :: st) hs Q ↔ Ex sc d 274 614 [l0, l1, l2, l3, l4, l5, l6] (vI (a + b) :: st) hs Q := e_iadd ((cd274 613).trans rfl)
set_option maxRecDepth 20000 in
theorem x274_614 {sc : Scr} {d : Nat} {l0 l1 l2 l3 l4 l5 l6 : Option V} {st : List V} {hs : HS} {Q : Rs → HS → Prop} {i : Int} (hq : 0 ≤ i ∧ i < (sc.1 : Int) ∧ sc.1 < 2147483648) : Ex sc d 274 614 [l0, l1, l2, l3, l4, l5, l6] (vI i :: vS 9 :: st) hs Q ↔ Ex sc d 274 615 [l0, l1, l2, l3, l4, l5, l6] (vI (sc.2 i.toNat) :: st) hs Q := e_ialdS ((cd274 614).trans rfl) hq
set_option maxRecDepth 20000 in
theorem x274_615 {sc : Scr} {d : Nat} {l0 l1 l2 l3 l4 l5 l6 : Option V} {st : List V} {hs : HS} {Q : Rs → HS → Prop} {a0 : Int} {a1 : Int} {a2 : Int} {a3 : Int} {a4 : Int} {q : Nat} (hd : 0 < d) (hc : catS st ≤ 8) (ho : isObj hs 12 (vR q) = true) : Ex sc d 274 615 [l0, l1, l2, l3, l4, l5, l6] (vI a4 :: vI a3 :: vI a2 :: vI a1 :: vI a0 :: vR q :: st) hs Q ↔ Ex sc (d - 1) 222 0 [some (vR q), some (vI a0), some (vI a1), some (vI a2), some (vI a3), some (vI a4), none, none] [] hs (Kc sc d 274 615 618 [l0, l1, l2, l3, l4, l5, l6] st Q) := e_callV ((cd274 615).trans rfl) ho (by simp only [List.length_cons]; omega) (by decide) rfl rfl rfl hc rfl hd
set_option maxRecDepth 20000 in
theorem x274_618 {sc : Scr} {d : Nat} {l0 l1 l2 l3 l4 l5 l6 : Option V} {st : List V} {hs : HS} {Q : Rs → HS → Prop} {a : Int} (hn : notL l5 = true) : Ex sc d 274 618 [l0, l1, l2, l3, l4, l5, l6] (vI a :: st) hs Q ↔ Ex sc d 274 620 [l0, l1, l2, l3, l4, l5, some (vI a)] st hs Q := e_istore ((cd274 618).trans rfl) (by show 6 < 7; decide) (noL_of (j := 5) rfl hn) rfl
set_option maxRecDepth 20000 in
theorem x274_620 {sc : Scr} {d : Nat} {l0 l1 l3 l4 l5 l6 : Option V} {st : List V} {hs : HS} {Q : Rs → HS → Prop} {a : Nat} : Ex sc d 274 620 [l0, l1, some (vR a), l3, l4, l5, l6] st hs Q ↔ Ex sc d 274 621 [l0, l1, some (vR a), l3, l4, l5, l6] (vR a :: st) hs Q := e_aload ((cd274 620).trans rfl) rfl
set_option maxRecDepth 20000 in
theorem x274_621 {sc : Scr} {d : Nat} {l0 l1 l2 l3 l4 l5 l6 : Option V} {st : List V} {hs : HS} {Q : Rs → HS → Prop} {q : Nat} (hd : 0 < d) (hc : catS st ≤ 8) (ho : isObj hs 12 (vR q) = true) : Ex sc d 274 621 [l0, l1, l2, l3, l4, l5, l6] (vR q :: st) hs Q ↔ Ex sc (d - 1) 177 0 [some (vR q)] [] hs (Kc sc d 274 621 624 [l0, l1, l2, l3, l4, l5, l6] st Q) := e_callV ((cd274 621).trans rfl) ho (by simp only [List.length_cons]; omega) (by decide) rfl rfl rfl hc rfl hd
set_option maxRecDepth 20000 in
theorem x274_624 {sc : Scr} {d : Nat} {l0 l1 l2 l3 l4 l6 : Option V} {st : List V} {hs : HS} {Q : Rs → HS → Prop} {a : Int} : Ex sc d 274 624 [l0, l1, l2, l3, l4, some (vI a), l6] st hs Q ↔ Ex sc d 274 626 [l0, l1, l2, l3, l4, some (vI a), l6] (vI a :: st) hs Q := e_iload ((cd274 624).trans rfl) rfl
set_option maxRecDepth 20000 in
theorem x274_626 {sc : Scr} {d : Nat} {l0 l1 l2 l3 l4 l5 l6 : Option V} {st : List V} {hs : HS} {Q : Rs → HS → Prop} {a b : Int} (ha : inR a) (hb : inR b) : Ex sc d 274 626 [l0, l1, l2, l3, l4, l5, l6] (vI b :: vI a :: st) hs Q ↔ if a = b then Ex sc d 274 631 [l0, l1, l2, l3, l4, l5, l6] st hs Q else Ex sc d 274 629 [l0, l1, l2, l3, l4, l5, l6] st hs Q := (e_icmp ((cd274 626).trans rfl) ha hb).trans (by simp only [cmpI, decide_eq_true_eq])
set_option maxRecDepth 20000 in
theorem x274_629 {sc : Scr} {d : Nat} {l0 l1 l2 l3 l4 l5 l6 : Option V} {st : List V} {hs : HS} {Q : Rs → HS → Prop} : Ex sc d 274 629 [l0, l1, l2, l3, l4, l5, l6] st hs Q ↔ Ex sc d 274 630 [l0, l1, l2, l3, l4, l5, l6] (vI (0) :: st) hs Q := e_iconst ((cd274 629).trans rfl)
set_option maxRecDepth 20000 in
theorem x274_630 {sc : Scr} {d : Nat} {l0 l1 l2 l3 l4 l5 l6 : Option V} {hs : HS} {Q : Rs → HS → Prop} {a : Int} (ha : a = 0 ∨ a = 1) : Ex sc d 274 630 [l0, l1, l2, l3, l4, l5, l6] [vI a] hs Q ↔ Q (.inl (some (vI a))) hs := e_zret ((cd274 630).trans rfl) rfl ha
set_option maxRecDepth 20000 in
theorem x274_631 {sc : Scr} {d : Nat} {l0 l1 l2 l3 l4 l6 : Option V} {st : List V} {hs : HS} {Q : Rs → HS → Prop} {a : Int} : Ex sc d 274 631 [l0, l1, l2, l3, l4, some (vI a), l6] st hs Q ↔ Ex sc d 274 633 [l0, l1, l2, l3, l4, some (vI a), l6] (vI a :: st) hs Q := e_iload ((cd274 631).trans rfl) rfl
set_option maxRecDepth 20000 in
theorem x274_633 {sc : Scr} {d : Nat} {l0 l1 l2 l3 l4 l5 l6 : Option V} {st : List V} {hs : HS} {Q : Rs → HS → Prop} {a : Int} (ha : inR a) : Ex sc d 274 633 [l0, l1, l2, l3, l4, l5, l6] (vI a :: st) hs Q ↔ if ¬ a = 0 then Ex sc d 274 648 [l0, l1, l2, l3, l4, l5, l6] st hs Q else Ex sc d 274 636 [l0, l1, l2, l3, l4, l5, l6] st hs Q := (e_if ((cd274 633).trans rfl) ha).trans (by simp only [cmpI, decide_eq_true_eq])
set_option maxRecDepth 20000 in
theorem x274_636 {sc : Scr} {d : Nat} {l0 l1 l2 l4 l5 l6 : Option V} {st : List V} {hs : HS} {Q : Rs → HS → Prop} {a : Nat} : Ex sc d 274 636 [l0, l1, l2, some (vR a), l4, l5, l6] st hs Q ↔ Ex sc d 274 637 [l0, l1, l2, some (vR a), l4, l5, l6] (vR a :: st) hs Q := e_aload ((cd274 636).trans rfl) rfl
set_option maxRecDepth 20000 in
theorem x274_637 {sc : Scr} {d : Nat} {l0 l1 l2 l3 l4 l5 l6 : Option V} {st : List V} {hs : HS} {Q : Rs → HS → Prop} : Ex sc d 274 637 [l0, l1, l2, l3, l4, l5, l6] st hs Q ↔ Ex sc d 274 638 [l0, l1, l2, l3, l4, l5, l6] (vI (0) :: st) hs Q := e_iconst ((cd274 637).trans rfl)
set_option maxRecDepth 20000 in
theorem x274_638 {sc : Scr} {d : Nat} {l0 l1 l2 l3 l4 l5 l6 : Option V} {st : List V} {hs : HS} {Q : Rs → HS → Prop} {a : Nat} {i : Int} : Ex sc d 274 638 [l0, l1, l2, l3, l4, l5, l6] (vI i :: vR a :: st) hs Q ↔ Ra hs 2 a i (fun z => Ex sc d 274 639 [l0, l1, l2, l3, l4, l5, l6] (vL z :: st) hs Q) := e_lald ((cd274 638).trans rfl)
set_option maxRecDepth 20000 in
theorem x274_639 {sc : Scr} {d : Nat} {l0 l1 l2 l3 l4 l5 : Option V} {st : List V} {hs : HS} {Q : Rs → HS → Prop} {a : Int} : Ex sc d 274 639 [l0, l1, l2, l3, l4, l5, some (vI a)] st hs Q ↔ Ex sc d 274 641 [l0, l1, l2, l3, l4, l5, some (vI a)] (vI a :: st) hs Q := e_iload ((cd274 639).trans rfl) rfl
set_option maxRecDepth 20000 in
theorem x274_641 {sc : Scr} {d : Nat} {l0 l1 l2 l3 l4 l5 l6 : Option V} {st : List V} {hs : HS} {Q : Rs → HS → Prop} {a : Int} (ha : inR a) : Ex sc d 274 641 [l0, l1, l2, l3, l4, l5, l6] (vI a :: st) hs Q ↔ Ex sc d 274 642 [l0, l1, l2, l3, l4, l5, l6] (vL a :: st) hs Q := e_i2l ((cd274 641).trans rfl) ha
set_option maxRecDepth 20000 in
theorem x274_642 {sc : Scr} {d : Nat} {l0 l1 l2 l3 l4 l5 l6 : Option V} {st : List V} {hs : HS} {Q : Rs → HS → Prop} {a b : Int} (ha : inL a) (hb : inL b) : Ex sc d 274 642 [l0, l1, l2, l3, l4, l5, l6] (vL b :: vL a :: st) hs Q ↔ Ex sc d 274 643 [l0, l1, l2, l3, l4, l5, l6] (vI (if a < b then -1 else if a = b then 0 else 1) :: st) hs Q := e_lcmp ((cd274 642).trans rfl) ha hb
set_option maxRecDepth 20000 in
theorem x274_643 {sc : Scr} {d : Nat} {l0 l1 l2 l3 l4 l5 l6 : Option V} {st : List V} {hs : HS} {Q : Rs → HS → Prop} {a : Int} (ha : inR a) : Ex sc d 274 643 [l0, l1, l2, l3, l4, l5, l6] (vI a :: st) hs Q ↔ if a = 0 then Ex sc d 274 648 [l0, l1, l2, l3, l4, l5, l6] st hs Q else Ex sc d 274 646 [l0, l1, l2, l3, l4, l5, l6] st hs Q := (e_if ((cd274 643).trans rfl) ha).trans (by simp only [cmpI, decide_eq_true_eq])
set_option maxRecDepth 20000 in
theorem x274_646 {sc : Scr} {d : Nat} {l0 l1 l2 l3 l4 l5 l6 : Option V} {st : List V} {hs : HS} {Q : Rs → HS → Prop} : Ex sc d 274 646 [l0, l1, l2, l3, l4, l5, l6] st hs Q ↔ Ex sc d 274 647 [l0, l1, l2, l3, l4, l5, l6] (vI (0) :: st) hs Q := e_iconst ((cd274 646).trans rfl)
set_option maxRecDepth 20000 in
theorem x274_647 {sc : Scr} {d : Nat} {l0 l1 l2 l3 l4 l5 l6 : Option V} {hs : HS} {Q : Rs → HS → Prop} {a : Int} (ha : a = 0 ∨ a = 1) : Ex sc d 274 647 [l0, l1, l2, l3, l4, l5, l6] [vI a] hs Q ↔ Q (.inl (some (vI a))) hs := e_zret ((cd274 647).trans rfl) rfl ha
set_option maxRecDepth 20000 in
theorem x274_648 {sc : Scr} {d : Nat} {l0 l1 l2 l3 l4 l5 l6 : Option V} {st : List V} {hs : HS} {Q : Rs → HS → Prop} : Ex sc d 274 648 [l0, l1, l2, l3, l4, l5, l6] st hs Q ↔ Ex sc d 274 1660 [l0, l1, l2, l3, l4, l5, l6] st hs Q := e_goto ((cd274 648).trans rfl)
set_option maxRecDepth 20000 in
theorem x274_651 {sc : Scr} {d : Nat} {l0 l2 l3 l4 l5 l6 : Option V} {st : List V} {hs : HS} {Q : Rs → HS → Prop} {a : Nat} : Ex sc d 274 651 [l0, some (vR a), l2, l3, l4, l5, l6] st hs Q ↔ Ex sc d 274 652 [l0, some (vR a), l2, l3, l4, l5, l6] (vR a :: st) hs Q := e_aload ((cd274 651).trans rfl) rfl
set_option maxRecDepth 20000 in
theorem x274_652 {sc : Scr} {d : Nat} {l1 l2 l3 l4 l5 l6 : Option V} {st : List V} {hs : HS} {Q : Rs → HS → Prop} {a : Nat} : Ex sc d 274 652 [some (vS a), l1, l2, l3, l4, l5, l6] st hs Q ↔ Ex sc d 274 653 [some (vS a), l1, l2, l3, l4, l5, l6] (vS a :: st) hs Q := e_aloadS ((cd274 652).trans rfl) rfl
set_option maxRecDepth 20000 in
theorem x274_653 {sc : Scr} {d : Nat} {l0 l1 l2 l3 l5 l6 : Option V} {st : List V} {hs : HS} {Q : Rs → HS → Prop} {a : Int} : Ex sc d 274 653 [l0, l1, l2, l3, some (vI a), l5, l6] st hs Q ↔ Ex sc d 274 655 [l0, l1, l2, l3, some (vI a), l5, l6] (vI a :: st) hs Q := e_iload ((cd274 653).trans rfl) rfl
set_option maxRecDepth 20000 in
theorem x274_655 {sc : Scr} {d : Nat} {l0 l1 l2 l3 l4 l5 l6 : Option V} {st : List V} {hs : HS} {Q : Rs → HS → Prop} : Ex sc d 274 655 [l0, l1, l2, l3, l4, l5, l6] st hs Q ↔ Ex sc d 274 656 [l0, l1, l2, l3, l4, l5, l6] (vI (1) :: st) hs Q := e_iconst ((cd274 655).trans rfl)
set_option maxRecDepth 20000 in
theorem x274_656 {sc : Scr} {d : Nat} {l0 l1 l2 l3 l4 l5 l6 : Option V} {st : List V} {hs : HS} {Q : Rs → HS → Prop} {a b : Int} : Ex sc d 274 656 [l0, l1, l2, l3, l4, l5, l6] (vI b :: vI a :: st) hs Q ↔ Ex sc d 274 657 [l0, l1, l2, l3, l4, l5, l6] (vI (a + b) :: st) hs Q := e_iadd ((cd274 656).trans rfl)
set_option maxRecDepth 20000 in
theorem x274_657 {sc : Scr} {d : Nat} {l0 l1 l2 l3 l4 l5 l6 : Option V} {st : List V} {hs : HS} {Q : Rs → HS → Prop} {i : Int} (hq : 0 ≤ i ∧ i < (sc.1 : Int) ∧ sc.1 < 2147483648) : Ex sc d 274 657 [l0, l1, l2, l3, l4, l5, l6] (vI i :: vS 9 :: st) hs Q ↔ Ex sc d 274 658 [l0, l1, l2, l3, l4, l5, l6] (vI (sc.2 i.toNat) :: st) hs Q := e_ialdS ((cd274 657).trans rfl) hq
set_option maxRecDepth 20000 in
theorem x274_658 {sc : Scr} {d : Nat} {l1 l2 l3 l4 l5 l6 : Option V} {st : List V} {hs : HS} {Q : Rs → HS → Prop} {a : Nat} : Ex sc d 274 658 [some (vS a), l1, l2, l3, l4, l5, l6] st hs Q ↔ Ex sc d 274 659 [some (vS a), l1, l2, l3, l4, l5, l6] (vS a :: st) hs Q := e_aloadS ((cd274 658).trans rfl) rfl
set_option maxRecDepth 20000 in
theorem x274_659 {sc : Scr} {d : Nat} {l0 l1 l2 l3 l5 l6 : Option V} {st : List V} {hs : HS} {Q : Rs → HS → Prop} {a : Int} : Ex sc d 274 659 [l0, l1, l2, l3, some (vI a), l5, l6] st hs Q ↔ Ex sc d 274 661 [l0, l1, l2, l3, some (vI a), l5, l6] (vI a :: st) hs Q := e_iload ((cd274 659).trans rfl) rfl
set_option maxRecDepth 20000 in
theorem x274_661 {sc : Scr} {d : Nat} {l0 l1 l2 l3 l4 l5 l6 : Option V} {st : List V} {hs : HS} {Q : Rs → HS → Prop} : Ex sc d 274 661 [l0, l1, l2, l3, l4, l5, l6] st hs Q ↔ Ex sc d 274 662 [l0, l1, l2, l3, l4, l5, l6] (vI (2) :: st) hs Q := e_iconst ((cd274 661).trans rfl)
set_option maxRecDepth 20000 in
theorem x274_662 {sc : Scr} {d : Nat} {l0 l1 l2 l3 l4 l5 l6 : Option V} {st : List V} {hs : HS} {Q : Rs → HS → Prop} {a b : Int} : Ex sc d 274 662 [l0, l1, l2, l3, l4, l5, l6] (vI b :: vI a :: st) hs Q ↔ Ex sc d 274 663 [l0, l1, l2, l3, l4, l5, l6] (vI (a + b) :: st) hs Q := e_iadd ((cd274 662).trans rfl)
set_option maxRecDepth 20000 in
theorem x274_663 {sc : Scr} {d : Nat} {l0 l1 l2 l3 l4 l5 l6 : Option V} {st : List V} {hs : HS} {Q : Rs → HS → Prop} {i : Int} (hq : 0 ≤ i ∧ i < (sc.1 : Int) ∧ sc.1 < 2147483648) : Ex sc d 274 663 [l0, l1, l2, l3, l4, l5, l6] (vI i :: vS 9 :: st) hs Q ↔ Ex sc d 274 664 [l0, l1, l2, l3, l4, l5, l6] (vI (sc.2 i.toNat) :: st) hs Q := e_ialdS ((cd274 663).trans rfl) hq
set_option maxRecDepth 20000 in
theorem x274_664 {sc : Scr} {d : Nat} {l0 l1 l2 l4 l5 l6 : Option V} {st : List V} {hs : HS} {Q : Rs → HS → Prop} {a : Nat} : Ex sc d 274 664 [l0, l1, l2, some (vR a), l4, l5, l6] st hs Q ↔ Ex sc d 274 665 [l0, l1, l2, some (vR a), l4, l5, l6] (vR a :: st) hs Q := e_aload ((cd274 664).trans rfl) rfl
set_option maxRecDepth 20000 in
theorem x274_665 {sc : Scr} {d : Nat} {l0 l1 l2 l3 l4 l5 l6 : Option V} {st : List V} {hs : HS} {Q : Rs → HS → Prop} {a0 : Nat} {a1 : Int} {a2 : Int} {a3 : Nat} (hd : 0 < d) (hc : catS st ≤ 8) : Ex sc d 274 665 [l0, l1, l2, l3, l4, l5, l6] (vR a3 :: vI a2 :: vI a1 :: vR a0 :: st) hs Q ↔ Ex sc (d - 1) 87 0 [some (vR a0), some (vI a1), some (vI a2), some (vR a3), none] [] hs (Kc sc d 274 665 668 [l0, l1, l2, l3, l4, l5, l6] st Q) := e_callS ((cd274 665).trans rfl) (by simp only [List.length_cons]; omega) (by decide) rfl rfl rfl hc rfl hd
set_option maxRecDepth 20000 in
theorem x274_668 {sc : Scr} {d : Nat} {l0 l1 l2 l3 l4 l5 l6 : Option V} {st : List V} {hs : HS} {Q : Rs → HS → Prop} {a : Int} (hn : notL l4 = true) : Ex sc d 274 668 [l0, l1, l2, l3, l4, l5, l6] (vI a :: st) hs Q ↔ Ex sc d 274 670 [l0, l1, l2, l3, l4, some (vI a), l6] st hs Q := e_istore ((cd274 668).trans rfl) (by show 5 < 7; decide) (noL_of (j := 4) rfl hn) rfl
set_option maxRecDepth 20000 in
theorem x274_670 {sc : Scr} {d : Nat} {l0 l1 l3 l4 l5 l6 : Option V} {st : List V} {hs : HS} {Q : Rs → HS → Prop} {a : Nat} : Ex sc d 274 670 [l0, l1, some (vR a), l3, l4, l5, l6] st hs Q ↔ Ex sc d 274 671 [l0, l1, some (vR a), l3, l4, l5, l6] (vR a :: st) hs Q := e_aload ((cd274 670).trans rfl) rfl
set_option maxRecDepth 20000 in
theorem x274_671 {sc : Scr} {d : Nat} {l1 l2 l3 l4 l5 l6 : Option V} {st : List V} {hs : HS} {Q : Rs → HS → Prop} {a : Nat} : Ex sc d 274 671 [some (vS a), l1, l2, l3, l4, l5, l6] st hs Q ↔ Ex sc d 274 672 [some (vS a), l1, l2, l3, l4, l5, l6] (vS a :: st) hs Q := e_aloadS ((cd274 671).trans rfl) rfl
set_option maxRecDepth 20000 in
theorem x274_672 {sc : Scr} {d : Nat} {l0 l1 l2 l3 l5 l6 : Option V} {st : List V} {hs : HS} {Q : Rs → HS → Prop} {a : Int} : Ex sc d 274 672 [l0, l1, l2, l3, some (vI a), l5, l6] st hs Q ↔ Ex sc d 274 674 [l0, l1, l2, l3, some (vI a), l5, l6] (vI a :: st) hs Q := e_iload ((cd274 672).trans rfl) rfl
set_option maxRecDepth 20000 in
theorem x274_674 {sc : Scr} {d : Nat} {l0 l1 l2 l3 l4 l5 l6 : Option V} {st : List V} {hs : HS} {Q : Rs → HS → Prop} : Ex sc d 274 674 [l0, l1, l2, l3, l4, l5, l6] st hs Q ↔ Ex sc d 274 675 [l0, l1, l2, l3, l4, l5, l6] (vI (1) :: st) hs Q := e_iconst ((cd274 674).trans rfl)
set_option maxRecDepth 20000 in
theorem x274_675 {sc : Scr} {d : Nat} {l0 l1 l2 l3 l4 l5 l6 : Option V} {st : List V} {hs : HS} {Q : Rs → HS → Prop} {a b : Int} : Ex sc d 274 675 [l0, l1, l2, l3, l4, l5, l6] (vI b :: vI a :: st) hs Q ↔ Ex sc d 274 676 [l0, l1, l2, l3, l4, l5, l6] (vI (a + b) :: st) hs Q := e_iadd ((cd274 675).trans rfl)
set_option maxRecDepth 20000 in
theorem x274_676 {sc : Scr} {d : Nat} {l0 l1 l2 l3 l4 l5 l6 : Option V} {st : List V} {hs : HS} {Q : Rs → HS → Prop} {i : Int} (hq : 0 ≤ i ∧ i < (sc.1 : Int) ∧ sc.1 < 2147483648) : Ex sc d 274 676 [l0, l1, l2, l3, l4, l5, l6] (vI i :: vS 9 :: st) hs Q ↔ Ex sc d 274 677 [l0, l1, l2, l3, l4, l5, l6] (vI (sc.2 i.toNat) :: st) hs Q := e_ialdS ((cd274 676).trans rfl) hq
set_option maxRecDepth 20000 in
theorem x274_677 {sc : Scr} {d : Nat} {l1 l2 l3 l4 l5 l6 : Option V} {st : List V} {hs : HS} {Q : Rs → HS → Prop} {a : Nat} : Ex sc d 274 677 [some (vS a), l1, l2, l3, l4, l5, l6] st hs Q ↔ Ex sc d 274 678 [some (vS a), l1, l2, l3, l4, l5, l6] (vS a :: st) hs Q := e_aloadS ((cd274 677).trans rfl) rfl
set_option maxRecDepth 20000 in
theorem x274_678 {sc : Scr} {d : Nat} {l0 l1 l2 l3 l5 l6 : Option V} {st : List V} {hs : HS} {Q : Rs → HS → Prop} {a : Int} : Ex sc d 274 678 [l0, l1, l2, l3, some (vI a), l5, l6] st hs Q ↔ Ex sc d 274 680 [l0, l1, l2, l3, some (vI a), l5, l6] (vI a :: st) hs Q := e_iload ((cd274 678).trans rfl) rfl
set_option maxRecDepth 20000 in
theorem x274_680 {sc : Scr} {d : Nat} {l0 l1 l2 l3 l4 l5 l6 : Option V} {st : List V} {hs : HS} {Q : Rs → HS → Prop} : Ex sc d 274 680 [l0, l1, l2, l3, l4, l5, l6] st hs Q ↔ Ex sc d 274 681 [l0, l1, l2, l3, l4, l5, l6] (vI (2) :: st) hs Q := e_iconst ((cd274 680).trans rfl)
set_option maxRecDepth 20000 in
theorem x274_681 {sc : Scr} {d : Nat} {l0 l1 l2 l3 l4 l5 l6 : Option V} {st : List V} {hs : HS} {Q : Rs → HS → Prop} {a b : Int} : Ex sc d 274 681 [l0, l1, l2, l3, l4, l5, l6] (vI b :: vI a :: st) hs Q ↔ Ex sc d 274 682 [l0, l1, l2, l3, l4, l5, l6] (vI (a + b) :: st) hs Q := e_iadd ((cd274 681).trans rfl)
set_option maxRecDepth 20000 in
theorem x274_682 {sc : Scr} {d : Nat} {l0 l1 l2 l3 l4 l5 l6 : Option V} {st : List V} {hs : HS} {Q : Rs → HS → Prop} {i : Int} (hq : 0 ≤ i ∧ i < (sc.1 : Int) ∧ sc.1 < 2147483648) : Ex sc d 274 682 [l0, l1, l2, l3, l4, l5, l6] (vI i :: vS 9 :: st) hs Q ↔ Ex sc d 274 683 [l0, l1, l2, l3, l4, l5, l6] (vI (sc.2 i.toNat) :: st) hs Q := e_ialdS ((cd274 682).trans rfl) hq
set_option maxRecDepth 20000 in
theorem x274_683 {sc : Scr} {d : Nat} {l0 l1 l2 l3 l4 l5 l6 : Option V} {st : List V} {hs : HS} {Q : Rs → HS → Prop} {a0 : Int} {a1 : Int} {q : Nat} (hd : 0 < d) (hc : catS st ≤ 8) (ho : isObj hs 12 (vR q) = true) : Ex sc d 274 683 [l0, l1, l2, l3, l4, l5, l6] (vI a1 :: vI a0 :: vR q :: st) hs Q ↔ Ex sc (d - 1) 224 0 [some (vR q), some (vI a0), some (vI a1)] [] hs (Kc sc d 274 683 686 [l0, l1, l2, l3, l4, l5, l6] st Q) := e_callV ((cd274 683).trans rfl) ho (by simp only [List.length_cons]; omega) (by decide) rfl rfl rfl hc rfl hd
set_option maxRecDepth 20000 in
theorem x274_686 {sc : Scr} {d : Nat} {l0 l1 l2 l3 l4 l5 l6 : Option V} {st : List V} {hs : HS} {Q : Rs → HS → Prop} {a : Int} (hn : notL l5 = true) : Ex sc d 274 686 [l0, l1, l2, l3, l4, l5, l6] (vI a :: st) hs Q ↔ Ex sc d 274 688 [l0, l1, l2, l3, l4, l5, some (vI a)] st hs Q := e_istore ((cd274 686).trans rfl) (by show 6 < 7; decide) (noL_of (j := 5) rfl hn) rfl
set_option maxRecDepth 20000 in
theorem x274_688 {sc : Scr} {d : Nat} {l0 l1 l3 l4 l5 l6 : Option V} {st : List V} {hs : HS} {Q : Rs → HS → Prop} {a : Nat} : Ex sc d 274 688 [l0, l1, some (vR a), l3, l4, l5, l6] st hs Q ↔ Ex sc d 274 689 [l0, l1, some (vR a), l3, l4, l5, l6] (vR a :: st) hs Q := e_aload ((cd274 688).trans rfl) rfl
set_option maxRecDepth 20000 in
theorem x274_689 {sc : Scr} {d : Nat} {l0 l1 l2 l3 l4 l5 l6 : Option V} {st : List V} {hs : HS} {Q : Rs → HS → Prop} {q : Nat} (hd : 0 < d) (hc : catS st ≤ 8) (ho : isObj hs 12 (vR q) = true) : Ex sc d 274 689 [l0, l1, l2, l3, l4, l5, l6] (vR q :: st) hs Q ↔ Ex sc (d - 1) 177 0 [some (vR q)] [] hs (Kc sc d 274 689 692 [l0, l1, l2, l3, l4, l5, l6] st Q) := e_callV ((cd274 689).trans rfl) ho (by simp only [List.length_cons]; omega) (by decide) rfl rfl rfl hc rfl hd
set_option maxRecDepth 20000 in
theorem x274_692 {sc : Scr} {d : Nat} {l0 l1 l2 l3 l4 l6 : Option V} {st : List V} {hs : HS} {Q : Rs → HS → Prop} {a : Int} : Ex sc d 274 692 [l0, l1, l2, l3, l4, some (vI a), l6] st hs Q ↔ Ex sc d 274 694 [l0, l1, l2, l3, l4, some (vI a), l6] (vI a :: st) hs Q := e_iload ((cd274 692).trans rfl) rfl
set_option maxRecDepth 20000 in
theorem x274_694 {sc : Scr} {d : Nat} {l0 l1 l2 l3 l4 l5 l6 : Option V} {st : List V} {hs : HS} {Q : Rs → HS → Prop} {a b : Int} (ha : inR a) (hb : inR b) : Ex sc d 274 694 [l0, l1, l2, l3, l4, l5, l6] (vI b :: vI a :: st) hs Q ↔ if a = b then Ex sc d 274 699 [l0, l1, l2, l3, l4, l5, l6] st hs Q else Ex sc d 274 697 [l0, l1, l2, l3, l4, l5, l6] st hs Q := (e_icmp ((cd274 694).trans rfl) ha hb).trans (by simp only [cmpI, decide_eq_true_eq])
set_option maxRecDepth 20000 in
theorem x274_697 {sc : Scr} {d : Nat} {l0 l1 l2 l3 l4 l5 l6 : Option V} {st : List V} {hs : HS} {Q : Rs → HS → Prop} : Ex sc d 274 697 [l0, l1, l2, l3, l4, l5, l6] st hs Q ↔ Ex sc d 274 698 [l0, l1, l2, l3, l4, l5, l6] (vI (0) :: st) hs Q := e_iconst ((cd274 697).trans rfl)
set_option maxRecDepth 20000 in
theorem x274_698 {sc : Scr} {d : Nat} {l0 l1 l2 l3 l4 l5 l6 : Option V} {hs : HS} {Q : Rs → HS → Prop} {a : Int} (ha : a = 0 ∨ a = 1) : Ex sc d 274 698 [l0, l1, l2, l3, l4, l5, l6] [vI a] hs Q ↔ Q (.inl (some (vI a))) hs := e_zret ((cd274 698).trans rfl) rfl ha
set_option maxRecDepth 20000 in
theorem x274_699 {sc : Scr} {d : Nat} {l0 l1 l2 l3 l4 l6 : Option V} {st : List V} {hs : HS} {Q : Rs → HS → Prop} {a : Int} : Ex sc d 274 699 [l0, l1, l2, l3, l4, some (vI a), l6] st hs Q ↔ Ex sc d 274 701 [l0, l1, l2, l3, l4, some (vI a), l6] (vI a :: st) hs Q := e_iload ((cd274 699).trans rfl) rfl
set_option maxRecDepth 20000 in
theorem x274_701 {sc : Scr} {d : Nat} {l0 l1 l2 l3 l4 l5 l6 : Option V} {st : List V} {hs : HS} {Q : Rs → HS → Prop} {a : Int} (ha : inR a) : Ex sc d 274 701 [l0, l1, l2, l3, l4, l5, l6] (vI a :: st) hs Q ↔ if ¬ a = 0 then Ex sc d 274 723 [l0, l1, l2, l3, l4, l5, l6] st hs Q else Ex sc d 274 704 [l0, l1, l2, l3, l4, l5, l6] st hs Q := (e_if ((cd274 701).trans rfl) ha).trans (by simp only [cmpI, decide_eq_true_eq])
set_option maxRecDepth 20000 in
theorem x274_704 {sc : Scr} {d : Nat} {l0 l1 l2 l4 l5 l6 : Option V} {st : List V} {hs : HS} {Q : Rs → HS → Prop} {a : Nat} : Ex sc d 274 704 [l0, l1, l2, some (vR a), l4, l5, l6] st hs Q ↔ Ex sc d 274 705 [l0, l1, l2, some (vR a), l4, l5, l6] (vR a :: st) hs Q := e_aload ((cd274 704).trans rfl) rfl
set_option maxRecDepth 20000 in
theorem x274_705 {sc : Scr} {d : Nat} {l0 l1 l2 l3 l4 l5 l6 : Option V} {st : List V} {hs : HS} {Q : Rs → HS → Prop} : Ex sc d 274 705 [l0, l1, l2, l3, l4, l5, l6] st hs Q ↔ Ex sc d 274 706 [l0, l1, l2, l3, l4, l5, l6] (vI (0) :: st) hs Q := e_iconst ((cd274 705).trans rfl)
set_option maxRecDepth 20000 in
theorem x274_706 {sc : Scr} {d : Nat} {l0 l1 l2 l3 l4 l5 l6 : Option V} {st : List V} {hs : HS} {Q : Rs → HS → Prop} {a : Nat} {i : Int} : Ex sc d 274 706 [l0, l1, l2, l3, l4, l5, l6] (vI i :: vR a :: st) hs Q ↔ Ra hs 2 a i (fun z => Ex sc d 274 707 [l0, l1, l2, l3, l4, l5, l6] (vL z :: st) hs Q) := e_lald ((cd274 706).trans rfl)
set_option maxRecDepth 20000 in
theorem x274_707 {sc : Scr} {d : Nat} {l0 l1 l2 l3 l4 l5 : Option V} {st : List V} {hs : HS} {Q : Rs → HS → Prop} {a : Int} : Ex sc d 274 707 [l0, l1, l2, l3, l4, l5, some (vI a)] st hs Q ↔ Ex sc d 274 709 [l0, l1, l2, l3, l4, l5, some (vI a)] (vI a :: st) hs Q := e_iload ((cd274 707).trans rfl) rfl
set_option maxRecDepth 20000 in
theorem x274_709 {sc : Scr} {d : Nat} {l0 l1 l2 l3 l4 l5 l6 : Option V} {st : List V} {hs : HS} {Q : Rs → HS → Prop} {a : Int} (ha : inR a) : Ex sc d 274 709 [l0, l1, l2, l3, l4, l5, l6] (vI a :: st) hs Q ↔ if a = 0 then Ex sc d 274 716 [l0, l1, l2, l3, l4, l5, l6] st hs Q else Ex sc d 274 712 [l0, l1, l2, l3, l4, l5, l6] st hs Q := (e_if ((cd274 709).trans rfl) ha).trans (by simp only [cmpI, decide_eq_true_eq])
set_option maxRecDepth 20000 in
theorem x274_712 {sc : Scr} {d : Nat} {l0 l1 l2 l3 l4 l5 l6 : Option V} {st : List V} {hs : HS} {Q : Rs → HS → Prop} : Ex sc d 274 712 [l0, l1, l2, l3, l4, l5, l6] st hs Q ↔ Ex sc d 274 713 [l0, l1, l2, l3, l4, l5, l6] (vL (1) :: st) hs Q := e_lconst ((cd274 712).trans rfl)
set_option maxRecDepth 20000 in
theorem x274_713 {sc : Scr} {d : Nat} {l0 l1 l2 l3 l4 l5 l6 : Option V} {st : List V} {hs : HS} {Q : Rs → HS → Prop} : Ex sc d 274 713 [l0, l1, l2, l3, l4, l5, l6] st hs Q ↔ Ex sc d 274 717 [l0, l1, l2, l3, l4, l5, l6] st hs Q := e_goto ((cd274 713).trans rfl)
set_option maxRecDepth 20000 in
theorem x274_716 {sc : Scr} {d : Nat} {l0 l1 l2 l3 l4 l5 l6 : Option V} {st : List V} {hs : HS} {Q : Rs → HS → Prop} : Ex sc d 274 716 [l0, l1, l2, l3, l4, l5, l6] st hs Q ↔ Ex sc d 274 717 [l0, l1, l2, l3, l4, l5, l6] (vL (0) :: st) hs Q := e_lconst ((cd274 716).trans rfl)
set_option maxRecDepth 20000 in
theorem x274_717 {sc : Scr} {d : Nat} {l0 l1 l2 l3 l4 l5 l6 : Option V} {st : List V} {hs : HS} {Q : Rs → HS → Prop} {a b : Int} (ha : inL a) (hb : inL b) : Ex sc d 274 717 [l0, l1, l2, l3, l4, l5, l6] (vL b :: vL a :: st) hs Q ↔ Ex sc d 274 718 [l0, l1, l2, l3, l4, l5, l6] (vI (if a < b then -1 else if a = b then 0 else 1) :: st) hs Q := e_lcmp ((cd274 717).trans rfl) ha hb
set_option maxRecDepth 20000 in
theorem x274_718 {sc : Scr} {d : Nat} {l0 l1 l2 l3 l4 l5 l6 : Option V} {st : List V} {hs : HS} {Q : Rs → HS → Prop} {a : Int} (ha : inR a) : Ex sc d 274 718 [l0, l1, l2, l3, l4, l5, l6] (vI a :: st) hs Q ↔ if a = 0 then Ex sc d 274 723 [l0, l1, l2, l3, l4, l5, l6] st hs Q else Ex sc d 274 721 [l0, l1, l2, l3, l4, l5, l6] st hs Q := (e_if ((cd274 718).trans rfl) ha).trans (by simp only [cmpI, decide_eq_true_eq])
set_option maxRecDepth 20000 in
theorem x274_721 {sc : Scr} {d : Nat} {l0 l1 l2 l3 l4 l5 l6 : Option V} {st : List V} {hs : HS} {Q : Rs → HS → Prop} : Ex sc d 274 721 [l0, l1, l2, l3, l4, l5, l6] st hs Q ↔ Ex sc d 274 722 [l0, l1, l2, l3, l4, l5, l6] (vI (0) :: st) hs Q := e_iconst ((cd274 721).trans rfl)
set_option maxRecDepth 20000 in
theorem x274_722 {sc : Scr} {d : Nat} {l0 l1 l2 l3 l4 l5 l6 : Option V} {hs : HS} {Q : Rs → HS → Prop} {a : Int} (ha : a = 0 ∨ a = 1) : Ex sc d 274 722 [l0, l1, l2, l3, l4, l5, l6] [vI a] hs Q ↔ Q (.inl (some (vI a))) hs := e_zret ((cd274 722).trans rfl) rfl ha
set_option maxRecDepth 20000 in
theorem x274_723 {sc : Scr} {d : Nat} {l0 l1 l2 l3 l4 l5 l6 : Option V} {st : List V} {hs : HS} {Q : Rs → HS → Prop} : Ex sc d 274 723 [l0, l1, l2, l3, l4, l5, l6] st hs Q ↔ Ex sc d 274 1660 [l0, l1, l2, l3, l4, l5, l6] st hs Q := e_goto ((cd274 723).trans rfl)
set_option maxRecDepth 20000 in
theorem x274_726 {sc : Scr} {d : Nat} {l0 l2 l3 l4 l5 l6 : Option V} {st : List V} {hs : HS} {Q : Rs → HS → Prop} {a : Nat} : Ex sc d 274 726 [l0, some (vR a), l2, l3, l4, l5, l6] st hs Q ↔ Ex sc d 274 727 [l0, some (vR a), l2, l3, l4, l5, l6] (vR a :: st) hs Q := e_aload ((cd274 726).trans rfl) rfl
set_option maxRecDepth 20000 in
theorem x274_727 {sc : Scr} {d : Nat} {l1 l2 l3 l4 l5 l6 : Option V} {st : List V} {hs : HS} {Q : Rs → HS → Prop} {a : Nat} : Ex sc d 274 727 [some (vS a), l1, l2, l3, l4, l5, l6] st hs Q ↔ Ex sc d 274 728 [some (vS a), l1, l2, l3, l4, l5, l6] (vS a :: st) hs Q := e_aloadS ((cd274 727).trans rfl) rfl
set_option maxRecDepth 20000 in
theorem x274_728 {sc : Scr} {d : Nat} {l0 l1 l2 l3 l5 l6 : Option V} {st : List V} {hs : HS} {Q : Rs → HS → Prop} {a : Int} : Ex sc d 274 728 [l0, l1, l2, l3, some (vI a), l5, l6] st hs Q ↔ Ex sc d 274 730 [l0, l1, l2, l3, some (vI a), l5, l6] (vI a :: st) hs Q := e_iload ((cd274 728).trans rfl) rfl
set_option maxRecDepth 20000 in
theorem x274_730 {sc : Scr} {d : Nat} {l0 l1 l2 l3 l4 l5 l6 : Option V} {st : List V} {hs : HS} {Q : Rs → HS → Prop} : Ex sc d 274 730 [l0, l1, l2, l3, l4, l5, l6] st hs Q ↔ Ex sc d 274 731 [l0, l1, l2, l3, l4, l5, l6] (vI (1) :: st) hs Q := e_iconst ((cd274 730).trans rfl)
set_option maxRecDepth 20000 in
theorem x274_731 {sc : Scr} {d : Nat} {l0 l1 l2 l3 l4 l5 l6 : Option V} {st : List V} {hs : HS} {Q : Rs → HS → Prop} {a b : Int} : Ex sc d 274 731 [l0, l1, l2, l3, l4, l5, l6] (vI b :: vI a :: st) hs Q ↔ Ex sc d 274 732 [l0, l1, l2, l3, l4, l5, l6] (vI (a + b) :: st) hs Q := e_iadd ((cd274 731).trans rfl)
set_option maxRecDepth 20000 in
theorem x274_732 {sc : Scr} {d : Nat} {l0 l1 l2 l3 l4 l5 l6 : Option V} {st : List V} {hs : HS} {Q : Rs → HS → Prop} {i : Int} (hq : 0 ≤ i ∧ i < (sc.1 : Int) ∧ sc.1 < 2147483648) : Ex sc d 274 732 [l0, l1, l2, l3, l4, l5, l6] (vI i :: vS 9 :: st) hs Q ↔ Ex sc d 274 733 [l0, l1, l2, l3, l4, l5, l6] (vI (sc.2 i.toNat) :: st) hs Q := e_ialdS ((cd274 732).trans rfl) hq
set_option maxRecDepth 20000 in
theorem x274_733 {sc : Scr} {d : Nat} {l1 l2 l3 l4 l5 l6 : Option V} {st : List V} {hs : HS} {Q : Rs → HS → Prop} {a : Nat} : Ex sc d 274 733 [some (vS a), l1, l2, l3, l4, l5, l6] st hs Q ↔ Ex sc d 274 734 [some (vS a), l1, l2, l3, l4, l5, l6] (vS a :: st) hs Q := e_aloadS ((cd274 733).trans rfl) rfl
set_option maxRecDepth 20000 in
theorem x274_734 {sc : Scr} {d : Nat} {l0 l1 l2 l3 l5 l6 : Option V} {st : List V} {hs : HS} {Q : Rs → HS → Prop} {a : Int} : Ex sc d 274 734 [l0, l1, l2, l3, some (vI a), l5, l6] st hs Q ↔ Ex sc d 274 736 [l0, l1, l2, l3, some (vI a), l5, l6] (vI a :: st) hs Q := e_iload ((cd274 734).trans rfl) rfl
set_option maxRecDepth 20000 in
theorem x274_736 {sc : Scr} {d : Nat} {l0 l1 l2 l3 l4 l5 l6 : Option V} {st : List V} {hs : HS} {Q : Rs → HS → Prop} : Ex sc d 274 736 [l0, l1, l2, l3, l4, l5, l6] st hs Q ↔ Ex sc d 274 737 [l0, l1, l2, l3, l4, l5, l6] (vI (2) :: st) hs Q := e_iconst ((cd274 736).trans rfl)
set_option maxRecDepth 20000 in
theorem x274_737 {sc : Scr} {d : Nat} {l0 l1 l2 l3 l4 l5 l6 : Option V} {st : List V} {hs : HS} {Q : Rs → HS → Prop} {a b : Int} : Ex sc d 274 737 [l0, l1, l2, l3, l4, l5, l6] (vI b :: vI a :: st) hs Q ↔ Ex sc d 274 738 [l0, l1, l2, l3, l4, l5, l6] (vI (a + b) :: st) hs Q := e_iadd ((cd274 737).trans rfl)
set_option maxRecDepth 20000 in
theorem x274_738 {sc : Scr} {d : Nat} {l0 l1 l2 l3 l4 l5 l6 : Option V} {st : List V} {hs : HS} {Q : Rs → HS → Prop} {i : Int} (hq : 0 ≤ i ∧ i < (sc.1 : Int) ∧ sc.1 < 2147483648) : Ex sc d 274 738 [l0, l1, l2, l3, l4, l5, l6] (vI i :: vS 9 :: st) hs Q ↔ Ex sc d 274 739 [l0, l1, l2, l3, l4, l5, l6] (vI (sc.2 i.toNat) :: st) hs Q := e_ialdS ((cd274 738).trans rfl) hq
set_option maxRecDepth 20000 in
theorem x274_739 {sc : Scr} {d : Nat} {l0 l1 l2 l4 l5 l6 : Option V} {st : List V} {hs : HS} {Q : Rs → HS → Prop} {a : Nat} : Ex sc d 274 739 [l0, l1, l2, some (vR a), l4, l5, l6] st hs Q ↔ Ex sc d 274 740 [l0, l1, l2, some (vR a), l4, l5, l6] (vR a :: st) hs Q := e_aload ((cd274 739).trans rfl) rfl
set_option maxRecDepth 20000 in
theorem x274_740 {sc : Scr} {d : Nat} {l0 l1 l2 l3 l4 l5 l6 : Option V} {st : List V} {hs : HS} {Q : Rs → HS → Prop} {a0 : Nat} {a1 : Int} {a2 : Int} {a3 : Nat} (hd : 0 < d) (hc : catS st ≤ 8) : Ex sc d 274 740 [l0, l1, l2, l3, l4, l5, l6] (vR a3 :: vI a2 :: vI a1 :: vR a0 :: st) hs Q ↔ Ex sc (d - 1) 91 0 [some (vR a0), some (vI a1), some (vI a2), some (vR a3), none] [] hs (Kc sc d 274 740 743 [l0, l1, l2, l3, l4, l5, l6] st Q) := e_callS ((cd274 740).trans rfl) (by simp only [List.length_cons]; omega) (by decide) rfl rfl rfl hc rfl hd
set_option maxRecDepth 20000 in
theorem x274_743 {sc : Scr} {d : Nat} {l0 l1 l2 l3 l4 l5 l6 : Option V} {st : List V} {hs : HS} {Q : Rs → HS → Prop} {a : Int} (hn : notL l4 = true) : Ex sc d 274 743 [l0, l1, l2, l3, l4, l5, l6] (vI a :: st) hs Q ↔ Ex sc d 274 745 [l0, l1, l2, l3, l4, some (vI a), l6] st hs Q := e_istore ((cd274 743).trans rfl) (by show 5 < 7; decide) (noL_of (j := 4) rfl hn) rfl
set_option maxRecDepth 20000 in
theorem x274_745 {sc : Scr} {d : Nat} {l0 l1 l3 l4 l5 l6 : Option V} {st : List V} {hs : HS} {Q : Rs → HS → Prop} {a : Nat} : Ex sc d 274 745 [l0, l1, some (vR a), l3, l4, l5, l6] st hs Q ↔ Ex sc d 274 746 [l0, l1, some (vR a), l3, l4, l5, l6] (vR a :: st) hs Q := e_aload ((cd274 745).trans rfl) rfl
set_option maxRecDepth 20000 in
theorem x274_746 {sc : Scr} {d : Nat} {l1 l2 l3 l4 l5 l6 : Option V} {st : List V} {hs : HS} {Q : Rs → HS → Prop} {a : Nat} : Ex sc d 274 746 [some (vS a), l1, l2, l3, l4, l5, l6] st hs Q ↔ Ex sc d 274 747 [some (vS a), l1, l2, l3, l4, l5, l6] (vS a :: st) hs Q := e_aloadS ((cd274 746).trans rfl) rfl
set_option maxRecDepth 20000 in
theorem x274_747 {sc : Scr} {d : Nat} {l0 l1 l2 l3 l5 l6 : Option V} {st : List V} {hs : HS} {Q : Rs → HS → Prop} {a : Int} : Ex sc d 274 747 [l0, l1, l2, l3, some (vI a), l5, l6] st hs Q ↔ Ex sc d 274 749 [l0, l1, l2, l3, some (vI a), l5, l6] (vI a :: st) hs Q := e_iload ((cd274 747).trans rfl) rfl
set_option maxRecDepth 20000 in
theorem x274_749 {sc : Scr} {d : Nat} {l0 l1 l2 l3 l4 l5 l6 : Option V} {st : List V} {hs : HS} {Q : Rs → HS → Prop} : Ex sc d 274 749 [l0, l1, l2, l3, l4, l5, l6] st hs Q ↔ Ex sc d 274 750 [l0, l1, l2, l3, l4, l5, l6] (vI (1) :: st) hs Q := e_iconst ((cd274 749).trans rfl)
set_option maxRecDepth 20000 in
theorem x274_750 {sc : Scr} {d : Nat} {l0 l1 l2 l3 l4 l5 l6 : Option V} {st : List V} {hs : HS} {Q : Rs → HS → Prop} {a b : Int} : Ex sc d 274 750 [l0, l1, l2, l3, l4, l5, l6] (vI b :: vI a :: st) hs Q ↔ Ex sc d 274 751 [l0, l1, l2, l3, l4, l5, l6] (vI (a + b) :: st) hs Q := e_iadd ((cd274 750).trans rfl)
set_option maxRecDepth 20000 in
theorem x274_751 {sc : Scr} {d : Nat} {l0 l1 l2 l3 l4 l5 l6 : Option V} {st : List V} {hs : HS} {Q : Rs → HS → Prop} {i : Int} (hq : 0 ≤ i ∧ i < (sc.1 : Int) ∧ sc.1 < 2147483648) : Ex sc d 274 751 [l0, l1, l2, l3, l4, l5, l6] (vI i :: vS 9 :: st) hs Q ↔ Ex sc d 274 752 [l0, l1, l2, l3, l4, l5, l6] (vI (sc.2 i.toNat) :: st) hs Q := e_ialdS ((cd274 751).trans rfl) hq
set_option maxRecDepth 20000 in
theorem x274_752 {sc : Scr} {d : Nat} {l1 l2 l3 l4 l5 l6 : Option V} {st : List V} {hs : HS} {Q : Rs → HS → Prop} {a : Nat} : Ex sc d 274 752 [some (vS a), l1, l2, l3, l4, l5, l6] st hs Q ↔ Ex sc d 274 753 [some (vS a), l1, l2, l3, l4, l5, l6] (vS a :: st) hs Q := e_aloadS ((cd274 752).trans rfl) rfl
set_option maxRecDepth 20000 in
theorem x274_753 {sc : Scr} {d : Nat} {l0 l1 l2 l3 l5 l6 : Option V} {st : List V} {hs : HS} {Q : Rs → HS → Prop} {a : Int} : Ex sc d 274 753 [l0, l1, l2, l3, some (vI a), l5, l6] st hs Q ↔ Ex sc d 274 755 [l0, l1, l2, l3, some (vI a), l5, l6] (vI a :: st) hs Q := e_iload ((cd274 753).trans rfl) rfl
set_option maxRecDepth 20000 in
theorem x274_755 {sc : Scr} {d : Nat} {l0 l1 l2 l3 l4 l5 l6 : Option V} {st : List V} {hs : HS} {Q : Rs → HS → Prop} : Ex sc d 274 755 [l0, l1, l2, l3, l4, l5, l6] st hs Q ↔ Ex sc d 274 756 [l0, l1, l2, l3, l4, l5, l6] (vI (2) :: st) hs Q := e_iconst ((cd274 755).trans rfl)
set_option maxRecDepth 20000 in
theorem x274_756 {sc : Scr} {d : Nat} {l0 l1 l2 l3 l4 l5 l6 : Option V} {st : List V} {hs : HS} {Q : Rs → HS → Prop} {a b : Int} : Ex sc d 274 756 [l0, l1, l2, l3, l4, l5, l6] (vI b :: vI a :: st) hs Q ↔ Ex sc d 274 757 [l0, l1, l2, l3, l4, l5, l6] (vI (a + b) :: st) hs Q := e_iadd ((cd274 756).trans rfl)
set_option maxRecDepth 20000 in
theorem x274_757 {sc : Scr} {d : Nat} {l0 l1 l2 l3 l4 l5 l6 : Option V} {st : List V} {hs : HS} {Q : Rs → HS → Prop} {i : Int} (hq : 0 ≤ i ∧ i < (sc.1 : Int) ∧ sc.1 < 2147483648) : Ex sc d 274 757 [l0, l1, l2, l3, l4, l5, l6] (vI i :: vS 9 :: st) hs Q ↔ Ex sc d 274 758 [l0, l1, l2, l3, l4, l5, l6] (vI (sc.2 i.toNat) :: st) hs Q := e_ialdS ((cd274 757).trans rfl) hq
set_option maxRecDepth 20000 in
theorem x274_758 {sc : Scr} {d : Nat} {l0 l1 l2 l3 l4 l5 l6 : Option V} {st : List V} {hs : HS} {Q : Rs → HS → Prop} {a0 : Int} {a1 : Int} {q : Nat} (hd : 0 < d) (hc : catS st ≤ 8) (ho : isObj hs 12 (vR q) = true) : Ex sc d 274 758 [l0, l1, l2, l3, l4, l5, l6] (vI a1 :: vI a0 :: vR q :: st) hs Q ↔ Ex sc (d - 1) 241 0 [some (vR q), some (vI a0), some (vI a1)] [] hs (Kc sc d 274 758 761 [l0, l1, l2, l3, l4, l5, l6] st Q) := e_callV ((cd274 758).trans rfl) ho (by simp only [List.length_cons]; omega) (by decide) rfl rfl rfl hc rfl hd
set_option maxRecDepth 20000 in
theorem x274_761 {sc : Scr} {d : Nat} {l0 l1 l2 l3 l4 l5 l6 : Option V} {st : List V} {hs : HS} {Q : Rs → HS → Prop} {a : Int} (hn : notL l5 = true) : Ex sc d 274 761 [l0, l1, l2, l3, l4, l5, l6] (vI a :: st) hs Q ↔ Ex sc d 274 763 [l0, l1, l2, l3, l4, l5, some (vI a)] st hs Q := e_istore ((cd274 761).trans rfl) (by show 6 < 7; decide) (noL_of (j := 5) rfl hn) rfl
set_option maxRecDepth 20000 in
theorem x274_763 {sc : Scr} {d : Nat} {l0 l1 l3 l4 l5 l6 : Option V} {st : List V} {hs : HS} {Q : Rs → HS → Prop} {a : Nat} : Ex sc d 274 763 [l0, l1, some (vR a), l3, l4, l5, l6] st hs Q ↔ Ex sc d 274 764 [l0, l1, some (vR a), l3, l4, l5, l6] (vR a :: st) hs Q := e_aload ((cd274 763).trans rfl) rfl
set_option maxRecDepth 20000 in
theorem x274_764 {sc : Scr} {d : Nat} {l0 l1 l2 l3 l4 l5 l6 : Option V} {st : List V} {hs : HS} {Q : Rs → HS → Prop} {q : Nat} (hd : 0 < d) (hc : catS st ≤ 8) (ho : isObj hs 12 (vR q) = true) : Ex sc d 274 764 [l0, l1, l2, l3, l4, l5, l6] (vR q :: st) hs Q ↔ Ex sc (d - 1) 177 0 [some (vR q)] [] hs (Kc sc d 274 764 767 [l0, l1, l2, l3, l4, l5, l6] st Q) := e_callV ((cd274 764).trans rfl) ho (by simp only [List.length_cons]; omega) (by decide) rfl rfl rfl hc rfl hd
set_option maxRecDepth 20000 in
theorem x274_767 {sc : Scr} {d : Nat} {l0 l1 l2 l3 l4 l6 : Option V} {st : List V} {hs : HS} {Q : Rs → HS → Prop} {a : Int} : Ex sc d 274 767 [l0, l1, l2, l3, l4, some (vI a), l6] st hs Q ↔ Ex sc d 274 769 [l0, l1, l2, l3, l4, some (vI a), l6] (vI a :: st) hs Q := e_iload ((cd274 767).trans rfl) rfl
set_option maxRecDepth 20000 in
theorem x274_769 {sc : Scr} {d : Nat} {l0 l1 l2 l3 l4 l5 l6 : Option V} {st : List V} {hs : HS} {Q : Rs → HS → Prop} {a b : Int} (ha : inR a) (hb : inR b) : Ex sc d 274 769 [l0, l1, l2, l3, l4, l5, l6] (vI b :: vI a :: st) hs Q ↔ if a = b then Ex sc d 274 774 [l0, l1, l2, l3, l4, l5, l6] st hs Q else Ex sc d 274 772 [l0, l1, l2, l3, l4, l5, l6] st hs Q := (e_icmp ((cd274 769).trans rfl) ha hb).trans (by simp only [cmpI, decide_eq_true_eq])
set_option maxRecDepth 20000 in
theorem x274_772 {sc : Scr} {d : Nat} {l0 l1 l2 l3 l4 l5 l6 : Option V} {st : List V} {hs : HS} {Q : Rs → HS → Prop} : Ex sc d 274 772 [l0, l1, l2, l3, l4, l5, l6] st hs Q ↔ Ex sc d 274 773 [l0, l1, l2, l3, l4, l5, l6] (vI (0) :: st) hs Q := e_iconst ((cd274 772).trans rfl)
set_option maxRecDepth 20000 in
theorem x274_773 {sc : Scr} {d : Nat} {l0 l1 l2 l3 l4 l5 l6 : Option V} {hs : HS} {Q : Rs → HS → Prop} {a : Int} (ha : a = 0 ∨ a = 1) : Ex sc d 274 773 [l0, l1, l2, l3, l4, l5, l6] [vI a] hs Q ↔ Q (.inl (some (vI a))) hs := e_zret ((cd274 773).trans rfl) rfl ha
set_option maxRecDepth 20000 in
theorem x274_774 {sc : Scr} {d : Nat} {l0 l1 l2 l3 l4 l6 : Option V} {st : List V} {hs : HS} {Q : Rs → HS → Prop} {a : Int} : Ex sc d 274 774 [l0, l1, l2, l3, l4, some (vI a), l6] st hs Q ↔ Ex sc d 274 776 [l0, l1, l2, l3, l4, some (vI a), l6] (vI a :: st) hs Q := e_iload ((cd274 774).trans rfl) rfl
set_option maxRecDepth 20000 in
theorem x274_776 {sc : Scr} {d : Nat} {l0 l1 l2 l3 l4 l5 l6 : Option V} {st : List V} {hs : HS} {Q : Rs → HS → Prop} {a : Int} (ha : inR a) : Ex sc d 274 776 [l0, l1, l2, l3, l4, l5, l6] (vI a :: st) hs Q ↔ if ¬ a = 0 then Ex sc d 274 791 [l0, l1, l2, l3, l4, l5, l6] st hs Q else Ex sc d 274 779 [l0, l1, l2, l3, l4, l5, l6] st hs Q := (e_if ((cd274 776).trans rfl) ha).trans (by simp only [cmpI, decide_eq_true_eq])
set_option maxRecDepth 20000 in
theorem x274_779 {sc : Scr} {d : Nat} {l0 l1 l2 l4 l5 l6 : Option V} {st : List V} {hs : HS} {Q : Rs → HS → Prop} {a : Nat} : Ex sc d 274 779 [l0, l1, l2, some (vR a), l4, l5, l6] st hs Q ↔ Ex sc d 274 780 [l0, l1, l2, some (vR a), l4, l5, l6] (vR a :: st) hs Q := e_aload ((cd274 779).trans rfl) rfl
set_option maxRecDepth 20000 in
theorem x274_780 {sc : Scr} {d : Nat} {l0 l1 l2 l3 l4 l5 l6 : Option V} {st : List V} {hs : HS} {Q : Rs → HS → Prop} : Ex sc d 274 780 [l0, l1, l2, l3, l4, l5, l6] st hs Q ↔ Ex sc d 274 781 [l0, l1, l2, l3, l4, l5, l6] (vI (0) :: st) hs Q := e_iconst ((cd274 780).trans rfl)
set_option maxRecDepth 20000 in
theorem x274_781 {sc : Scr} {d : Nat} {l0 l1 l2 l3 l4 l5 l6 : Option V} {st : List V} {hs : HS} {Q : Rs → HS → Prop} {a : Nat} {i : Int} : Ex sc d 274 781 [l0, l1, l2, l3, l4, l5, l6] (vI i :: vR a :: st) hs Q ↔ Ra hs 2 a i (fun z => Ex sc d 274 782 [l0, l1, l2, l3, l4, l5, l6] (vL z :: st) hs Q) := e_lald ((cd274 781).trans rfl)
set_option maxRecDepth 20000 in
theorem x274_782 {sc : Scr} {d : Nat} {l0 l1 l2 l3 l4 l5 : Option V} {st : List V} {hs : HS} {Q : Rs → HS → Prop} {a : Int} : Ex sc d 274 782 [l0, l1, l2, l3, l4, l5, some (vI a)] st hs Q ↔ Ex sc d 274 784 [l0, l1, l2, l3, l4, l5, some (vI a)] (vI a :: st) hs Q := e_iload ((cd274 782).trans rfl) rfl
set_option maxRecDepth 20000 in
theorem x274_784 {sc : Scr} {d : Nat} {l0 l1 l2 l3 l4 l5 l6 : Option V} {st : List V} {hs : HS} {Q : Rs → HS → Prop} {a : Int} (ha : inR a) : Ex sc d 274 784 [l0, l1, l2, l3, l4, l5, l6] (vI a :: st) hs Q ↔ Ex sc d 274 785 [l0, l1, l2, l3, l4, l5, l6] (vL a :: st) hs Q := e_i2l ((cd274 784).trans rfl) ha
set_option maxRecDepth 20000 in
theorem x274_785 {sc : Scr} {d : Nat} {l0 l1 l2 l3 l4 l5 l6 : Option V} {st : List V} {hs : HS} {Q : Rs → HS → Prop} {a b : Int} (ha : inL a) (hb : inL b) : Ex sc d 274 785 [l0, l1, l2, l3, l4, l5, l6] (vL b :: vL a :: st) hs Q ↔ Ex sc d 274 786 [l0, l1, l2, l3, l4, l5, l6] (vI (if a < b then -1 else if a = b then 0 else 1) :: st) hs Q := e_lcmp ((cd274 785).trans rfl) ha hb
set_option maxRecDepth 20000 in
theorem x274_786 {sc : Scr} {d : Nat} {l0 l1 l2 l3 l4 l5 l6 : Option V} {st : List V} {hs : HS} {Q : Rs → HS → Prop} {a : Int} (ha : inR a) : Ex sc d 274 786 [l0, l1, l2, l3, l4, l5, l6] (vI a :: st) hs Q ↔ if a = 0 then Ex sc d 274 791 [l0, l1, l2, l3, l4, l5, l6] st hs Q else Ex sc d 274 789 [l0, l1, l2, l3, l4, l5, l6] st hs Q := (e_if ((cd274 786).trans rfl) ha).trans (by simp only [cmpI, decide_eq_true_eq])
set_option maxRecDepth 20000 in
theorem x274_789 {sc : Scr} {d : Nat} {l0 l1 l2 l3 l4 l5 l6 : Option V} {st : List V} {hs : HS} {Q : Rs → HS → Prop} : Ex sc d 274 789 [l0, l1, l2, l3, l4, l5, l6] st hs Q ↔ Ex sc d 274 790 [l0, l1, l2, l3, l4, l5, l6] (vI (0) :: st) hs Q := e_iconst ((cd274 789).trans rfl)
set_option maxRecDepth 20000 in
theorem x274_790 {sc : Scr} {d : Nat} {l0 l1 l2 l3 l4 l5 l6 : Option V} {hs : HS} {Q : Rs → HS → Prop} {a : Int} (ha : a = 0 ∨ a = 1) : Ex sc d 274 790 [l0, l1, l2, l3, l4, l5, l6] [vI a] hs Q ↔ Q (.inl (some (vI a))) hs := e_zret ((cd274 790).trans rfl) rfl ha
set_option maxRecDepth 20000 in
theorem x274_791 {sc : Scr} {d : Nat} {l0 l1 l2 l3 l4 l5 l6 : Option V} {st : List V} {hs : HS} {Q : Rs → HS → Prop} : Ex sc d 274 791 [l0, l1, l2, l3, l4, l5, l6] st hs Q ↔ Ex sc d 274 1660 [l0, l1, l2, l3, l4, l5, l6] st hs Q := e_goto ((cd274 791).trans rfl)
set_option maxRecDepth 20000 in
theorem x274_794 {sc : Scr} {d : Nat} {l0 l2 l3 l4 l5 l6 : Option V} {st : List V} {hs : HS} {Q : Rs → HS → Prop} {a : Nat} : Ex sc d 274 794 [l0, some (vR a), l2, l3, l4, l5, l6] st hs Q ↔ Ex sc d 274 795 [l0, some (vR a), l2, l3, l4, l5, l6] (vR a :: st) hs Q := e_aload ((cd274 794).trans rfl) rfl
set_option maxRecDepth 20000 in
theorem x274_795 {sc : Scr} {d : Nat} {l1 l2 l3 l4 l5 l6 : Option V} {st : List V} {hs : HS} {Q : Rs → HS → Prop} {a : Nat} : Ex sc d 274 795 [some (vS a), l1, l2, l3, l4, l5, l6] st hs Q ↔ Ex sc d 274 796 [some (vS a), l1, l2, l3, l4, l5, l6] (vS a :: st) hs Q := e_aloadS ((cd274 795).trans rfl) rfl
set_option maxRecDepth 20000 in
theorem x274_796 {sc : Scr} {d : Nat} {l0 l1 l2 l3 l5 l6 : Option V} {st : List V} {hs : HS} {Q : Rs → HS → Prop} {a : Int} : Ex sc d 274 796 [l0, l1, l2, l3, some (vI a), l5, l6] st hs Q ↔ Ex sc d 274 798 [l0, l1, l2, l3, some (vI a), l5, l6] (vI a :: st) hs Q := e_iload ((cd274 796).trans rfl) rfl
set_option maxRecDepth 20000 in
theorem x274_798 {sc : Scr} {d : Nat} {l0 l1 l2 l3 l4 l5 l6 : Option V} {st : List V} {hs : HS} {Q : Rs → HS → Prop} : Ex sc d 274 798 [l0, l1, l2, l3, l4, l5, l6] st hs Q ↔ Ex sc d 274 799 [l0, l1, l2, l3, l4, l5, l6] (vI (1) :: st) hs Q := e_iconst ((cd274 798).trans rfl)
set_option maxRecDepth 20000 in
theorem x274_799 {sc : Scr} {d : Nat} {l0 l1 l2 l3 l4 l5 l6 : Option V} {st : List V} {hs : HS} {Q : Rs → HS → Prop} {a b : Int} : Ex sc d 274 799 [l0, l1, l2, l3, l4, l5, l6] (vI b :: vI a :: st) hs Q ↔ Ex sc d 274 800 [l0, l1, l2, l3, l4, l5, l6] (vI (a + b) :: st) hs Q := e_iadd ((cd274 799).trans rfl)
set_option maxRecDepth 20000 in
theorem x274_800 {sc : Scr} {d : Nat} {l0 l1 l2 l3 l4 l5 l6 : Option V} {st : List V} {hs : HS} {Q : Rs → HS → Prop} {i : Int} (hq : 0 ≤ i ∧ i < (sc.1 : Int) ∧ sc.1 < 2147483648) : Ex sc d 274 800 [l0, l1, l2, l3, l4, l5, l6] (vI i :: vS 9 :: st) hs Q ↔ Ex sc d 274 801 [l0, l1, l2, l3, l4, l5, l6] (vI (sc.2 i.toNat) :: st) hs Q := e_ialdS ((cd274 800).trans rfl) hq
set_option maxRecDepth 20000 in
theorem x274_801 {sc : Scr} {d : Nat} {l1 l2 l3 l4 l5 l6 : Option V} {st : List V} {hs : HS} {Q : Rs → HS → Prop} {a : Nat} : Ex sc d 274 801 [some (vS a), l1, l2, l3, l4, l5, l6] st hs Q ↔ Ex sc d 274 802 [some (vS a), l1, l2, l3, l4, l5, l6] (vS a :: st) hs Q := e_aloadS ((cd274 801).trans rfl) rfl
set_option maxRecDepth 20000 in
theorem x274_802 {sc : Scr} {d : Nat} {l0 l1 l2 l3 l5 l6 : Option V} {st : List V} {hs : HS} {Q : Rs → HS → Prop} {a : Int} : Ex sc d 274 802 [l0, l1, l2, l3, some (vI a), l5, l6] st hs Q ↔ Ex sc d 274 804 [l0, l1, l2, l3, some (vI a), l5, l6] (vI a :: st) hs Q := e_iload ((cd274 802).trans rfl) rfl
set_option maxRecDepth 20000 in
theorem x274_804 {sc : Scr} {d : Nat} {l0 l1 l2 l3 l4 l5 l6 : Option V} {st : List V} {hs : HS} {Q : Rs → HS → Prop} : Ex sc d 274 804 [l0, l1, l2, l3, l4, l5, l6] st hs Q ↔ Ex sc d 274 805 [l0, l1, l2, l3, l4, l5, l6] (vI (2) :: st) hs Q := e_iconst ((cd274 804).trans rfl)
set_option maxRecDepth 20000 in
theorem x274_805 {sc : Scr} {d : Nat} {l0 l1 l2 l3 l4 l5 l6 : Option V} {st : List V} {hs : HS} {Q : Rs → HS → Prop} {a b : Int} : Ex sc d 274 805 [l0, l1, l2, l3, l4, l5, l6] (vI b :: vI a :: st) hs Q ↔ Ex sc d 274 806 [l0, l1, l2, l3, l4, l5, l6] (vI (a + b) :: st) hs Q := e_iadd ((cd274 805).trans rfl)
set_option maxRecDepth 20000 in
theorem x274_806 {sc : Scr} {d : Nat} {l0 l1 l2 l3 l4 l5 l6 : Option V} {st : List V} {hs : HS} {Q : Rs → HS → Prop} {i : Int} (hq : 0 ≤ i ∧ i < (sc.1 : Int) ∧ sc.1 < 2147483648) : Ex sc d 274 806 [l0, l1, l2, l3, l4, l5, l6] (vI i :: vS 9 :: st) hs Q ↔ Ex sc d 274 807 [l0, l1, l2, l3, l4, l5, l6] (vI (sc.2 i.toNat) :: st) hs Q := e_ialdS ((cd274 806).trans rfl) hq
set_option maxRecDepth 20000 in
theorem x274_807 {sc : Scr} {d : Nat} {l1 l2 l3 l4 l5 l6 : Option V} {st : List V} {hs : HS} {Q : Rs → HS → Prop} {a : Nat} : Ex sc d 274 807 [some (vS a), l1, l2, l3, l4, l5, l6] st hs Q ↔ Ex sc d 274 808 [some (vS a), l1, l2, l3, l4, l5, l6] (vS a :: st) hs Q := e_aloadS ((cd274 807).trans rfl) rfl
set_option maxRecDepth 20000 in
theorem x274_808 {sc : Scr} {d : Nat} {l0 l1 l2 l3 l5 l6 : Option V} {st : List V} {hs : HS} {Q : Rs → HS → Prop} {a : Int} : Ex sc d 274 808 [l0, l1, l2, l3, some (vI a), l5, l6] st hs Q ↔ Ex sc d 274 810 [l0, l1, l2, l3, some (vI a), l5, l6] (vI a :: st) hs Q := e_iload ((cd274 808).trans rfl) rfl
set_option maxRecDepth 20000 in
theorem x274_810 {sc : Scr} {d : Nat} {l0 l1 l2 l3 l4 l5 l6 : Option V} {st : List V} {hs : HS} {Q : Rs → HS → Prop} : Ex sc d 274 810 [l0, l1, l2, l3, l4, l5, l6] st hs Q ↔ Ex sc d 274 811 [l0, l1, l2, l3, l4, l5, l6] (vI (3) :: st) hs Q := e_iconst ((cd274 810).trans rfl)
set_option maxRecDepth 20000 in
theorem x274_811 {sc : Scr} {d : Nat} {l0 l1 l2 l3 l4 l5 l6 : Option V} {st : List V} {hs : HS} {Q : Rs → HS → Prop} {a b : Int} : Ex sc d 274 811 [l0, l1, l2, l3, l4, l5, l6] (vI b :: vI a :: st) hs Q ↔ Ex sc d 274 812 [l0, l1, l2, l3, l4, l5, l6] (vI (a + b) :: st) hs Q := e_iadd ((cd274 811).trans rfl)
set_option maxRecDepth 20000 in
theorem x274_812 {sc : Scr} {d : Nat} {l0 l1 l2 l3 l4 l5 l6 : Option V} {st : List V} {hs : HS} {Q : Rs → HS → Prop} {i : Int} (hq : 0 ≤ i ∧ i < (sc.1 : Int) ∧ sc.1 < 2147483648) : Ex sc d 274 812 [l0, l1, l2, l3, l4, l5, l6] (vI i :: vS 9 :: st) hs Q ↔ Ex sc d 274 813 [l0, l1, l2, l3, l4, l5, l6] (vI (sc.2 i.toNat) :: st) hs Q := e_ialdS ((cd274 812).trans rfl) hq
set_option maxRecDepth 20000 in
theorem x274_813 {sc : Scr} {d : Nat} {l0 l1 l2 l4 l5 l6 : Option V} {st : List V} {hs : HS} {Q : Rs → HS → Prop} {a : Nat} : Ex sc d 274 813 [l0, l1, l2, some (vR a), l4, l5, l6] st hs Q ↔ Ex sc d 274 814 [l0, l1, l2, some (vR a), l4, l5, l6] (vR a :: st) hs Q := e_aload ((cd274 813).trans rfl) rfl
set_option maxRecDepth 20000 in
theorem x274_814 {sc : Scr} {d : Nat} {l0 l1 l2 l3 l4 l5 l6 : Option V} {st : List V} {hs : HS} {Q : Rs → HS → Prop} {a0 : Nat} {a1 : Int} {a2 : Int} {a3 : Int} {a4 : Nat} (hd : 0 < d) (hc : catS st ≤ 8) : Ex sc d 274 814 [l0, l1, l2, l3, l4, l5, l6] (vR a4 :: vI a3 :: vI a2 :: vI a1 :: vR a0 :: st) hs Q ↔ Ex sc (d - 1) 121 0 [some (vR a0), some (vI a1), some (vI a2), some (vI a3), some (vR a4), none] [] hs (Kc sc d 274 814 817 [l0, l1, l2, l3, l4, l5, l6] st Q) := e_callS ((cd274 814).trans rfl) (by simp only [List.length_cons]; omega) (by decide) rfl rfl rfl hc rfl hd
set_option maxRecDepth 20000 in
theorem x274_817 {sc : Scr} {d : Nat} {l0 l1 l2 l3 l4 l5 l6 : Option V} {st : List V} {hs : HS} {Q : Rs → HS → Prop} {a : Int} (hn : notL l4 = true) : Ex sc d 274 817 [l0, l1, l2, l3, l4, l5, l6] (vI a :: st) hs Q ↔ Ex sc d 274 819 [l0, l1, l2, l3, l4, some (vI a), l6] st hs Q := e_istore ((cd274 817).trans rfl) (by show 5 < 7; decide) (noL_of (j := 4) rfl hn) rfl
set_option maxRecDepth 20000 in
theorem x274_819 {sc : Scr} {d : Nat} {l0 l1 l3 l4 l5 l6 : Option V} {st : List V} {hs : HS} {Q : Rs → HS → Prop} {a : Nat} : Ex sc d 274 819 [l0, l1, some (vR a), l3, l4, l5, l6] st hs Q ↔ Ex sc d 274 820 [l0, l1, some (vR a), l3, l4, l5, l6] (vR a :: st) hs Q := e_aload ((cd274 819).trans rfl) rfl
set_option maxRecDepth 20000 in
theorem x274_820 {sc : Scr} {d : Nat} {l1 l2 l3 l4 l5 l6 : Option V} {st : List V} {hs : HS} {Q : Rs → HS → Prop} {a : Nat} : Ex sc d 274 820 [some (vS a), l1, l2, l3, l4, l5, l6] st hs Q ↔ Ex sc d 274 821 [some (vS a), l1, l2, l3, l4, l5, l6] (vS a :: st) hs Q := e_aloadS ((cd274 820).trans rfl) rfl
set_option maxRecDepth 20000 in
theorem x274_821 {sc : Scr} {d : Nat} {l0 l1 l2 l3 l5 l6 : Option V} {st : List V} {hs : HS} {Q : Rs → HS → Prop} {a : Int} : Ex sc d 274 821 [l0, l1, l2, l3, some (vI a), l5, l6] st hs Q ↔ Ex sc d 274 823 [l0, l1, l2, l3, some (vI a), l5, l6] (vI a :: st) hs Q := e_iload ((cd274 821).trans rfl) rfl
set_option maxRecDepth 20000 in
theorem x274_823 {sc : Scr} {d : Nat} {l0 l1 l2 l3 l4 l5 l6 : Option V} {st : List V} {hs : HS} {Q : Rs → HS → Prop} : Ex sc d 274 823 [l0, l1, l2, l3, l4, l5, l6] st hs Q ↔ Ex sc d 274 824 [l0, l1, l2, l3, l4, l5, l6] (vI (1) :: st) hs Q := e_iconst ((cd274 823).trans rfl)
set_option maxRecDepth 20000 in
theorem x274_824 {sc : Scr} {d : Nat} {l0 l1 l2 l3 l4 l5 l6 : Option V} {st : List V} {hs : HS} {Q : Rs → HS → Prop} {a b : Int} : Ex sc d 274 824 [l0, l1, l2, l3, l4, l5, l6] (vI b :: vI a :: st) hs Q ↔ Ex sc d 274 825 [l0, l1, l2, l3, l4, l5, l6] (vI (a + b) :: st) hs Q := e_iadd ((cd274 824).trans rfl)
set_option maxRecDepth 20000 in
theorem x274_825 {sc : Scr} {d : Nat} {l0 l1 l2 l3 l4 l5 l6 : Option V} {st : List V} {hs : HS} {Q : Rs → HS → Prop} {i : Int} (hq : 0 ≤ i ∧ i < (sc.1 : Int) ∧ sc.1 < 2147483648) : Ex sc d 274 825 [l0, l1, l2, l3, l4, l5, l6] (vI i :: vS 9 :: st) hs Q ↔ Ex sc d 274 826 [l0, l1, l2, l3, l4, l5, l6] (vI (sc.2 i.toNat) :: st) hs Q := e_ialdS ((cd274 825).trans rfl) hq
set_option maxRecDepth 20000 in
theorem x274_826 {sc : Scr} {d : Nat} {l1 l2 l3 l4 l5 l6 : Option V} {st : List V} {hs : HS} {Q : Rs → HS → Prop} {a : Nat} : Ex sc d 274 826 [some (vS a), l1, l2, l3, l4, l5, l6] st hs Q ↔ Ex sc d 274 827 [some (vS a), l1, l2, l3, l4, l5, l6] (vS a :: st) hs Q := e_aloadS ((cd274 826).trans rfl) rfl
set_option maxRecDepth 20000 in
theorem x274_827 {sc : Scr} {d : Nat} {l0 l1 l2 l3 l5 l6 : Option V} {st : List V} {hs : HS} {Q : Rs → HS → Prop} {a : Int} : Ex sc d 274 827 [l0, l1, l2, l3, some (vI a), l5, l6] st hs Q ↔ Ex sc d 274 829 [l0, l1, l2, l3, some (vI a), l5, l6] (vI a :: st) hs Q := e_iload ((cd274 827).trans rfl) rfl
set_option maxRecDepth 20000 in
theorem x274_829 {sc : Scr} {d : Nat} {l0 l1 l2 l3 l4 l5 l6 : Option V} {st : List V} {hs : HS} {Q : Rs → HS → Prop} : Ex sc d 274 829 [l0, l1, l2, l3, l4, l5, l6] st hs Q ↔ Ex sc d 274 830 [l0, l1, l2, l3, l4, l5, l6] (vI (2) :: st) hs Q := e_iconst ((cd274 829).trans rfl)
set_option maxRecDepth 20000 in
theorem x274_830 {sc : Scr} {d : Nat} {l0 l1 l2 l3 l4 l5 l6 : Option V} {st : List V} {hs : HS} {Q : Rs → HS → Prop} {a b : Int} : Ex sc d 274 830 [l0, l1, l2, l3, l4, l5, l6] (vI b :: vI a :: st) hs Q ↔ Ex sc d 274 831 [l0, l1, l2, l3, l4, l5, l6] (vI (a + b) :: st) hs Q := e_iadd ((cd274 830).trans rfl)
set_option maxRecDepth 20000 in
theorem x274_831 {sc : Scr} {d : Nat} {l0 l1 l2 l3 l4 l5 l6 : Option V} {st : List V} {hs : HS} {Q : Rs → HS → Prop} {i : Int} (hq : 0 ≤ i ∧ i < (sc.1 : Int) ∧ sc.1 < 2147483648) : Ex sc d 274 831 [l0, l1, l2, l3, l4, l5, l6] (vI i :: vS 9 :: st) hs Q ↔ Ex sc d 274 832 [l0, l1, l2, l3, l4, l5, l6] (vI (sc.2 i.toNat) :: st) hs Q := e_ialdS ((cd274 831).trans rfl) hq
set_option maxRecDepth 20000 in
theorem x274_832 {sc : Scr} {d : Nat} {l1 l2 l3 l4 l5 l6 : Option V} {st : List V} {hs : HS} {Q : Rs → HS → Prop} {a : Nat} : Ex sc d 274 832 [some (vS a), l1, l2, l3, l4, l5, l6] st hs Q ↔ Ex sc d 274 833 [some (vS a), l1, l2, l3, l4, l5, l6] (vS a :: st) hs Q := e_aloadS ((cd274 832).trans rfl) rfl
set_option maxRecDepth 20000 in
theorem x274_833 {sc : Scr} {d : Nat} {l0 l1 l2 l3 l5 l6 : Option V} {st : List V} {hs : HS} {Q : Rs → HS → Prop} {a : Int} : Ex sc d 274 833 [l0, l1, l2, l3, some (vI a), l5, l6] st hs Q ↔ Ex sc d 274 835 [l0, l1, l2, l3, some (vI a), l5, l6] (vI a :: st) hs Q := e_iload ((cd274 833).trans rfl) rfl
set_option maxRecDepth 20000 in
theorem x274_835 {sc : Scr} {d : Nat} {l0 l1 l2 l3 l4 l5 l6 : Option V} {st : List V} {hs : HS} {Q : Rs → HS → Prop} : Ex sc d 274 835 [l0, l1, l2, l3, l4, l5, l6] st hs Q ↔ Ex sc d 274 836 [l0, l1, l2, l3, l4, l5, l6] (vI (3) :: st) hs Q := e_iconst ((cd274 835).trans rfl)
set_option maxRecDepth 20000 in
theorem x274_836 {sc : Scr} {d : Nat} {l0 l1 l2 l3 l4 l5 l6 : Option V} {st : List V} {hs : HS} {Q : Rs → HS → Prop} {a b : Int} : Ex sc d 274 836 [l0, l1, l2, l3, l4, l5, l6] (vI b :: vI a :: st) hs Q ↔ Ex sc d 274 837 [l0, l1, l2, l3, l4, l5, l6] (vI (a + b) :: st) hs Q := e_iadd ((cd274 836).trans rfl)
set_option maxRecDepth 20000 in
theorem x274_837 {sc : Scr} {d : Nat} {l0 l1 l2 l3 l4 l5 l6 : Option V} {st : List V} {hs : HS} {Q : Rs → HS → Prop} {i : Int} (hq : 0 ≤ i ∧ i < (sc.1 : Int) ∧ sc.1 < 2147483648) : Ex sc d 274 837 [l0, l1, l2, l3, l4, l5, l6] (vI i :: vS 9 :: st) hs Q ↔ Ex sc d 274 838 [l0, l1, l2, l3, l4, l5, l6] (vI (sc.2 i.toNat) :: st) hs Q := e_ialdS ((cd274 837).trans rfl) hq
set_option maxRecDepth 20000 in
theorem x274_838 {sc : Scr} {d : Nat} {l0 l1 l2 l3 l4 l5 l6 : Option V} {st : List V} {hs : HS} {Q : Rs → HS → Prop} {a0 : Int} {a1 : Int} {a2 : Int} {q : Nat} (hd : 0 < d) (hc : catS st ≤ 8) (ho : isObj hs 12 (vR q) = true) : Ex sc d 274 838 [l0, l1, l2, l3, l4, l5, l6] (vI a2 :: vI a1 :: vI a0 :: vR q :: st) hs Q ↔ Ex sc (d - 1) 251 0 [some (vR q), some (vI a0), some (vI a1), some (vI a2)] [] hs (Kc sc d 274 838 841 [l0, l1, l2, l3, l4, l5, l6] st Q) := e_callV ((cd274 838).trans rfl) ho (by simp only [List.length_cons]; omega) (by decide) rfl rfl rfl hc rfl hd
set_option maxRecDepth 20000 in
theorem x274_841 {sc : Scr} {d : Nat} {l0 l1 l2 l3 l4 l5 l6 : Option V} {st : List V} {hs : HS} {Q : Rs → HS → Prop} {a : Int} (hn : notL l5 = true) : Ex sc d 274 841 [l0, l1, l2, l3, l4, l5, l6] (vI a :: st) hs Q ↔ Ex sc d 274 843 [l0, l1, l2, l3, l4, l5, some (vI a)] st hs Q := e_istore ((cd274 841).trans rfl) (by show 6 < 7; decide) (noL_of (j := 5) rfl hn) rfl
set_option maxRecDepth 20000 in
theorem x274_843 {sc : Scr} {d : Nat} {l0 l1 l3 l4 l5 l6 : Option V} {st : List V} {hs : HS} {Q : Rs → HS → Prop} {a : Nat} : Ex sc d 274 843 [l0, l1, some (vR a), l3, l4, l5, l6] st hs Q ↔ Ex sc d 274 844 [l0, l1, some (vR a), l3, l4, l5, l6] (vR a :: st) hs Q := e_aload ((cd274 843).trans rfl) rfl
set_option maxRecDepth 20000 in
theorem x274_844 {sc : Scr} {d : Nat} {l0 l1 l2 l3 l4 l5 l6 : Option V} {st : List V} {hs : HS} {Q : Rs → HS → Prop} {q : Nat} (hd : 0 < d) (hc : catS st ≤ 8) (ho : isObj hs 12 (vR q) = true) : Ex sc d 274 844 [l0, l1, l2, l3, l4, l5, l6] (vR q :: st) hs Q ↔ Ex sc (d - 1) 177 0 [some (vR q)] [] hs (Kc sc d 274 844 847 [l0, l1, l2, l3, l4, l5, l6] st Q) := e_callV ((cd274 844).trans rfl) ho (by simp only [List.length_cons]; omega) (by decide) rfl rfl rfl hc rfl hd
set_option maxRecDepth 20000 in
theorem x274_847 {sc : Scr} {d : Nat} {l0 l1 l2 l3 l4 l6 : Option V} {st : List V} {hs : HS} {Q : Rs → HS → Prop} {a : Int} : Ex sc d 274 847 [l0, l1, l2, l3, l4, some (vI a), l6] st hs Q ↔ Ex sc d 274 849 [l0, l1, l2, l3, l4, some (vI a), l6] (vI a :: st) hs Q := e_iload ((cd274 847).trans rfl) rfl
set_option maxRecDepth 20000 in
theorem x274_849 {sc : Scr} {d : Nat} {l0 l1 l2 l3 l4 l5 l6 : Option V} {st : List V} {hs : HS} {Q : Rs → HS → Prop} {a b : Int} (ha : inR a) (hb : inR b) : Ex sc d 274 849 [l0, l1, l2, l3, l4, l5, l6] (vI b :: vI a :: st) hs Q ↔ if a = b then Ex sc d 274 854 [l0, l1, l2, l3, l4, l5, l6] st hs Q else Ex sc d 274 852 [l0, l1, l2, l3, l4, l5, l6] st hs Q := (e_icmp ((cd274 849).trans rfl) ha hb).trans (by simp only [cmpI, decide_eq_true_eq])
set_option maxRecDepth 20000 in
theorem x274_852 {sc : Scr} {d : Nat} {l0 l1 l2 l3 l4 l5 l6 : Option V} {st : List V} {hs : HS} {Q : Rs → HS → Prop} : Ex sc d 274 852 [l0, l1, l2, l3, l4, l5, l6] st hs Q ↔ Ex sc d 274 853 [l0, l1, l2, l3, l4, l5, l6] (vI (0) :: st) hs Q := e_iconst ((cd274 852).trans rfl)
set_option maxRecDepth 20000 in
theorem x274_853 {sc : Scr} {d : Nat} {l0 l1 l2 l3 l4 l5 l6 : Option V} {hs : HS} {Q : Rs → HS → Prop} {a : Int} (ha : a = 0 ∨ a = 1) : Ex sc d 274 853 [l0, l1, l2, l3, l4, l5, l6] [vI a] hs Q ↔ Q (.inl (some (vI a))) hs := e_zret ((cd274 853).trans rfl) rfl ha
set_option maxRecDepth 20000 in
theorem x274_854 {sc : Scr} {d : Nat} {l0 l1 l2 l3 l4 l6 : Option V} {st : List V} {hs : HS} {Q : Rs → HS → Prop} {a : Int} : Ex sc d 274 854 [l0, l1, l2, l3, l4, some (vI a), l6] st hs Q ↔ Ex sc d 274 856 [l0, l1, l2, l3, l4, some (vI a), l6] (vI a :: st) hs Q := e_iload ((cd274 854).trans rfl) rfl
set_option maxRecDepth 20000 in
theorem x274_856 {sc : Scr} {d : Nat} {l0 l1 l2 l3 l4 l5 l6 : Option V} {st : List V} {hs : HS} {Q : Rs → HS → Prop} {a : Int} (ha : inR a) : Ex sc d 274 856 [l0, l1, l2, l3, l4, l5, l6] (vI a :: st) hs Q ↔ if ¬ a = 0 then Ex sc d 274 871 [l0, l1, l2, l3, l4, l5, l6] st hs Q else Ex sc d 274 859 [l0, l1, l2, l3, l4, l5, l6] st hs Q := (e_if ((cd274 856).trans rfl) ha).trans (by simp only [cmpI, decide_eq_true_eq])
set_option maxRecDepth 20000 in
theorem x274_859 {sc : Scr} {d : Nat} {l0 l1 l2 l4 l5 l6 : Option V} {st : List V} {hs : HS} {Q : Rs → HS → Prop} {a : Nat} : Ex sc d 274 859 [l0, l1, l2, some (vR a), l4, l5, l6] st hs Q ↔ Ex sc d 274 860 [l0, l1, l2, some (vR a), l4, l5, l6] (vR a :: st) hs Q := e_aload ((cd274 859).trans rfl) rfl
set_option maxRecDepth 20000 in
theorem x274_860 {sc : Scr} {d : Nat} {l0 l1 l2 l3 l4 l5 l6 : Option V} {st : List V} {hs : HS} {Q : Rs → HS → Prop} : Ex sc d 274 860 [l0, l1, l2, l3, l4, l5, l6] st hs Q ↔ Ex sc d 274 861 [l0, l1, l2, l3, l4, l5, l6] (vI (0) :: st) hs Q := e_iconst ((cd274 860).trans rfl)
set_option maxRecDepth 20000 in
theorem x274_861 {sc : Scr} {d : Nat} {l0 l1 l2 l3 l4 l5 l6 : Option V} {st : List V} {hs : HS} {Q : Rs → HS → Prop} {a : Nat} {i : Int} : Ex sc d 274 861 [l0, l1, l2, l3, l4, l5, l6] (vI i :: vR a :: st) hs Q ↔ Ra hs 2 a i (fun z => Ex sc d 274 862 [l0, l1, l2, l3, l4, l5, l6] (vL z :: st) hs Q) := e_lald ((cd274 861).trans rfl)
set_option maxRecDepth 20000 in
theorem x274_862 {sc : Scr} {d : Nat} {l0 l1 l2 l3 l4 l5 : Option V} {st : List V} {hs : HS} {Q : Rs → HS → Prop} {a : Int} : Ex sc d 274 862 [l0, l1, l2, l3, l4, l5, some (vI a)] st hs Q ↔ Ex sc d 274 864 [l0, l1, l2, l3, l4, l5, some (vI a)] (vI a :: st) hs Q := e_iload ((cd274 862).trans rfl) rfl
set_option maxRecDepth 20000 in
theorem x274_864 {sc : Scr} {d : Nat} {l0 l1 l2 l3 l4 l5 l6 : Option V} {st : List V} {hs : HS} {Q : Rs → HS → Prop} {a : Int} (ha : inR a) : Ex sc d 274 864 [l0, l1, l2, l3, l4, l5, l6] (vI a :: st) hs Q ↔ Ex sc d 274 865 [l0, l1, l2, l3, l4, l5, l6] (vL a :: st) hs Q := e_i2l ((cd274 864).trans rfl) ha
set_option maxRecDepth 20000 in
theorem x274_865 {sc : Scr} {d : Nat} {l0 l1 l2 l3 l4 l5 l6 : Option V} {st : List V} {hs : HS} {Q : Rs → HS → Prop} {a b : Int} (ha : inL a) (hb : inL b) : Ex sc d 274 865 [l0, l1, l2, l3, l4, l5, l6] (vL b :: vL a :: st) hs Q ↔ Ex sc d 274 866 [l0, l1, l2, l3, l4, l5, l6] (vI (if a < b then -1 else if a = b then 0 else 1) :: st) hs Q := e_lcmp ((cd274 865).trans rfl) ha hb
set_option maxRecDepth 20000 in
theorem x274_866 {sc : Scr} {d : Nat} {l0 l1 l2 l3 l4 l5 l6 : Option V} {st : List V} {hs : HS} {Q : Rs → HS → Prop} {a : Int} (ha : inR a) : Ex sc d 274 866 [l0, l1, l2, l3, l4, l5, l6] (vI a :: st) hs Q ↔ if a = 0 then Ex sc d 274 871 [l0, l1, l2, l3, l4, l5, l6] st hs Q else Ex sc d 274 869 [l0, l1, l2, l3, l4, l5, l6] st hs Q := (e_if ((cd274 866).trans rfl) ha).trans (by simp only [cmpI, decide_eq_true_eq])
set_option maxRecDepth 20000 in
theorem x274_869 {sc : Scr} {d : Nat} {l0 l1 l2 l3 l4 l5 l6 : Option V} {st : List V} {hs : HS} {Q : Rs → HS → Prop} : Ex sc d 274 869 [l0, l1, l2, l3, l4, l5, l6] st hs Q ↔ Ex sc d 274 870 [l0, l1, l2, l3, l4, l5, l6] (vI (0) :: st) hs Q := e_iconst ((cd274 869).trans rfl)
set_option maxRecDepth 20000 in
theorem x274_870 {sc : Scr} {d : Nat} {l0 l1 l2 l3 l4 l5 l6 : Option V} {hs : HS} {Q : Rs → HS → Prop} {a : Int} (ha : a = 0 ∨ a = 1) : Ex sc d 274 870 [l0, l1, l2, l3, l4, l5, l6] [vI a] hs Q ↔ Q (.inl (some (vI a))) hs := e_zret ((cd274 870).trans rfl) rfl ha
set_option maxRecDepth 20000 in
theorem x274_871 {sc : Scr} {d : Nat} {l0 l1 l2 l3 l4 l5 l6 : Option V} {st : List V} {hs : HS} {Q : Rs → HS → Prop} : Ex sc d 274 871 [l0, l1, l2, l3, l4, l5, l6] st hs Q ↔ Ex sc d 274 1660 [l0, l1, l2, l3, l4, l5, l6] st hs Q := e_goto ((cd274 871).trans rfl)
set_option maxRecDepth 20000 in
theorem x274_874 {sc : Scr} {d : Nat} {l0 l2 l3 l4 l5 l6 : Option V} {st : List V} {hs : HS} {Q : Rs → HS → Prop} {a : Nat} : Ex sc d 274 874 [l0, some (vR a), l2, l3, l4, l5, l6] st hs Q ↔ Ex sc d 274 875 [l0, some (vR a), l2, l3, l4, l5, l6] (vR a :: st) hs Q := e_aload ((cd274 874).trans rfl) rfl
set_option maxRecDepth 20000 in
theorem x274_875 {sc : Scr} {d : Nat} {l1 l2 l3 l4 l5 l6 : Option V} {st : List V} {hs : HS} {Q : Rs → HS → Prop} {a : Nat} : Ex sc d 274 875 [some (vS a), l1, l2, l3, l4, l5, l6] st hs Q ↔ Ex sc d 274 876 [some (vS a), l1, l2, l3, l4, l5, l6] (vS a :: st) hs Q := e_aloadS ((cd274 875).trans rfl) rfl
set_option maxRecDepth 20000 in
theorem x274_876 {sc : Scr} {d : Nat} {l0 l1 l2 l3 l5 l6 : Option V} {st : List V} {hs : HS} {Q : Rs → HS → Prop} {a : Int} : Ex sc d 274 876 [l0, l1, l2, l3, some (vI a), l5, l6] st hs Q ↔ Ex sc d 274 878 [l0, l1, l2, l3, some (vI a), l5, l6] (vI a :: st) hs Q := e_iload ((cd274 876).trans rfl) rfl
set_option maxRecDepth 20000 in
theorem x274_878 {sc : Scr} {d : Nat} {l0 l1 l2 l3 l4 l5 l6 : Option V} {st : List V} {hs : HS} {Q : Rs → HS → Prop} : Ex sc d 274 878 [l0, l1, l2, l3, l4, l5, l6] st hs Q ↔ Ex sc d 274 879 [l0, l1, l2, l3, l4, l5, l6] (vI (1) :: st) hs Q := e_iconst ((cd274 878).trans rfl)
set_option maxRecDepth 20000 in
theorem x274_879 {sc : Scr} {d : Nat} {l0 l1 l2 l3 l4 l5 l6 : Option V} {st : List V} {hs : HS} {Q : Rs → HS → Prop} {a b : Int} : Ex sc d 274 879 [l0, l1, l2, l3, l4, l5, l6] (vI b :: vI a :: st) hs Q ↔ Ex sc d 274 880 [l0, l1, l2, l3, l4, l5, l6] (vI (a + b) :: st) hs Q := e_iadd ((cd274 879).trans rfl)
set_option maxRecDepth 20000 in
theorem x274_880 {sc : Scr} {d : Nat} {l0 l1 l2 l3 l4 l5 l6 : Option V} {st : List V} {hs : HS} {Q : Rs → HS → Prop} {i : Int} (hq : 0 ≤ i ∧ i < (sc.1 : Int) ∧ sc.1 < 2147483648) : Ex sc d 274 880 [l0, l1, l2, l3, l4, l5, l6] (vI i :: vS 9 :: st) hs Q ↔ Ex sc d 274 881 [l0, l1, l2, l3, l4, l5, l6] (vI (sc.2 i.toNat) :: st) hs Q := e_ialdS ((cd274 880).trans rfl) hq
set_option maxRecDepth 20000 in
theorem x274_881 {sc : Scr} {d : Nat} {l1 l2 l3 l4 l5 l6 : Option V} {st : List V} {hs : HS} {Q : Rs → HS → Prop} {a : Nat} : Ex sc d 274 881 [some (vS a), l1, l2, l3, l4, l5, l6] st hs Q ↔ Ex sc d 274 882 [some (vS a), l1, l2, l3, l4, l5, l6] (vS a :: st) hs Q := e_aloadS ((cd274 881).trans rfl) rfl
set_option maxRecDepth 20000 in
theorem x274_882 {sc : Scr} {d : Nat} {l0 l1 l2 l3 l5 l6 : Option V} {st : List V} {hs : HS} {Q : Rs → HS → Prop} {a : Int} : Ex sc d 274 882 [l0, l1, l2, l3, some (vI a), l5, l6] st hs Q ↔ Ex sc d 274 884 [l0, l1, l2, l3, some (vI a), l5, l6] (vI a :: st) hs Q := e_iload ((cd274 882).trans rfl) rfl
set_option maxRecDepth 20000 in
theorem x274_884 {sc : Scr} {d : Nat} {l0 l1 l2 l3 l4 l5 l6 : Option V} {st : List V} {hs : HS} {Q : Rs → HS → Prop} : Ex sc d 274 884 [l0, l1, l2, l3, l4, l5, l6] st hs Q ↔ Ex sc d 274 885 [l0, l1, l2, l3, l4, l5, l6] (vI (2) :: st) hs Q := e_iconst ((cd274 884).trans rfl)
set_option maxRecDepth 20000 in
theorem x274_885 {sc : Scr} {d : Nat} {l0 l1 l2 l3 l4 l5 l6 : Option V} {st : List V} {hs : HS} {Q : Rs → HS → Prop} {a b : Int} : Ex sc d 274 885 [l0, l1, l2, l3, l4, l5, l6] (vI b :: vI a :: st) hs Q ↔ Ex sc d 274 886 [l0, l1, l2, l3, l4, l5, l6] (vI (a + b) :: st) hs Q := e_iadd ((cd274 885).trans rfl)
set_option maxRecDepth 20000 in
theorem x274_886 {sc : Scr} {d : Nat} {l0 l1 l2 l3 l4 l5 l6 : Option V} {st : List V} {hs : HS} {Q : Rs → HS → Prop} {i : Int} (hq : 0 ≤ i ∧ i < (sc.1 : Int) ∧ sc.1 < 2147483648) : Ex sc d 274 886 [l0, l1, l2, l3, l4, l5, l6] (vI i :: vS 9 :: st) hs Q ↔ Ex sc d 274 887 [l0, l1, l2, l3, l4, l5, l6] (vI (sc.2 i.toNat) :: st) hs Q := e_ialdS ((cd274 886).trans rfl) hq
set_option maxRecDepth 20000 in
theorem x274_887 {sc : Scr} {d : Nat} {l0 l1 l2 l4 l5 l6 : Option V} {st : List V} {hs : HS} {Q : Rs → HS → Prop} {a : Nat} : Ex sc d 274 887 [l0, l1, l2, some (vR a), l4, l5, l6] st hs Q ↔ Ex sc d 274 888 [l0, l1, l2, some (vR a), l4, l5, l6] (vR a :: st) hs Q := e_aload ((cd274 887).trans rfl) rfl
set_option maxRecDepth 20000 in
theorem x274_888 {sc : Scr} {d : Nat} {l0 l1 l2 l3 l4 l5 l6 : Option V} {st : List V} {hs : HS} {Q : Rs → HS → Prop} {a0 : Nat} {a1 : Int} {a2 : Int} {a3 : Nat} (hd : 0 < d) (hc : catS st ≤ 8) : Ex sc d 274 888 [l0, l1, l2, l3, l4, l5, l6] (vR a3 :: vI a2 :: vI a1 :: vR a0 :: st) hs Q ↔ Ex sc (d - 1) 124 0 [some (vR a0), some (vI a1), some (vI a2), some (vR a3), none] [] hs (Kc sc d 274 888 891 [l0, l1, l2, l3, l4, l5, l6] st Q) := e_callS ((cd274 888).trans rfl) (by simp only [List.length_cons]; omega) (by decide) rfl rfl rfl hc rfl hd
set_option maxRecDepth 20000 in
theorem x274_891 {sc : Scr} {d : Nat} {l0 l1 l2 l3 l4 l5 l6 : Option V} {st : List V} {hs : HS} {Q : Rs → HS → Prop} {a : Int} (hn : notL l4 = true) : Ex sc d 274 891 [l0, l1, l2, l3, l4, l5, l6] (vI a :: st) hs Q ↔ Ex sc d 274 893 [l0, l1, l2, l3, l4, some (vI a), l6] st hs Q := e_istore ((cd274 891).trans rfl) (by show 5 < 7; decide) (noL_of (j := 4) rfl hn) rfl
set_option maxRecDepth 20000 in
theorem x274_893 {sc : Scr} {d : Nat} {l0 l1 l3 l4 l5 l6 : Option V} {st : List V} {hs : HS} {Q : Rs → HS → Prop} {a : Nat} : Ex sc d 274 893 [l0, l1, some (vR a), l3, l4, l5, l6] st hs Q ↔ Ex sc d 274 894 [l0, l1, some (vR a), l3, l4, l5, l6] (vR a :: st) hs Q := e_aload ((cd274 893).trans rfl) rfl
set_option maxRecDepth 20000 in
theorem x274_894 {sc : Scr} {d : Nat} {l1 l2 l3 l4 l5 l6 : Option V} {st : List V} {hs : HS} {Q : Rs → HS → Prop} {a : Nat} : Ex sc d 274 894 [some (vS a), l1, l2, l3, l4, l5, l6] st hs Q ↔ Ex sc d 274 895 [some (vS a), l1, l2, l3, l4, l5, l6] (vS a :: st) hs Q := e_aloadS ((cd274 894).trans rfl) rfl
set_option maxRecDepth 20000 in
theorem x274_895 {sc : Scr} {d : Nat} {l0 l1 l2 l3 l5 l6 : Option V} {st : List V} {hs : HS} {Q : Rs → HS → Prop} {a : Int} : Ex sc d 274 895 [l0, l1, l2, l3, some (vI a), l5, l6] st hs Q ↔ Ex sc d 274 897 [l0, l1, l2, l3, some (vI a), l5, l6] (vI a :: st) hs Q := e_iload ((cd274 895).trans rfl) rfl
set_option maxRecDepth 20000 in
theorem x274_897 {sc : Scr} {d : Nat} {l0 l1 l2 l3 l4 l5 l6 : Option V} {st : List V} {hs : HS} {Q : Rs → HS → Prop} : Ex sc d 274 897 [l0, l1, l2, l3, l4, l5, l6] st hs Q ↔ Ex sc d 274 898 [l0, l1, l2, l3, l4, l5, l6] (vI (1) :: st) hs Q := e_iconst ((cd274 897).trans rfl)
set_option maxRecDepth 20000 in
theorem x274_898 {sc : Scr} {d : Nat} {l0 l1 l2 l3 l4 l5 l6 : Option V} {st : List V} {hs : HS} {Q : Rs → HS → Prop} {a b : Int} : Ex sc d 274 898 [l0, l1, l2, l3, l4, l5, l6] (vI b :: vI a :: st) hs Q ↔ Ex sc d 274 899 [l0, l1, l2, l3, l4, l5, l6] (vI (a + b) :: st) hs Q := e_iadd ((cd274 898).trans rfl)
set_option maxRecDepth 20000 in
theorem x274_899 {sc : Scr} {d : Nat} {l0 l1 l2 l3 l4 l5 l6 : Option V} {st : List V} {hs : HS} {Q : Rs → HS → Prop} {i : Int} (hq : 0 ≤ i ∧ i < (sc.1 : Int) ∧ sc.1 < 2147483648) : Ex sc d 274 899 [l0, l1, l2, l3, l4, l5, l6] (vI i :: vS 9 :: st) hs Q ↔ Ex sc d 274 900 [l0, l1, l2, l3, l4, l5, l6] (vI (sc.2 i.toNat) :: st) hs Q := e_ialdS ((cd274 899).trans rfl) hq
set_option maxRecDepth 20000 in
theorem x274_900 {sc : Scr} {d : Nat} {l1 l2 l3 l4 l5 l6 : Option V} {st : List V} {hs : HS} {Q : Rs → HS → Prop} {a : Nat} : Ex sc d 274 900 [some (vS a), l1, l2, l3, l4, l5, l6] st hs Q ↔ Ex sc d 274 901 [some (vS a), l1, l2, l3, l4, l5, l6] (vS a :: st) hs Q := e_aloadS ((cd274 900).trans rfl) rfl
set_option maxRecDepth 20000 in
theorem x274_901 {sc : Scr} {d : Nat} {l0 l1 l2 l3 l5 l6 : Option V} {st : List V} {hs : HS} {Q : Rs → HS → Prop} {a : Int} : Ex sc d 274 901 [l0, l1, l2, l3, some (vI a), l5, l6] st hs Q ↔ Ex sc d 274 903 [l0, l1, l2, l3, some (vI a), l5, l6] (vI a :: st) hs Q := e_iload ((cd274 901).trans rfl) rfl
set_option maxRecDepth 20000 in
theorem x274_903 {sc : Scr} {d : Nat} {l0 l1 l2 l3 l4 l5 l6 : Option V} {st : List V} {hs : HS} {Q : Rs → HS → Prop} : Ex sc d 274 903 [l0, l1, l2, l3, l4, l5, l6] st hs Q ↔ Ex sc d 274 904 [l0, l1, l2, l3, l4, l5, l6] (vI (2) :: st) hs Q := e_iconst ((cd274 903).trans rfl)
set_option maxRecDepth 20000 in
theorem x274_904 {sc : Scr} {d : Nat} {l0 l1 l2 l3 l4 l5 l6 : Option V} {st : List V} {hs : HS} {Q : Rs → HS → Prop} {a b : Int} : Ex sc d 274 904 [l0, l1, l2, l3, l4, l5, l6] (vI b :: vI a :: st) hs Q ↔ Ex sc d 274 905 [l0, l1, l2, l3, l4, l5, l6] (vI (a + b) :: st) hs Q := e_iadd ((cd274 904).trans rfl)
set_option maxRecDepth 20000 in
theorem x274_905 {sc : Scr} {d : Nat} {l0 l1 l2 l3 l4 l5 l6 : Option V} {st : List V} {hs : HS} {Q : Rs → HS → Prop} {i : Int} (hq : 0 ≤ i ∧ i < (sc.1 : Int) ∧ sc.1 < 2147483648) : Ex sc d 274 905 [l0, l1, l2, l3, l4, l5, l6] (vI i :: vS 9 :: st) hs Q ↔ Ex sc d 274 906 [l0, l1, l2, l3, l4, l5, l6] (vI (sc.2 i.toNat) :: st) hs Q := e_ialdS ((cd274 905).trans rfl) hq
set_option maxRecDepth 20000 in
theorem x274_906 {sc : Scr} {d : Nat} {l0 l1 l2 l3 l4 l5 l6 : Option V} {st : List V} {hs : HS} {Q : Rs → HS → Prop} {a0 : Int} {a1 : Int} {q : Nat} (hd : 0 < d) (hc : catS st ≤ 8) (ho : isObj hs 12 (vR q) = true) : Ex sc d 274 906 [l0, l1, l2, l3, l4, l5, l6] (vI a1 :: vI a0 :: vR q :: st) hs Q ↔ Ex sc (d - 1) 253 0 [some (vR q), some (vI a0), some (vI a1)] [] hs (Kc sc d 274 906 909 [l0, l1, l2, l3, l4, l5, l6] st Q) := e_callV ((cd274 906).trans rfl) ho (by simp only [List.length_cons]; omega) (by decide) rfl rfl rfl hc rfl hd
set_option maxRecDepth 20000 in
theorem x274_909 {sc : Scr} {d : Nat} {l0 l1 l2 l3 l4 l5 l6 : Option V} {st : List V} {hs : HS} {Q : Rs → HS → Prop} {a : Int} (hn : notL l5 = true) : Ex sc d 274 909 [l0, l1, l2, l3, l4, l5, l6] (vI a :: st) hs Q ↔ Ex sc d 274 911 [l0, l1, l2, l3, l4, l5, some (vI a)] st hs Q := e_istore ((cd274 909).trans rfl) (by show 6 < 7; decide) (noL_of (j := 5) rfl hn) rfl
set_option maxRecDepth 20000 in
theorem x274_911 {sc : Scr} {d : Nat} {l0 l1 l3 l4 l5 l6 : Option V} {st : List V} {hs : HS} {Q : Rs → HS → Prop} {a : Nat} : Ex sc d 274 911 [l0, l1, some (vR a), l3, l4, l5, l6] st hs Q ↔ Ex sc d 274 912 [l0, l1, some (vR a), l3, l4, l5, l6] (vR a :: st) hs Q := e_aload ((cd274 911).trans rfl) rfl
set_option maxRecDepth 20000 in
theorem x274_912 {sc : Scr} {d : Nat} {l0 l1 l2 l3 l4 l5 l6 : Option V} {st : List V} {hs : HS} {Q : Rs → HS → Prop} {q : Nat} (hd : 0 < d) (hc : catS st ≤ 8) (ho : isObj hs 12 (vR q) = true) : Ex sc d 274 912 [l0, l1, l2, l3, l4, l5, l6] (vR q :: st) hs Q ↔ Ex sc (d - 1) 177 0 [some (vR q)] [] hs (Kc sc d 274 912 915 [l0, l1, l2, l3, l4, l5, l6] st Q) := e_callV ((cd274 912).trans rfl) ho (by simp only [List.length_cons]; omega) (by decide) rfl rfl rfl hc rfl hd
set_option maxRecDepth 20000 in
theorem x274_915 {sc : Scr} {d : Nat} {l0 l1 l2 l3 l4 l6 : Option V} {st : List V} {hs : HS} {Q : Rs → HS → Prop} {a : Int} : Ex sc d 274 915 [l0, l1, l2, l3, l4, some (vI a), l6] st hs Q ↔ Ex sc d 274 917 [l0, l1, l2, l3, l4, some (vI a), l6] (vI a :: st) hs Q := e_iload ((cd274 915).trans rfl) rfl
set_option maxRecDepth 20000 in
theorem x274_917 {sc : Scr} {d : Nat} {l0 l1 l2 l3 l4 l5 l6 : Option V} {st : List V} {hs : HS} {Q : Rs → HS → Prop} {a b : Int} (ha : inR a) (hb : inR b) : Ex sc d 274 917 [l0, l1, l2, l3, l4, l5, l6] (vI b :: vI a :: st) hs Q ↔ if a = b then Ex sc d 274 922 [l0, l1, l2, l3, l4, l5, l6] st hs Q else Ex sc d 274 920 [l0, l1, l2, l3, l4, l5, l6] st hs Q := (e_icmp ((cd274 917).trans rfl) ha hb).trans (by simp only [cmpI, decide_eq_true_eq])
set_option maxRecDepth 20000 in
theorem x274_920 {sc : Scr} {d : Nat} {l0 l1 l2 l3 l4 l5 l6 : Option V} {st : List V} {hs : HS} {Q : Rs → HS → Prop} : Ex sc d 274 920 [l0, l1, l2, l3, l4, l5, l6] st hs Q ↔ Ex sc d 274 921 [l0, l1, l2, l3, l4, l5, l6] (vI (0) :: st) hs Q := e_iconst ((cd274 920).trans rfl)
set_option maxRecDepth 20000 in
theorem x274_921 {sc : Scr} {d : Nat} {l0 l1 l2 l3 l4 l5 l6 : Option V} {hs : HS} {Q : Rs → HS → Prop} {a : Int} (ha : a = 0 ∨ a = 1) : Ex sc d 274 921 [l0, l1, l2, l3, l4, l5, l6] [vI a] hs Q ↔ Q (.inl (some (vI a))) hs := e_zret ((cd274 921).trans rfl) rfl ha
set_option maxRecDepth 20000 in
theorem x274_922 {sc : Scr} {d : Nat} {l0 l1 l2 l3 l4 l6 : Option V} {st : List V} {hs : HS} {Q : Rs → HS → Prop} {a : Int} : Ex sc d 274 922 [l0, l1, l2, l3, l4, some (vI a), l6] st hs Q ↔ Ex sc d 274 924 [l0, l1, l2, l3, l4, some (vI a), l6] (vI a :: st) hs Q := e_iload ((cd274 922).trans rfl) rfl
set_option maxRecDepth 20000 in
theorem x274_924 {sc : Scr} {d : Nat} {l0 l1 l2 l3 l4 l5 l6 : Option V} {st : List V} {hs : HS} {Q : Rs → HS → Prop} {a : Int} (ha : inR a) : Ex sc d 274 924 [l0, l1, l2, l3, l4, l5, l6] (vI a :: st) hs Q ↔ if ¬ a = 0 then Ex sc d 274 939 [l0, l1, l2, l3, l4, l5, l6] st hs Q else Ex sc d 274 927 [l0, l1, l2, l3, l4, l5, l6] st hs Q := (e_if ((cd274 924).trans rfl) ha).trans (by simp only [cmpI, decide_eq_true_eq])
set_option maxRecDepth 20000 in
theorem x274_927 {sc : Scr} {d : Nat} {l0 l1 l2 l4 l5 l6 : Option V} {st : List V} {hs : HS} {Q : Rs → HS → Prop} {a : Nat} : Ex sc d 274 927 [l0, l1, l2, some (vR a), l4, l5, l6] st hs Q ↔ Ex sc d 274 928 [l0, l1, l2, some (vR a), l4, l5, l6] (vR a :: st) hs Q := e_aload ((cd274 927).trans rfl) rfl
set_option maxRecDepth 20000 in
theorem x274_928 {sc : Scr} {d : Nat} {l0 l1 l2 l3 l4 l5 l6 : Option V} {st : List V} {hs : HS} {Q : Rs → HS → Prop} : Ex sc d 274 928 [l0, l1, l2, l3, l4, l5, l6] st hs Q ↔ Ex sc d 274 929 [l0, l1, l2, l3, l4, l5, l6] (vI (0) :: st) hs Q := e_iconst ((cd274 928).trans rfl)
set_option maxRecDepth 20000 in
theorem x274_929 {sc : Scr} {d : Nat} {l0 l1 l2 l3 l4 l5 l6 : Option V} {st : List V} {hs : HS} {Q : Rs → HS → Prop} {a : Nat} {i : Int} : Ex sc d 274 929 [l0, l1, l2, l3, l4, l5, l6] (vI i :: vR a :: st) hs Q ↔ Ra hs 2 a i (fun z => Ex sc d 274 930 [l0, l1, l2, l3, l4, l5, l6] (vL z :: st) hs Q) := e_lald ((cd274 929).trans rfl)
set_option maxRecDepth 20000 in
theorem x274_930 {sc : Scr} {d : Nat} {l0 l1 l2 l3 l4 l5 : Option V} {st : List V} {hs : HS} {Q : Rs → HS → Prop} {a : Int} : Ex sc d 274 930 [l0, l1, l2, l3, l4, l5, some (vI a)] st hs Q ↔ Ex sc d 274 932 [l0, l1, l2, l3, l4, l5, some (vI a)] (vI a :: st) hs Q := e_iload ((cd274 930).trans rfl) rfl
set_option maxRecDepth 20000 in
theorem x274_932 {sc : Scr} {d : Nat} {l0 l1 l2 l3 l4 l5 l6 : Option V} {st : List V} {hs : HS} {Q : Rs → HS → Prop} {a : Int} (ha : inR a) : Ex sc d 274 932 [l0, l1, l2, l3, l4, l5, l6] (vI a :: st) hs Q ↔ Ex sc d 274 933 [l0, l1, l2, l3, l4, l5, l6] (vL a :: st) hs Q := e_i2l ((cd274 932).trans rfl) ha
set_option maxRecDepth 20000 in
theorem x274_933 {sc : Scr} {d : Nat} {l0 l1 l2 l3 l4 l5 l6 : Option V} {st : List V} {hs : HS} {Q : Rs → HS → Prop} {a b : Int} (ha : inL a) (hb : inL b) : Ex sc d 274 933 [l0, l1, l2, l3, l4, l5, l6] (vL b :: vL a :: st) hs Q ↔ Ex sc d 274 934 [l0, l1, l2, l3, l4, l5, l6] (vI (if a < b then -1 else if a = b then 0 else 1) :: st) hs Q := e_lcmp ((cd274 933).trans rfl) ha hb
set_option maxRecDepth 20000 in
theorem x274_934 {sc : Scr} {d : Nat} {l0 l1 l2 l3 l4 l5 l6 : Option V} {st : List V} {hs : HS} {Q : Rs → HS → Prop} {a : Int} (ha : inR a) : Ex sc d 274 934 [l0, l1, l2, l3, l4, l5, l6] (vI a :: st) hs Q ↔ if a = 0 then Ex sc d 274 939 [l0, l1, l2, l3, l4, l5, l6] st hs Q else Ex sc d 274 937 [l0, l1, l2, l3, l4, l5, l6] st hs Q := (e_if ((cd274 934).trans rfl) ha).trans (by simp only [cmpI, decide_eq_true_eq])
set_option maxRecDepth 20000 in
theorem x274_937 {sc : Scr} {d : Nat} {l0 l1 l2 l3 l4 l5 l6 : Option V} {st : List V} {hs : HS} {Q : Rs → HS → Prop} : Ex sc d 274 937 [l0, l1, l2, l3, l4, l5, l6] st hs Q ↔ Ex sc d 274 938 [l0, l1, l2, l3, l4, l5, l6] (vI (0) :: st) hs Q := e_iconst ((cd274 937).trans rfl)
set_option maxRecDepth 20000 in
theorem x274_938 {sc : Scr} {d : Nat} {l0 l1 l2 l3 l4 l5 l6 : Option V} {hs : HS} {Q : Rs → HS → Prop} {a : Int} (ha : a = 0 ∨ a = 1) : Ex sc d 274 938 [l0, l1, l2, l3, l4, l5, l6] [vI a] hs Q ↔ Q (.inl (some (vI a))) hs := e_zret ((cd274 938).trans rfl) rfl ha
set_option maxRecDepth 20000 in
theorem x274_939 {sc : Scr} {d : Nat} {l0 l1 l2 l3 l4 l5 l6 : Option V} {st : List V} {hs : HS} {Q : Rs → HS → Prop} : Ex sc d 274 939 [l0, l1, l2, l3, l4, l5, l6] st hs Q ↔ Ex sc d 274 1660 [l0, l1, l2, l3, l4, l5, l6] st hs Q := e_goto ((cd274 939).trans rfl)
set_option maxRecDepth 20000 in
theorem x274_942 {sc : Scr} {d : Nat} {l0 l2 l3 l4 l5 l6 : Option V} {st : List V} {hs : HS} {Q : Rs → HS → Prop} {a : Nat} : Ex sc d 274 942 [l0, some (vR a), l2, l3, l4, l5, l6] st hs Q ↔ Ex sc d 274 943 [l0, some (vR a), l2, l3, l4, l5, l6] (vR a :: st) hs Q := e_aload ((cd274 942).trans rfl) rfl
set_option maxRecDepth 20000 in
theorem x274_943 {sc : Scr} {d : Nat} {l1 l2 l3 l4 l5 l6 : Option V} {st : List V} {hs : HS} {Q : Rs → HS → Prop} {a : Nat} : Ex sc d 274 943 [some (vS a), l1, l2, l3, l4, l5, l6] st hs Q ↔ Ex sc d 274 944 [some (vS a), l1, l2, l3, l4, l5, l6] (vS a :: st) hs Q := e_aloadS ((cd274 943).trans rfl) rfl
set_option maxRecDepth 20000 in
theorem x274_944 {sc : Scr} {d : Nat} {l0 l1 l2 l3 l5 l6 : Option V} {st : List V} {hs : HS} {Q : Rs → HS → Prop} {a : Int} : Ex sc d 274 944 [l0, l1, l2, l3, some (vI a), l5, l6] st hs Q ↔ Ex sc d 274 946 [l0, l1, l2, l3, some (vI a), l5, l6] (vI a :: st) hs Q := e_iload ((cd274 944).trans rfl) rfl
set_option maxRecDepth 20000 in
theorem x274_946 {sc : Scr} {d : Nat} {l0 l1 l2 l3 l4 l5 l6 : Option V} {st : List V} {hs : HS} {Q : Rs → HS → Prop} : Ex sc d 274 946 [l0, l1, l2, l3, l4, l5, l6] st hs Q ↔ Ex sc d 274 947 [l0, l1, l2, l3, l4, l5, l6] (vI (1) :: st) hs Q := e_iconst ((cd274 946).trans rfl)
set_option maxRecDepth 20000 in
theorem x274_947 {sc : Scr} {d : Nat} {l0 l1 l2 l3 l4 l5 l6 : Option V} {st : List V} {hs : HS} {Q : Rs → HS → Prop} {a b : Int} : Ex sc d 274 947 [l0, l1, l2, l3, l4, l5, l6] (vI b :: vI a :: st) hs Q ↔ Ex sc d 274 948 [l0, l1, l2, l3, l4, l5, l6] (vI (a + b) :: st) hs Q := e_iadd ((cd274 947).trans rfl)
set_option maxRecDepth 20000 in
theorem x274_948 {sc : Scr} {d : Nat} {l0 l1 l2 l3 l4 l5 l6 : Option V} {st : List V} {hs : HS} {Q : Rs → HS → Prop} {i : Int} (hq : 0 ≤ i ∧ i < (sc.1 : Int) ∧ sc.1 < 2147483648) : Ex sc d 274 948 [l0, l1, l2, l3, l4, l5, l6] (vI i :: vS 9 :: st) hs Q ↔ Ex sc d 274 949 [l0, l1, l2, l3, l4, l5, l6] (vI (sc.2 i.toNat) :: st) hs Q := e_ialdS ((cd274 948).trans rfl) hq
set_option maxRecDepth 20000 in
theorem x274_949 {sc : Scr} {d : Nat} {l1 l2 l3 l4 l5 l6 : Option V} {st : List V} {hs : HS} {Q : Rs → HS → Prop} {a : Nat} : Ex sc d 274 949 [some (vS a), l1, l2, l3, l4, l5, l6] st hs Q ↔ Ex sc d 274 950 [some (vS a), l1, l2, l3, l4, l5, l6] (vS a :: st) hs Q := e_aloadS ((cd274 949).trans rfl) rfl
set_option maxRecDepth 20000 in
theorem x274_950 {sc : Scr} {d : Nat} {l0 l1 l2 l3 l5 l6 : Option V} {st : List V} {hs : HS} {Q : Rs → HS → Prop} {a : Int} : Ex sc d 274 950 [l0, l1, l2, l3, some (vI a), l5, l6] st hs Q ↔ Ex sc d 274 952 [l0, l1, l2, l3, some (vI a), l5, l6] (vI a :: st) hs Q := e_iload ((cd274 950).trans rfl) rfl
set_option maxRecDepth 20000 in
theorem x274_952 {sc : Scr} {d : Nat} {l0 l1 l2 l3 l4 l5 l6 : Option V} {st : List V} {hs : HS} {Q : Rs → HS → Prop} : Ex sc d 274 952 [l0, l1, l2, l3, l4, l5, l6] st hs Q ↔ Ex sc d 274 953 [l0, l1, l2, l3, l4, l5, l6] (vI (2) :: st) hs Q := e_iconst ((cd274 952).trans rfl)
set_option maxRecDepth 20000 in
theorem x274_953 {sc : Scr} {d : Nat} {l0 l1 l2 l3 l4 l5 l6 : Option V} {st : List V} {hs : HS} {Q : Rs → HS → Prop} {a b : Int} : Ex sc d 274 953 [l0, l1, l2, l3, l4, l5, l6] (vI b :: vI a :: st) hs Q ↔ Ex sc d 274 954 [l0, l1, l2, l3, l4, l5, l6] (vI (a + b) :: st) hs Q := e_iadd ((cd274 953).trans rfl)
set_option maxRecDepth 20000 in
theorem x274_954 {sc : Scr} {d : Nat} {l0 l1 l2 l3 l4 l5 l6 : Option V} {st : List V} {hs : HS} {Q : Rs → HS → Prop} {i : Int} (hq : 0 ≤ i ∧ i < (sc.1 : Int) ∧ sc.1 < 2147483648) : Ex sc d 274 954 [l0, l1, l2, l3, l4, l5, l6] (vI i :: vS 9 :: st) hs Q ↔ Ex sc d 274 955 [l0, l1, l2, l3, l4, l5, l6] (vI (sc.2 i.toNat) :: st) hs Q := e_ialdS ((cd274 954).trans rfl) hq
set_option maxRecDepth 20000 in
theorem x274_955 {sc : Scr} {d : Nat} {l0 l1 l2 l4 l5 l6 : Option V} {st : List V} {hs : HS} {Q : Rs → HS → Prop} {a : Nat} : Ex sc d 274 955 [l0, l1, l2, some (vR a), l4, l5, l6] st hs Q ↔ Ex sc d 274 956 [l0, l1, l2, some (vR a), l4, l5, l6] (vR a :: st) hs Q := e_aload ((cd274 955).trans rfl) rfl
set_option maxRecDepth 20000 in
theorem x274_956 {sc : Scr} {d : Nat} {l0 l1 l2 l3 l4 l5 l6 : Option V} {st : List V} {hs : HS} {Q : Rs → HS → Prop} {a0 : Nat} {a1 : Int} {a2 : Int} {a3 : Nat} (hd : 0 < d) (hc : catS st ≤ 8) : Ex sc d 274 956 [l0, l1, l2, l3, l4, l5, l6] (vR a3 :: vI a2 :: vI a1 :: vR a0 :: st) hs Q ↔ Ex sc (d - 1) 127 0 [some (vR a0), some (vI a1), some (vI a2), some (vR a3), none] [] hs (Kc sc d 274 956 959 [l0, l1, l2, l3, l4, l5, l6] st Q) := e_callS ((cd274 956).trans rfl) (by simp only [List.length_cons]; omega) (by decide) rfl rfl rfl hc rfl hd
set_option maxRecDepth 20000 in
theorem x274_959 {sc : Scr} {d : Nat} {l0 l1 l2 l3 l4 l5 l6 : Option V} {st : List V} {hs : HS} {Q : Rs → HS → Prop} {a : Int} (hn : notL l4 = true) : Ex sc d 274 959 [l0, l1, l2, l3, l4, l5, l6] (vI a :: st) hs Q ↔ Ex sc d 274 961 [l0, l1, l2, l3, l4, some (vI a), l6] st hs Q := e_istore ((cd274 959).trans rfl) (by show 5 < 7; decide) (noL_of (j := 4) rfl hn) rfl
set_option maxRecDepth 20000 in
theorem x274_961 {sc : Scr} {d : Nat} {l0 l1 l3 l4 l5 l6 : Option V} {st : List V} {hs : HS} {Q : Rs → HS → Prop} {a : Nat} : Ex sc d 274 961 [l0, l1, some (vR a), l3, l4, l5, l6] st hs Q ↔ Ex sc d 274 962 [l0, l1, some (vR a), l3, l4, l5, l6] (vR a :: st) hs Q := e_aload ((cd274 961).trans rfl) rfl
set_option maxRecDepth 20000 in
theorem x274_962 {sc : Scr} {d : Nat} {l1 l2 l3 l4 l5 l6 : Option V} {st : List V} {hs : HS} {Q : Rs → HS → Prop} {a : Nat} : Ex sc d 274 962 [some (vS a), l1, l2, l3, l4, l5, l6] st hs Q ↔ Ex sc d 274 963 [some (vS a), l1, l2, l3, l4, l5, l6] (vS a :: st) hs Q := e_aloadS ((cd274 962).trans rfl) rfl
set_option maxRecDepth 20000 in
theorem x274_963 {sc : Scr} {d : Nat} {l0 l1 l2 l3 l5 l6 : Option V} {st : List V} {hs : HS} {Q : Rs → HS → Prop} {a : Int} : Ex sc d 274 963 [l0, l1, l2, l3, some (vI a), l5, l6] st hs Q ↔ Ex sc d 274 965 [l0, l1, l2, l3, some (vI a), l5, l6] (vI a :: st) hs Q := e_iload ((cd274 963).trans rfl) rfl
set_option maxRecDepth 20000 in
theorem x274_965 {sc : Scr} {d : Nat} {l0 l1 l2 l3 l4 l5 l6 : Option V} {st : List V} {hs : HS} {Q : Rs → HS → Prop} : Ex sc d 274 965 [l0, l1, l2, l3, l4, l5, l6] st hs Q ↔ Ex sc d 274 966 [l0, l1, l2, l3, l4, l5, l6] (vI (1) :: st) hs Q := e_iconst ((cd274 965).trans rfl)
set_option maxRecDepth 20000 in
theorem x274_966 {sc : Scr} {d : Nat} {l0 l1 l2 l3 l4 l5 l6 : Option V} {st : List V} {hs : HS} {Q : Rs → HS → Prop} {a b : Int} : Ex sc d 274 966 [l0, l1, l2, l3, l4, l5, l6] (vI b :: vI a :: st) hs Q ↔ Ex sc d 274 967 [l0, l1, l2, l3, l4, l5, l6] (vI (a + b) :: st) hs Q := e_iadd ((cd274 966).trans rfl)
set_option maxRecDepth 20000 in
theorem x274_967 {sc : Scr} {d : Nat} {l0 l1 l2 l3 l4 l5 l6 : Option V} {st : List V} {hs : HS} {Q : Rs → HS → Prop} {i : Int} (hq : 0 ≤ i ∧ i < (sc.1 : Int) ∧ sc.1 < 2147483648) : Ex sc d 274 967 [l0, l1, l2, l3, l4, l5, l6] (vI i :: vS 9 :: st) hs Q ↔ Ex sc d 274 968 [l0, l1, l2, l3, l4, l5, l6] (vI (sc.2 i.toNat) :: st) hs Q := e_ialdS ((cd274 967).trans rfl) hq
set_option maxRecDepth 20000 in
theorem x274_968 {sc : Scr} {d : Nat} {l1 l2 l3 l4 l5 l6 : Option V} {st : List V} {hs : HS} {Q : Rs → HS → Prop} {a : Nat} : Ex sc d 274 968 [some (vS a), l1, l2, l3, l4, l5, l6] st hs Q ↔ Ex sc d 274 969 [some (vS a), l1, l2, l3, l4, l5, l6] (vS a :: st) hs Q := e_aloadS ((cd274 968).trans rfl) rfl
set_option maxRecDepth 20000 in
theorem x274_969 {sc : Scr} {d : Nat} {l0 l1 l2 l3 l5 l6 : Option V} {st : List V} {hs : HS} {Q : Rs → HS → Prop} {a : Int} : Ex sc d 274 969 [l0, l1, l2, l3, some (vI a), l5, l6] st hs Q ↔ Ex sc d 274 971 [l0, l1, l2, l3, some (vI a), l5, l6] (vI a :: st) hs Q := e_iload ((cd274 969).trans rfl) rfl
set_option maxRecDepth 20000 in
theorem x274_971 {sc : Scr} {d : Nat} {l0 l1 l2 l3 l4 l5 l6 : Option V} {st : List V} {hs : HS} {Q : Rs → HS → Prop} : Ex sc d 274 971 [l0, l1, l2, l3, l4, l5, l6] st hs Q ↔ Ex sc d 274 972 [l0, l1, l2, l3, l4, l5, l6] (vI (2) :: st) hs Q := e_iconst ((cd274 971).trans rfl)
set_option maxRecDepth 20000 in
theorem x274_972 {sc : Scr} {d : Nat} {l0 l1 l2 l3 l4 l5 l6 : Option V} {st : List V} {hs : HS} {Q : Rs → HS → Prop} {a b : Int} : Ex sc d 274 972 [l0, l1, l2, l3, l4, l5, l6] (vI b :: vI a :: st) hs Q ↔ Ex sc d 274 973 [l0, l1, l2, l3, l4, l5, l6] (vI (a + b) :: st) hs Q := e_iadd ((cd274 972).trans rfl)
set_option maxRecDepth 20000 in
theorem x274_973 {sc : Scr} {d : Nat} {l0 l1 l2 l3 l4 l5 l6 : Option V} {st : List V} {hs : HS} {Q : Rs → HS → Prop} {i : Int} (hq : 0 ≤ i ∧ i < (sc.1 : Int) ∧ sc.1 < 2147483648) : Ex sc d 274 973 [l0, l1, l2, l3, l4, l5, l6] (vI i :: vS 9 :: st) hs Q ↔ Ex sc d 274 974 [l0, l1, l2, l3, l4, l5, l6] (vI (sc.2 i.toNat) :: st) hs Q := e_ialdS ((cd274 973).trans rfl) hq
set_option maxRecDepth 20000 in
theorem x274_974 {sc : Scr} {d : Nat} {l0 l1 l2 l3 l4 l5 l6 : Option V} {st : List V} {hs : HS} {Q : Rs → HS → Prop} {a0 : Int} {a1 : Int} {q : Nat} (hd : 0 < d) (hc : catS st ≤ 8) (ho : isObj hs 12 (vR q) = true) : Ex sc d 274 974 [l0, l1, l2, l3, l4, l5, l6] (vI a1 :: vI a0 :: vR q :: st) hs Q ↔ Ex sc (d - 1) 225 0 [some (vR q), some (vI a0), some (vI a1)] [] hs (Kc sc d 274 974 977 [l0, l1, l2, l3, l4, l5, l6] st Q) := e_callV ((cd274 974).trans rfl) ho (by simp only [List.length_cons]; omega) (by decide) rfl rfl rfl hc rfl hd
set_option maxRecDepth 20000 in
theorem x274_977 {sc : Scr} {d : Nat} {l0 l1 l2 l3 l4 l5 l6 : Option V} {st : List V} {hs : HS} {Q : Rs → HS → Prop} {a : Int} (hn : notL l5 = true) : Ex sc d 274 977 [l0, l1, l2, l3, l4, l5, l6] (vI a :: st) hs Q ↔ Ex sc d 274 979 [l0, l1, l2, l3, l4, l5, some (vI a)] st hs Q := e_istore ((cd274 977).trans rfl) (by show 6 < 7; decide) (noL_of (j := 5) rfl hn) rfl
set_option maxRecDepth 20000 in
theorem x274_979 {sc : Scr} {d : Nat} {l0 l1 l3 l4 l5 l6 : Option V} {st : List V} {hs : HS} {Q : Rs → HS → Prop} {a : Nat} : Ex sc d 274 979 [l0, l1, some (vR a), l3, l4, l5, l6] st hs Q ↔ Ex sc d 274 980 [l0, l1, some (vR a), l3, l4, l5, l6] (vR a :: st) hs Q := e_aload ((cd274 979).trans rfl) rfl
set_option maxRecDepth 20000 in
theorem x274_980 {sc : Scr} {d : Nat} {l0 l1 l2 l3 l4 l5 l6 : Option V} {st : List V} {hs : HS} {Q : Rs → HS → Prop} {q : Nat} (hd : 0 < d) (hc : catS st ≤ 8) (ho : isObj hs 12 (vR q) = true) : Ex sc d 274 980 [l0, l1, l2, l3, l4, l5, l6] (vR q :: st) hs Q ↔ Ex sc (d - 1) 177 0 [some (vR q)] [] hs (Kc sc d 274 980 983 [l0, l1, l2, l3, l4, l5, l6] st Q) := e_callV ((cd274 980).trans rfl) ho (by simp only [List.length_cons]; omega) (by decide) rfl rfl rfl hc rfl hd
set_option maxRecDepth 20000 in
theorem x274_983 {sc : Scr} {d : Nat} {l0 l1 l2 l3 l4 l6 : Option V} {st : List V} {hs : HS} {Q : Rs → HS → Prop} {a : Int} : Ex sc d 274 983 [l0, l1, l2, l3, l4, some (vI a), l6] st hs Q ↔ Ex sc d 274 985 [l0, l1, l2, l3, l4, some (vI a), l6] (vI a :: st) hs Q := e_iload ((cd274 983).trans rfl) rfl
set_option maxRecDepth 20000 in
theorem x274_985 {sc : Scr} {d : Nat} {l0 l1 l2 l3 l4 l5 l6 : Option V} {st : List V} {hs : HS} {Q : Rs → HS → Prop} {a b : Int} (ha : inR a) (hb : inR b) : Ex sc d 274 985 [l0, l1, l2, l3, l4, l5, l6] (vI b :: vI a :: st) hs Q ↔ if a = b then Ex sc d 274 990 [l0, l1, l2, l3, l4, l5, l6] st hs Q else Ex sc d 274 988 [l0, l1, l2, l3, l4, l5, l6] st hs Q := (e_icmp ((cd274 985).trans rfl) ha hb).trans (by simp only [cmpI, decide_eq_true_eq])
set_option maxRecDepth 20000 in
theorem x274_988 {sc : Scr} {d : Nat} {l0 l1 l2 l3 l4 l5 l6 : Option V} {st : List V} {hs : HS} {Q : Rs → HS → Prop} : Ex sc d 274 988 [l0, l1, l2, l3, l4, l5, l6] st hs Q ↔ Ex sc d 274 989 [l0, l1, l2, l3, l4, l5, l6] (vI (0) :: st) hs Q := e_iconst ((cd274 988).trans rfl)
set_option maxRecDepth 20000 in
theorem x274_989 {sc : Scr} {d : Nat} {l0 l1 l2 l3 l4 l5 l6 : Option V} {hs : HS} {Q : Rs → HS → Prop} {a : Int} (ha : a = 0 ∨ a = 1) : Ex sc d 274 989 [l0, l1, l2, l3, l4, l5, l6] [vI a] hs Q ↔ Q (.inl (some (vI a))) hs := e_zret ((cd274 989).trans rfl) rfl ha
set_option maxRecDepth 20000 in
theorem x274_990 {sc : Scr} {d : Nat} {l0 l1 l2 l3 l4 l6 : Option V} {st : List V} {hs : HS} {Q : Rs → HS → Prop} {a : Int} : Ex sc d 274 990 [l0, l1, l2, l3, l4, some (vI a), l6] st hs Q ↔ Ex sc d 274 992 [l0, l1, l2, l3, l4, some (vI a), l6] (vI a :: st) hs Q := e_iload ((cd274 990).trans rfl) rfl
set_option maxRecDepth 20000 in
theorem x274_992 {sc : Scr} {d : Nat} {l0 l1 l2 l3 l4 l5 l6 : Option V} {st : List V} {hs : HS} {Q : Rs → HS → Prop} {a : Int} (ha : inR a) : Ex sc d 274 992 [l0, l1, l2, l3, l4, l5, l6] (vI a :: st) hs Q ↔ if ¬ a = 0 then Ex sc d 274 1007 [l0, l1, l2, l3, l4, l5, l6] st hs Q else Ex sc d 274 995 [l0, l1, l2, l3, l4, l5, l6] st hs Q := (e_if ((cd274 992).trans rfl) ha).trans (by simp only [cmpI, decide_eq_true_eq])
set_option maxRecDepth 20000 in
theorem x274_995 {sc : Scr} {d : Nat} {l0 l1 l2 l4 l5 l6 : Option V} {st : List V} {hs : HS} {Q : Rs → HS → Prop} {a : Nat} : Ex sc d 274 995 [l0, l1, l2, some (vR a), l4, l5, l6] st hs Q ↔ Ex sc d 274 996 [l0, l1, l2, some (vR a), l4, l5, l6] (vR a :: st) hs Q := e_aload ((cd274 995).trans rfl) rfl
set_option maxRecDepth 20000 in
theorem x274_996 {sc : Scr} {d : Nat} {l0 l1 l2 l3 l4 l5 l6 : Option V} {st : List V} {hs : HS} {Q : Rs → HS → Prop} : Ex sc d 274 996 [l0, l1, l2, l3, l4, l5, l6] st hs Q ↔ Ex sc d 274 997 [l0, l1, l2, l3, l4, l5, l6] (vI (0) :: st) hs Q := e_iconst ((cd274 996).trans rfl)
set_option maxRecDepth 20000 in
theorem x274_997 {sc : Scr} {d : Nat} {l0 l1 l2 l3 l4 l5 l6 : Option V} {st : List V} {hs : HS} {Q : Rs → HS → Prop} {a : Nat} {i : Int} : Ex sc d 274 997 [l0, l1, l2, l3, l4, l5, l6] (vI i :: vR a :: st) hs Q ↔ Ra hs 2 a i (fun z => Ex sc d 274 998 [l0, l1, l2, l3, l4, l5, l6] (vL z :: st) hs Q) := e_lald ((cd274 997).trans rfl)
set_option maxRecDepth 20000 in
theorem x274_998 {sc : Scr} {d : Nat} {l0 l1 l2 l3 l4 l5 : Option V} {st : List V} {hs : HS} {Q : Rs → HS → Prop} {a : Int} : Ex sc d 274 998 [l0, l1, l2, l3, l4, l5, some (vI a)] st hs Q ↔ Ex sc d 274 1000 [l0, l1, l2, l3, l4, l5, some (vI a)] (vI a :: st) hs Q := e_iload ((cd274 998).trans rfl) rfl
set_option maxRecDepth 20000 in
theorem x274_1000 {sc : Scr} {d : Nat} {l0 l1 l2 l3 l4 l5 l6 : Option V} {st : List V} {hs : HS} {Q : Rs → HS → Prop} {a : Int} (ha : inR a) : Ex sc d 274 1000 [l0, l1, l2, l3, l4, l5, l6] (vI a :: st) hs Q ↔ Ex sc d 274 1001 [l0, l1, l2, l3, l4, l5, l6] (vL a :: st) hs Q := e_i2l ((cd274 1000).trans rfl) ha
set_option maxRecDepth 20000 in
theorem x274_1001 {sc : Scr} {d : Nat} {l0 l1 l2 l3 l4 l5 l6 : Option V} {st : List V} {hs : HS} {Q : Rs → HS → Prop} {a b : Int} (ha : inL a) (hb : inL b) : Ex sc d 274 1001 [l0, l1, l2, l3, l4, l5, l6] (vL b :: vL a :: st) hs Q ↔ Ex sc d 274 1002 [l0, l1, l2, l3, l4, l5, l6] (vI (if a < b then -1 else if a = b then 0 else 1) :: st) hs Q := e_lcmp ((cd274 1001).trans rfl) ha hb
set_option maxRecDepth 20000 in
theorem x274_1002 {sc : Scr} {d : Nat} {l0 l1 l2 l3 l4 l5 l6 : Option V} {st : List V} {hs : HS} {Q : Rs → HS → Prop} {a : Int} (ha : inR a) : Ex sc d 274 1002 [l0, l1, l2, l3, l4, l5, l6] (vI a :: st) hs Q ↔ if a = 0 then Ex sc d 274 1007 [l0, l1, l2, l3, l4, l5, l6] st hs Q else Ex sc d 274 1005 [l0, l1, l2, l3, l4, l5, l6] st hs Q := (e_if ((cd274 1002).trans rfl) ha).trans (by simp only [cmpI, decide_eq_true_eq])
set_option maxRecDepth 20000 in
theorem x274_1005 {sc : Scr} {d : Nat} {l0 l1 l2 l3 l4 l5 l6 : Option V} {st : List V} {hs : HS} {Q : Rs → HS → Prop} : Ex sc d 274 1005 [l0, l1, l2, l3, l4, l5, l6] st hs Q ↔ Ex sc d 274 1006 [l0, l1, l2, l3, l4, l5, l6] (vI (0) :: st) hs Q := e_iconst ((cd274 1005).trans rfl)
set_option maxRecDepth 20000 in
theorem x274_1006 {sc : Scr} {d : Nat} {l0 l1 l2 l3 l4 l5 l6 : Option V} {hs : HS} {Q : Rs → HS → Prop} {a : Int} (ha : a = 0 ∨ a = 1) : Ex sc d 274 1006 [l0, l1, l2, l3, l4, l5, l6] [vI a] hs Q ↔ Q (.inl (some (vI a))) hs := e_zret ((cd274 1006).trans rfl) rfl ha
set_option maxRecDepth 20000 in
theorem x274_1007 {sc : Scr} {d : Nat} {l0 l1 l2 l3 l4 l5 l6 : Option V} {st : List V} {hs : HS} {Q : Rs → HS → Prop} : Ex sc d 274 1007 [l0, l1, l2, l3, l4, l5, l6] st hs Q ↔ Ex sc d 274 1660 [l0, l1, l2, l3, l4, l5, l6] st hs Q := e_goto ((cd274 1007).trans rfl)
set_option maxRecDepth 20000 in
theorem x274_1010 {sc : Scr} {d : Nat} {l0 l2 l3 l4 l5 l6 : Option V} {st : List V} {hs : HS} {Q : Rs → HS → Prop} {a : Nat} : Ex sc d 274 1010 [l0, some (vR a), l2, l3, l4, l5, l6] st hs Q ↔ Ex sc d 274 1011 [l0, some (vR a), l2, l3, l4, l5, l6] (vR a :: st) hs Q := e_aload ((cd274 1010).trans rfl) rfl
set_option maxRecDepth 20000 in
theorem x274_1011 {sc : Scr} {d : Nat} {l1 l2 l3 l4 l5 l6 : Option V} {st : List V} {hs : HS} {Q : Rs → HS → Prop} {a : Nat} : Ex sc d 274 1011 [some (vS a), l1, l2, l3, l4, l5, l6] st hs Q ↔ Ex sc d 274 1012 [some (vS a), l1, l2, l3, l4, l5, l6] (vS a :: st) hs Q := e_aloadS ((cd274 1011).trans rfl) rfl
set_option maxRecDepth 20000 in
theorem x274_1012 {sc : Scr} {d : Nat} {l0 l1 l2 l3 l5 l6 : Option V} {st : List V} {hs : HS} {Q : Rs → HS → Prop} {a : Int} : Ex sc d 274 1012 [l0, l1, l2, l3, some (vI a), l5, l6] st hs Q ↔ Ex sc d 274 1014 [l0, l1, l2, l3, some (vI a), l5, l6] (vI a :: st) hs Q := e_iload ((cd274 1012).trans rfl) rfl
set_option maxRecDepth 20000 in
theorem x274_1014 {sc : Scr} {d : Nat} {l0 l1 l2 l3 l4 l5 l6 : Option V} {st : List V} {hs : HS} {Q : Rs → HS → Prop} : Ex sc d 274 1014 [l0, l1, l2, l3, l4, l5, l6] st hs Q ↔ Ex sc d 274 1015 [l0, l1, l2, l3, l4, l5, l6] (vI (1) :: st) hs Q := e_iconst ((cd274 1014).trans rfl)
set_option maxRecDepth 20000 in
theorem x274_1015 {sc : Scr} {d : Nat} {l0 l1 l2 l3 l4 l5 l6 : Option V} {st : List V} {hs : HS} {Q : Rs → HS → Prop} {a b : Int} : Ex sc d 274 1015 [l0, l1, l2, l3, l4, l5, l6] (vI b :: vI a :: st) hs Q ↔ Ex sc d 274 1016 [l0, l1, l2, l3, l4, l5, l6] (vI (a + b) :: st) hs Q := e_iadd ((cd274 1015).trans rfl)
set_option maxRecDepth 20000 in
theorem x274_1016 {sc : Scr} {d : Nat} {l0 l1 l2 l3 l4 l5 l6 : Option V} {st : List V} {hs : HS} {Q : Rs → HS → Prop} {i : Int} (hq : 0 ≤ i ∧ i < (sc.1 : Int) ∧ sc.1 < 2147483648) : Ex sc d 274 1016 [l0, l1, l2, l3, l4, l5, l6] (vI i :: vS 9 :: st) hs Q ↔ Ex sc d 274 1017 [l0, l1, l2, l3, l4, l5, l6] (vI (sc.2 i.toNat) :: st) hs Q := e_ialdS ((cd274 1016).trans rfl) hq
set_option maxRecDepth 20000 in
theorem x274_1017 {sc : Scr} {d : Nat} {l1 l2 l3 l4 l5 l6 : Option V} {st : List V} {hs : HS} {Q : Rs → HS → Prop} {a : Nat} : Ex sc d 274 1017 [some (vS a), l1, l2, l3, l4, l5, l6] st hs Q ↔ Ex sc d 274 1018 [some (vS a), l1, l2, l3, l4, l5, l6] (vS a :: st) hs Q := e_aloadS ((cd274 1017).trans rfl) rfl
set_option maxRecDepth 20000 in
theorem x274_1018 {sc : Scr} {d : Nat} {l0 l1 l2 l3 l5 l6 : Option V} {st : List V} {hs : HS} {Q : Rs → HS → Prop} {a : Int} : Ex sc d 274 1018 [l0, l1, l2, l3, some (vI a), l5, l6] st hs Q ↔ Ex sc d 274 1020 [l0, l1, l2, l3, some (vI a), l5, l6] (vI a :: st) hs Q := e_iload ((cd274 1018).trans rfl) rfl
set_option maxRecDepth 20000 in
theorem x274_1020 {sc : Scr} {d : Nat} {l0 l1 l2 l3 l4 l5 l6 : Option V} {st : List V} {hs : HS} {Q : Rs → HS → Prop} : Ex sc d 274 1020 [l0, l1, l2, l3, l4, l5, l6] st hs Q ↔ Ex sc d 274 1021 [l0, l1, l2, l3, l4, l5, l6] (vI (2) :: st) hs Q := e_iconst ((cd274 1020).trans rfl)
set_option maxRecDepth 20000 in
theorem x274_1021 {sc : Scr} {d : Nat} {l0 l1 l2 l3 l4 l5 l6 : Option V} {st : List V} {hs : HS} {Q : Rs → HS → Prop} {a b : Int} : Ex sc d 274 1021 [l0, l1, l2, l3, l4, l5, l6] (vI b :: vI a :: st) hs Q ↔ Ex sc d 274 1022 [l0, l1, l2, l3, l4, l5, l6] (vI (a + b) :: st) hs Q := e_iadd ((cd274 1021).trans rfl)
set_option maxRecDepth 20000 in
theorem x274_1022 {sc : Scr} {d : Nat} {l0 l1 l2 l3 l4 l5 l6 : Option V} {st : List V} {hs : HS} {Q : Rs → HS → Prop} {i : Int} (hq : 0 ≤ i ∧ i < (sc.1 : Int) ∧ sc.1 < 2147483648) : Ex sc d 274 1022 [l0, l1, l2, l3, l4, l5, l6] (vI i :: vS 9 :: st) hs Q ↔ Ex sc d 274 1023 [l0, l1, l2, l3, l4, l5, l6] (vI (sc.2 i.toNat) :: st) hs Q := e_ialdS ((cd274 1022).trans rfl) hq
set_option maxRecDepth 20000 in
theorem x274_1023 {sc : Scr} {d : Nat} {l1 l2 l3 l4 l5 l6 : Option V} {st : List V} {hs : HS} {Q : Rs → HS → Prop} {a : Nat} : Ex sc d 274 1023 [some (vS a), l1, l2, l3, l4, l5, l6] st hs Q ↔ Ex sc d 274 1024 [some (vS a), l1, l2, l3, l4, l5, l6] (vS a :: st) hs Q := e_aloadS ((cd274 1023).trans rfl) rfl
set_option maxRecDepth 20000 in
theorem x274_1024 {sc : Scr} {d : Nat} {l0 l1 l2 l3 l5 l6 : Option V} {st : List V} {hs : HS} {Q : Rs → HS → Prop} {a : Int} : Ex sc d 274 1024 [l0, l1, l2, l3, some (vI a), l5, l6] st hs Q ↔ Ex sc d 274 1026 [l0, l1, l2, l3, some (vI a), l5, l6] (vI a :: st) hs Q := e_iload ((cd274 1024).trans rfl) rfl
set_option maxRecDepth 20000 in
theorem x274_1026 {sc : Scr} {d : Nat} {l0 l1 l2 l3 l4 l5 l6 : Option V} {st : List V} {hs : HS} {Q : Rs → HS → Prop} : Ex sc d 274 1026 [l0, l1, l2, l3, l4, l5, l6] st hs Q ↔ Ex sc d 274 1027 [l0, l1, l2, l3, l4, l5, l6] (vI (3) :: st) hs Q := e_iconst ((cd274 1026).trans rfl)
set_option maxRecDepth 20000 in
theorem x274_1027 {sc : Scr} {d : Nat} {l0 l1 l2 l3 l4 l5 l6 : Option V} {st : List V} {hs : HS} {Q : Rs → HS → Prop} {a b : Int} : Ex sc d 274 1027 [l0, l1, l2, l3, l4, l5, l6] (vI b :: vI a :: st) hs Q ↔ Ex sc d 274 1028 [l0, l1, l2, l3, l4, l5, l6] (vI (a + b) :: st) hs Q := e_iadd ((cd274 1027).trans rfl)
set_option maxRecDepth 20000 in
theorem x274_1028 {sc : Scr} {d : Nat} {l0 l1 l2 l3 l4 l5 l6 : Option V} {st : List V} {hs : HS} {Q : Rs → HS → Prop} {i : Int} (hq : 0 ≤ i ∧ i < (sc.1 : Int) ∧ sc.1 < 2147483648) : Ex sc d 274 1028 [l0, l1, l2, l3, l4, l5, l6] (vI i :: vS 9 :: st) hs Q ↔ Ex sc d 274 1029 [l0, l1, l2, l3, l4, l5, l6] (vI (sc.2 i.toNat) :: st) hs Q := e_ialdS ((cd274 1028).trans rfl) hq
set_option maxRecDepth 20000 in
theorem x274_1029 {sc : Scr} {d : Nat} {l0 l1 l2 l4 l5 l6 : Option V} {st : List V} {hs : HS} {Q : Rs → HS → Prop} {a : Nat} : Ex sc d 274 1029 [l0, l1, l2, some (vR a), l4, l5, l6] st hs Q ↔ Ex sc d 274 1030 [l0, l1, l2, some (vR a), l4, l5, l6] (vR a :: st) hs Q := e_aload ((cd274 1029).trans rfl) rfl
set_option maxRecDepth 20000 in
theorem x274_1030 {sc : Scr} {d : Nat} {l0 l1 l2 l3 l4 l5 l6 : Option V} {st : List V} {hs : HS} {Q : Rs → HS → Prop} {a0 : Nat} {a1 : Int} {a2 : Int} {a3 : Int} {a4 : Nat} (hd : 0 < d) (hc : catS st ≤ 8) : Ex sc d 274 1030 [l0, l1, l2, l3, l4, l5, l6] (vR a4 :: vI a3 :: vI a2 :: vI a1 :: vR a0 :: st) hs Q ↔ Ex sc (d - 1) 129 0 [some (vR a0), some (vI a1), some (vI a2), some (vI a3), some (vR a4), none] [] hs (Kc sc d 274 1030 1033 [l0, l1, l2, l3, l4, l5, l6] st Q) := e_callS ((cd274 1030).trans rfl) (by simp only [List.length_cons]; omega) (by decide) rfl rfl rfl hc rfl hd
set_option maxRecDepth 20000 in
theorem x274_1033 {sc : Scr} {d : Nat} {l0 l1 l2 l3 l4 l5 l6 : Option V} {st : List V} {hs : HS} {Q : Rs → HS → Prop} {a : Int} (hn : notL l4 = true) : Ex sc d 274 1033 [l0, l1, l2, l3, l4, l5, l6] (vI a :: st) hs Q ↔ Ex sc d 274 1035 [l0, l1, l2, l3, l4, some (vI a), l6] st hs Q := e_istore ((cd274 1033).trans rfl) (by show 5 < 7; decide) (noL_of (j := 4) rfl hn) rfl
set_option maxRecDepth 20000 in
theorem x274_1035 {sc : Scr} {d : Nat} {l0 l1 l3 l4 l5 l6 : Option V} {st : List V} {hs : HS} {Q : Rs → HS → Prop} {a : Nat} : Ex sc d 274 1035 [l0, l1, some (vR a), l3, l4, l5, l6] st hs Q ↔ Ex sc d 274 1036 [l0, l1, some (vR a), l3, l4, l5, l6] (vR a :: st) hs Q := e_aload ((cd274 1035).trans rfl) rfl
set_option maxRecDepth 20000 in
theorem x274_1036 {sc : Scr} {d : Nat} {l1 l2 l3 l4 l5 l6 : Option V} {st : List V} {hs : HS} {Q : Rs → HS → Prop} {a : Nat} : Ex sc d 274 1036 [some (vS a), l1, l2, l3, l4, l5, l6] st hs Q ↔ Ex sc d 274 1037 [some (vS a), l1, l2, l3, l4, l5, l6] (vS a :: st) hs Q := e_aloadS ((cd274 1036).trans rfl) rfl
set_option maxRecDepth 20000 in
theorem x274_1037 {sc : Scr} {d : Nat} {l0 l1 l2 l3 l5 l6 : Option V} {st : List V} {hs : HS} {Q : Rs → HS → Prop} {a : Int} : Ex sc d 274 1037 [l0, l1, l2, l3, some (vI a), l5, l6] st hs Q ↔ Ex sc d 274 1039 [l0, l1, l2, l3, some (vI a), l5, l6] (vI a :: st) hs Q := e_iload ((cd274 1037).trans rfl) rfl
set_option maxRecDepth 20000 in
theorem x274_1039 {sc : Scr} {d : Nat} {l0 l1 l2 l3 l4 l5 l6 : Option V} {st : List V} {hs : HS} {Q : Rs → HS → Prop} : Ex sc d 274 1039 [l0, l1, l2, l3, l4, l5, l6] st hs Q ↔ Ex sc d 274 1040 [l0, l1, l2, l3, l4, l5, l6] (vI (1) :: st) hs Q := e_iconst ((cd274 1039).trans rfl)
set_option maxRecDepth 20000 in
theorem x274_1040 {sc : Scr} {d : Nat} {l0 l1 l2 l3 l4 l5 l6 : Option V} {st : List V} {hs : HS} {Q : Rs → HS → Prop} {a b : Int} : Ex sc d 274 1040 [l0, l1, l2, l3, l4, l5, l6] (vI b :: vI a :: st) hs Q ↔ Ex sc d 274 1041 [l0, l1, l2, l3, l4, l5, l6] (vI (a + b) :: st) hs Q := e_iadd ((cd274 1040).trans rfl)
set_option maxRecDepth 20000 in
theorem x274_1041 {sc : Scr} {d : Nat} {l0 l1 l2 l3 l4 l5 l6 : Option V} {st : List V} {hs : HS} {Q : Rs → HS → Prop} {i : Int} (hq : 0 ≤ i ∧ i < (sc.1 : Int) ∧ sc.1 < 2147483648) : Ex sc d 274 1041 [l0, l1, l2, l3, l4, l5, l6] (vI i :: vS 9 :: st) hs Q ↔ Ex sc d 274 1042 [l0, l1, l2, l3, l4, l5, l6] (vI (sc.2 i.toNat) :: st) hs Q := e_ialdS ((cd274 1041).trans rfl) hq
set_option maxRecDepth 20000 in
theorem x274_1042 {sc : Scr} {d : Nat} {l1 l2 l3 l4 l5 l6 : Option V} {st : List V} {hs : HS} {Q : Rs → HS → Prop} {a : Nat} : Ex sc d 274 1042 [some (vS a), l1, l2, l3, l4, l5, l6] st hs Q ↔ Ex sc d 274 1043 [some (vS a), l1, l2, l3, l4, l5, l6] (vS a :: st) hs Q := e_aloadS ((cd274 1042).trans rfl) rfl
set_option maxRecDepth 20000 in
theorem x274_1043 {sc : Scr} {d : Nat} {l0 l1 l2 l3 l5 l6 : Option V} {st : List V} {hs : HS} {Q : Rs → HS → Prop} {a : Int} : Ex sc d 274 1043 [l0, l1, l2, l3, some (vI a), l5, l6] st hs Q ↔ Ex sc d 274 1045 [l0, l1, l2, l3, some (vI a), l5, l6] (vI a :: st) hs Q := e_iload ((cd274 1043).trans rfl) rfl
set_option maxRecDepth 20000 in
theorem x274_1045 {sc : Scr} {d : Nat} {l0 l1 l2 l3 l4 l5 l6 : Option V} {st : List V} {hs : HS} {Q : Rs → HS → Prop} : Ex sc d 274 1045 [l0, l1, l2, l3, l4, l5, l6] st hs Q ↔ Ex sc d 274 1046 [l0, l1, l2, l3, l4, l5, l6] (vI (2) :: st) hs Q := e_iconst ((cd274 1045).trans rfl)
set_option maxRecDepth 20000 in
theorem x274_1046 {sc : Scr} {d : Nat} {l0 l1 l2 l3 l4 l5 l6 : Option V} {st : List V} {hs : HS} {Q : Rs → HS → Prop} {a b : Int} : Ex sc d 274 1046 [l0, l1, l2, l3, l4, l5, l6] (vI b :: vI a :: st) hs Q ↔ Ex sc d 274 1047 [l0, l1, l2, l3, l4, l5, l6] (vI (a + b) :: st) hs Q := e_iadd ((cd274 1046).trans rfl)
set_option maxRecDepth 20000 in
theorem x274_1047 {sc : Scr} {d : Nat} {l0 l1 l2 l3 l4 l5 l6 : Option V} {st : List V} {hs : HS} {Q : Rs → HS → Prop} {i : Int} (hq : 0 ≤ i ∧ i < (sc.1 : Int) ∧ sc.1 < 2147483648) : Ex sc d 274 1047 [l0, l1, l2, l3, l4, l5, l6] (vI i :: vS 9 :: st) hs Q ↔ Ex sc d 274 1048 [l0, l1, l2, l3, l4, l5, l6] (vI (sc.2 i.toNat) :: st) hs Q := e_ialdS ((cd274 1047).trans rfl) hq
set_option maxRecDepth 20000 in
theorem x274_1048 {sc : Scr} {d : Nat} {l1 l2 l3 l4 l5 l6 : Option V} {st : List V} {hs : HS} {Q : Rs → HS → Prop} {a : Nat} : Ex sc d 274 1048 [some (vS a), l1, l2, l3, l4, l5, l6] st hs Q ↔ Ex sc d 274 1049 [some (vS a), l1, l2, l3, l4, l5, l6] (vS a :: st) hs Q := e_aloadS ((cd274 1048).trans rfl) rfl
set_option maxRecDepth 20000 in
theorem x274_1049 {sc : Scr} {d : Nat} {l0 l1 l2 l3 l5 l6 : Option V} {st : List V} {hs : HS} {Q : Rs → HS → Prop} {a : Int} : Ex sc d 274 1049 [l0, l1, l2, l3, some (vI a), l5, l6] st hs Q ↔ Ex sc d 274 1051 [l0, l1, l2, l3, some (vI a), l5, l6] (vI a :: st) hs Q := e_iload ((cd274 1049).trans rfl) rfl
set_option maxRecDepth 20000 in
theorem x274_1051 {sc : Scr} {d : Nat} {l0 l1 l2 l3 l4 l5 l6 : Option V} {st : List V} {hs : HS} {Q : Rs → HS → Prop} : Ex sc d 274 1051 [l0, l1, l2, l3, l4, l5, l6] st hs Q ↔ Ex sc d 274 1052 [l0, l1, l2, l3, l4, l5, l6] (vI (3) :: st) hs Q := e_iconst ((cd274 1051).trans rfl)
set_option maxRecDepth 20000 in
theorem x274_1052 {sc : Scr} {d : Nat} {l0 l1 l2 l3 l4 l5 l6 : Option V} {st : List V} {hs : HS} {Q : Rs → HS → Prop} {a b : Int} : Ex sc d 274 1052 [l0, l1, l2, l3, l4, l5, l6] (vI b :: vI a :: st) hs Q ↔ Ex sc d 274 1053 [l0, l1, l2, l3, l4, l5, l6] (vI (a + b) :: st) hs Q := e_iadd ((cd274 1052).trans rfl)
set_option maxRecDepth 20000 in
theorem x274_1053 {sc : Scr} {d : Nat} {l0 l1 l2 l3 l4 l5 l6 : Option V} {st : List V} {hs : HS} {Q : Rs → HS → Prop} {i : Int} (hq : 0 ≤ i ∧ i < (sc.1 : Int) ∧ sc.1 < 2147483648) : Ex sc d 274 1053 [l0, l1, l2, l3, l4, l5, l6] (vI i :: vS 9 :: st) hs Q ↔ Ex sc d 274 1054 [l0, l1, l2, l3, l4, l5, l6] (vI (sc.2 i.toNat) :: st) hs Q := e_ialdS ((cd274 1053).trans rfl) hq
set_option maxRecDepth 20000 in
theorem x274_1054 {sc : Scr} {d : Nat} {l0 l1 l2 l3 l4 l5 l6 : Option V} {st : List V} {hs : HS} {Q : Rs → HS → Prop} {a0 : Int} {a1 : Int} {a2 : Int} {q : Nat} (hd : 0 < d) (hc : catS st ≤ 8) (ho : isObj hs 12 (vR q) = true) : Ex sc d 274 1054 [l0, l1, l2, l3, l4, l5, l6] (vI a2 :: vI a1 :: vI a0 :: vR q :: st) hs Q ↔ Ex sc (d - 1) 239 0 [some (vR q), some (vI a0), some (vI a1), some (vI a2)] [] hs (Kc sc d 274 1054 1057 [l0, l1, l2, l3, l4, l5, l6] st Q) := e_callV ((cd274 1054).trans rfl) ho (by simp only [List.length_cons]; omega) (by decide) rfl rfl rfl hc rfl hd
set_option maxRecDepth 20000 in
theorem x274_1057 {sc : Scr} {d : Nat} {l0 l1 l2 l3 l4 l5 l6 : Option V} {st : List V} {hs : HS} {Q : Rs → HS → Prop} {a : Int} (hn : notL l5 = true) : Ex sc d 274 1057 [l0, l1, l2, l3, l4, l5, l6] (vI a :: st) hs Q ↔ Ex sc d 274 1059 [l0, l1, l2, l3, l4, l5, some (vI a)] st hs Q := e_istore ((cd274 1057).trans rfl) (by show 6 < 7; decide) (noL_of (j := 5) rfl hn) rfl
set_option maxRecDepth 20000 in
theorem x274_1059 {sc : Scr} {d : Nat} {l0 l1 l3 l4 l5 l6 : Option V} {st : List V} {hs : HS} {Q : Rs → HS → Prop} {a : Nat} : Ex sc d 274 1059 [l0, l1, some (vR a), l3, l4, l5, l6] st hs Q ↔ Ex sc d 274 1060 [l0, l1, some (vR a), l3, l4, l5, l6] (vR a :: st) hs Q := e_aload ((cd274 1059).trans rfl) rfl
set_option maxRecDepth 20000 in
theorem x274_1060 {sc : Scr} {d : Nat} {l0 l1 l2 l3 l4 l5 l6 : Option V} {st : List V} {hs : HS} {Q : Rs → HS → Prop} {q : Nat} (hd : 0 < d) (hc : catS st ≤ 8) (ho : isObj hs 12 (vR q) = true) : Ex sc d 274 1060 [l0, l1, l2, l3, l4, l5, l6] (vR q :: st) hs Q ↔ Ex sc (d - 1) 177 0 [some (vR q)] [] hs (Kc sc d 274 1060 1063 [l0, l1, l2, l3, l4, l5, l6] st Q) := e_callV ((cd274 1060).trans rfl) ho (by simp only [List.length_cons]; omega) (by decide) rfl rfl rfl hc rfl hd
set_option maxRecDepth 20000 in
theorem x274_1063 {sc : Scr} {d : Nat} {l0 l1 l2 l3 l4 l6 : Option V} {st : List V} {hs : HS} {Q : Rs → HS → Prop} {a : Int} : Ex sc d 274 1063 [l0, l1, l2, l3, l4, some (vI a), l6] st hs Q ↔ Ex sc d 274 1065 [l0, l1, l2, l3, l4, some (vI a), l6] (vI a :: st) hs Q := e_iload ((cd274 1063).trans rfl) rfl
set_option maxRecDepth 20000 in
theorem x274_1065 {sc : Scr} {d : Nat} {l0 l1 l2 l3 l4 l5 l6 : Option V} {st : List V} {hs : HS} {Q : Rs → HS → Prop} {a b : Int} (ha : inR a) (hb : inR b) : Ex sc d 274 1065 [l0, l1, l2, l3, l4, l5, l6] (vI b :: vI a :: st) hs Q ↔ if a = b then Ex sc d 274 1070 [l0, l1, l2, l3, l4, l5, l6] st hs Q else Ex sc d 274 1068 [l0, l1, l2, l3, l4, l5, l6] st hs Q := (e_icmp ((cd274 1065).trans rfl) ha hb).trans (by simp only [cmpI, decide_eq_true_eq])
set_option maxRecDepth 20000 in
theorem x274_1068 {sc : Scr} {d : Nat} {l0 l1 l2 l3 l4 l5 l6 : Option V} {st : List V} {hs : HS} {Q : Rs → HS → Prop} : Ex sc d 274 1068 [l0, l1, l2, l3, l4, l5, l6] st hs Q ↔ Ex sc d 274 1069 [l0, l1, l2, l3, l4, l5, l6] (vI (0) :: st) hs Q := e_iconst ((cd274 1068).trans rfl)
set_option maxRecDepth 20000 in
theorem x274_1069 {sc : Scr} {d : Nat} {l0 l1 l2 l3 l4 l5 l6 : Option V} {hs : HS} {Q : Rs → HS → Prop} {a : Int} (ha : a = 0 ∨ a = 1) : Ex sc d 274 1069 [l0, l1, l2, l3, l4, l5, l6] [vI a] hs Q ↔ Q (.inl (some (vI a))) hs := e_zret ((cd274 1069).trans rfl) rfl ha
set_option maxRecDepth 20000 in
theorem x274_1070 {sc : Scr} {d : Nat} {l0 l1 l2 l3 l4 l6 : Option V} {st : List V} {hs : HS} {Q : Rs → HS → Prop} {a : Int} : Ex sc d 274 1070 [l0, l1, l2, l3, l4, some (vI a), l6] st hs Q ↔ Ex sc d 274 1072 [l0, l1, l2, l3, l4, some (vI a), l6] (vI a :: st) hs Q := e_iload ((cd274 1070).trans rfl) rfl
set_option maxRecDepth 20000 in
theorem x274_1072 {sc : Scr} {d : Nat} {l0 l1 l2 l3 l4 l5 l6 : Option V} {st : List V} {hs : HS} {Q : Rs → HS → Prop} {a : Int} (ha : inR a) : Ex sc d 274 1072 [l0, l1, l2, l3, l4, l5, l6] (vI a :: st) hs Q ↔ if ¬ a = 0 then Ex sc d 274 1087 [l0, l1, l2, l3, l4, l5, l6] st hs Q else Ex sc d 274 1075 [l0, l1, l2, l3, l4, l5, l6] st hs Q := (e_if ((cd274 1072).trans rfl) ha).trans (by simp only [cmpI, decide_eq_true_eq])
set_option maxRecDepth 20000 in
theorem x274_1075 {sc : Scr} {d : Nat} {l0 l1 l2 l4 l5 l6 : Option V} {st : List V} {hs : HS} {Q : Rs → HS → Prop} {a : Nat} : Ex sc d 274 1075 [l0, l1, l2, some (vR a), l4, l5, l6] st hs Q ↔ Ex sc d 274 1076 [l0, l1, l2, some (vR a), l4, l5, l6] (vR a :: st) hs Q := e_aload ((cd274 1075).trans rfl) rfl
set_option maxRecDepth 20000 in
theorem x274_1076 {sc : Scr} {d : Nat} {l0 l1 l2 l3 l4 l5 l6 : Option V} {st : List V} {hs : HS} {Q : Rs → HS → Prop} : Ex sc d 274 1076 [l0, l1, l2, l3, l4, l5, l6] st hs Q ↔ Ex sc d 274 1077 [l0, l1, l2, l3, l4, l5, l6] (vI (0) :: st) hs Q := e_iconst ((cd274 1076).trans rfl)
set_option maxRecDepth 20000 in
theorem x274_1077 {sc : Scr} {d : Nat} {l0 l1 l2 l3 l4 l5 l6 : Option V} {st : List V} {hs : HS} {Q : Rs → HS → Prop} {a : Nat} {i : Int} : Ex sc d 274 1077 [l0, l1, l2, l3, l4, l5, l6] (vI i :: vR a :: st) hs Q ↔ Ra hs 2 a i (fun z => Ex sc d 274 1078 [l0, l1, l2, l3, l4, l5, l6] (vL z :: st) hs Q) := e_lald ((cd274 1077).trans rfl)
set_option maxRecDepth 20000 in
theorem x274_1078 {sc : Scr} {d : Nat} {l0 l1 l2 l3 l4 l5 : Option V} {st : List V} {hs : HS} {Q : Rs → HS → Prop} {a : Int} : Ex sc d 274 1078 [l0, l1, l2, l3, l4, l5, some (vI a)] st hs Q ↔ Ex sc d 274 1080 [l0, l1, l2, l3, l4, l5, some (vI a)] (vI a :: st) hs Q := e_iload ((cd274 1078).trans rfl) rfl
set_option maxRecDepth 20000 in
theorem x274_1080 {sc : Scr} {d : Nat} {l0 l1 l2 l3 l4 l5 l6 : Option V} {st : List V} {hs : HS} {Q : Rs → HS → Prop} {a : Int} (ha : inR a) : Ex sc d 274 1080 [l0, l1, l2, l3, l4, l5, l6] (vI a :: st) hs Q ↔ Ex sc d 274 1081 [l0, l1, l2, l3, l4, l5, l6] (vL a :: st) hs Q := e_i2l ((cd274 1080).trans rfl) ha
set_option maxRecDepth 20000 in
theorem x274_1081 {sc : Scr} {d : Nat} {l0 l1 l2 l3 l4 l5 l6 : Option V} {st : List V} {hs : HS} {Q : Rs → HS → Prop} {a b : Int} (ha : inL a) (hb : inL b) : Ex sc d 274 1081 [l0, l1, l2, l3, l4, l5, l6] (vL b :: vL a :: st) hs Q ↔ Ex sc d 274 1082 [l0, l1, l2, l3, l4, l5, l6] (vI (if a < b then -1 else if a = b then 0 else 1) :: st) hs Q := e_lcmp ((cd274 1081).trans rfl) ha hb
set_option maxRecDepth 20000 in
theorem x274_1082 {sc : Scr} {d : Nat} {l0 l1 l2 l3 l4 l5 l6 : Option V} {st : List V} {hs : HS} {Q : Rs → HS → Prop} {a : Int} (ha : inR a) : Ex sc d 274 1082 [l0, l1, l2, l3, l4, l5, l6] (vI a :: st) hs Q ↔ if a = 0 then Ex sc d 274 1087 [l0, l1, l2, l3, l4, l5, l6] st hs Q else Ex sc d 274 1085 [l0, l1, l2, l3, l4, l5, l6] st hs Q := (e_if ((cd274 1082).trans rfl) ha).trans (by simp only [cmpI, decide_eq_true_eq])
set_option maxRecDepth 20000 in
theorem x274_1085 {sc : Scr} {d : Nat} {l0 l1 l2 l3 l4 l5 l6 : Option V} {st : List V} {hs : HS} {Q : Rs → HS → Prop} : Ex sc d 274 1085 [l0, l1, l2, l3, l4, l5, l6] st hs Q ↔ Ex sc d 274 1086 [l0, l1, l2, l3, l4, l5, l6] (vI (0) :: st) hs Q := e_iconst ((cd274 1085).trans rfl)
set_option maxRecDepth 20000 in
theorem x274_1086 {sc : Scr} {d : Nat} {l0 l1 l2 l3 l4 l5 l6 : Option V} {hs : HS} {Q : Rs → HS → Prop} {a : Int} (ha : a = 0 ∨ a = 1) : Ex sc d 274 1086 [l0, l1, l2, l3, l4, l5, l6] [vI a] hs Q ↔ Q (.inl (some (vI a))) hs := e_zret ((cd274 1086).trans rfl) rfl ha
set_option maxRecDepth 20000 in
theorem x274_1087 {sc : Scr} {d : Nat} {l0 l1 l2 l3 l4 l5 l6 : Option V} {st : List V} {hs : HS} {Q : Rs → HS → Prop} : Ex sc d 274 1087 [l0, l1, l2, l3, l4, l5, l6] st hs Q ↔ Ex sc d 274 1660 [l0, l1, l2, l3, l4, l5, l6] st hs Q := e_goto ((cd274 1087).trans rfl)
set_option maxRecDepth 20000 in
theorem x274_1090 {sc : Scr} {d : Nat} {l0 l2 l3 l4 l5 l6 : Option V} {st : List V} {hs : HS} {Q : Rs → HS → Prop} {a : Nat} : Ex sc d 274 1090 [l0, some (vR a), l2, l3, l4, l5, l6] st hs Q ↔ Ex sc d 274 1091 [l0, some (vR a), l2, l3, l4, l5, l6] (vR a :: st) hs Q := e_aload ((cd274 1090).trans rfl) rfl
set_option maxRecDepth 20000 in
theorem x274_1091 {sc : Scr} {d : Nat} {l1 l2 l3 l4 l5 l6 : Option V} {st : List V} {hs : HS} {Q : Rs → HS → Prop} {a : Nat} : Ex sc d 274 1091 [some (vS a), l1, l2, l3, l4, l5, l6] st hs Q ↔ Ex sc d 274 1092 [some (vS a), l1, l2, l3, l4, l5, l6] (vS a :: st) hs Q := e_aloadS ((cd274 1091).trans rfl) rfl
set_option maxRecDepth 20000 in
theorem x274_1092 {sc : Scr} {d : Nat} {l0 l1 l2 l3 l5 l6 : Option V} {st : List V} {hs : HS} {Q : Rs → HS → Prop} {a : Int} : Ex sc d 274 1092 [l0, l1, l2, l3, some (vI a), l5, l6] st hs Q ↔ Ex sc d 274 1094 [l0, l1, l2, l3, some (vI a), l5, l6] (vI a :: st) hs Q := e_iload ((cd274 1092).trans rfl) rfl
set_option maxRecDepth 20000 in
theorem x274_1094 {sc : Scr} {d : Nat} {l0 l1 l2 l3 l4 l5 l6 : Option V} {st : List V} {hs : HS} {Q : Rs → HS → Prop} : Ex sc d 274 1094 [l0, l1, l2, l3, l4, l5, l6] st hs Q ↔ Ex sc d 274 1095 [l0, l1, l2, l3, l4, l5, l6] (vI (1) :: st) hs Q := e_iconst ((cd274 1094).trans rfl)
set_option maxRecDepth 20000 in
theorem x274_1095 {sc : Scr} {d : Nat} {l0 l1 l2 l3 l4 l5 l6 : Option V} {st : List V} {hs : HS} {Q : Rs → HS → Prop} {a b : Int} : Ex sc d 274 1095 [l0, l1, l2, l3, l4, l5, l6] (vI b :: vI a :: st) hs Q ↔ Ex sc d 274 1096 [l0, l1, l2, l3, l4, l5, l6] (vI (a + b) :: st) hs Q := e_iadd ((cd274 1095).trans rfl)
set_option maxRecDepth 20000 in
theorem x274_1096 {sc : Scr} {d : Nat} {l0 l1 l2 l3 l4 l5 l6 : Option V} {st : List V} {hs : HS} {Q : Rs → HS → Prop} {i : Int} (hq : 0 ≤ i ∧ i < (sc.1 : Int) ∧ sc.1 < 2147483648) : Ex sc d 274 1096 [l0, l1, l2, l3, l4, l5, l6] (vI i :: vS 9 :: st) hs Q ↔ Ex sc d 274 1097 [l0, l1, l2, l3, l4, l5, l6] (vI (sc.2 i.toNat) :: st) hs Q := e_ialdS ((cd274 1096).trans rfl) hq
set_option maxRecDepth 20000 in
theorem x274_1097 {sc : Scr} {d : Nat} {l1 l2 l3 l4 l5 l6 : Option V} {st : List V} {hs : HS} {Q : Rs → HS → Prop} {a : Nat} : Ex sc d 274 1097 [some (vS a), l1, l2, l3, l4, l5, l6] st hs Q ↔ Ex sc d 274 1098 [some (vS a), l1, l2, l3, l4, l5, l6] (vS a :: st) hs Q := e_aloadS ((cd274 1097).trans rfl) rfl
set_option maxRecDepth 20000 in
theorem x274_1098 {sc : Scr} {d : Nat} {l0 l1 l2 l3 l5 l6 : Option V} {st : List V} {hs : HS} {Q : Rs → HS → Prop} {a : Int} : Ex sc d 274 1098 [l0, l1, l2, l3, some (vI a), l5, l6] st hs Q ↔ Ex sc d 274 1100 [l0, l1, l2, l3, some (vI a), l5, l6] (vI a :: st) hs Q := e_iload ((cd274 1098).trans rfl) rfl
set_option maxRecDepth 20000 in
theorem x274_1100 {sc : Scr} {d : Nat} {l0 l1 l2 l3 l4 l5 l6 : Option V} {st : List V} {hs : HS} {Q : Rs → HS → Prop} : Ex sc d 274 1100 [l0, l1, l2, l3, l4, l5, l6] st hs Q ↔ Ex sc d 274 1101 [l0, l1, l2, l3, l4, l5, l6] (vI (2) :: st) hs Q := e_iconst ((cd274 1100).trans rfl)
set_option maxRecDepth 20000 in
theorem x274_1101 {sc : Scr} {d : Nat} {l0 l1 l2 l3 l4 l5 l6 : Option V} {st : List V} {hs : HS} {Q : Rs → HS → Prop} {a b : Int} : Ex sc d 274 1101 [l0, l1, l2, l3, l4, l5, l6] (vI b :: vI a :: st) hs Q ↔ Ex sc d 274 1102 [l0, l1, l2, l3, l4, l5, l6] (vI (a + b) :: st) hs Q := e_iadd ((cd274 1101).trans rfl)
set_option maxRecDepth 20000 in
theorem x274_1102 {sc : Scr} {d : Nat} {l0 l1 l2 l3 l4 l5 l6 : Option V} {st : List V} {hs : HS} {Q : Rs → HS → Prop} {i : Int} (hq : 0 ≤ i ∧ i < (sc.1 : Int) ∧ sc.1 < 2147483648) : Ex sc d 274 1102 [l0, l1, l2, l3, l4, l5, l6] (vI i :: vS 9 :: st) hs Q ↔ Ex sc d 274 1103 [l0, l1, l2, l3, l4, l5, l6] (vI (sc.2 i.toNat) :: st) hs Q := e_ialdS ((cd274 1102).trans rfl) hq
set_option maxRecDepth 20000 in
theorem x274_1103 {sc : Scr} {d : Nat} {l0 l1 l2 l4 l5 l6 : Option V} {st : List V} {hs : HS} {Q : Rs → HS → Prop} {a : Nat} : Ex sc d 274 1103 [l0, l1, l2, some (vR a), l4, l5, l6] st hs Q ↔ Ex sc d 274 1104 [l0, l1, l2, some (vR a), l4, l5, l6] (vR a :: st) hs Q := e_aload ((cd274 1103).trans rfl) rfl
set_option maxRecDepth 20000 in
theorem x274_1104 {sc : Scr} {d : Nat} {l0 l1 l2 l3 l4 l5 l6 : Option V} {st : List V} {hs : HS} {Q : Rs → HS → Prop} {a0 : Nat} {a1 : Int} {a2 : Int} {a3 : Nat} (hd : 0 < d) (hc : catS st ≤ 8) : Ex sc d 274 1104 [l0, l1, l2, l3, l4, l5, l6] (vR a3 :: vI a2 :: vI a1 :: vR a0 :: st) hs Q ↔ Ex sc (d - 1) 131 0 [some (vR a0), some (vI a1), some (vI a2), some (vR a3), none] [] hs (Kc sc d 274 1104 1107 [l0, l1, l2, l3, l4, l5, l6] st Q) := e_callS ((cd274 1104).trans rfl) (by simp only [List.length_cons]; omega) (by decide) rfl rfl rfl hc rfl hd
set_option maxRecDepth 20000 in
theorem x274_1107 {sc : Scr} {d : Nat} {l0 l1 l2 l3 l4 l5 l6 : Option V} {st : List V} {hs : HS} {Q : Rs → HS → Prop} {a : Int} (hn : notL l4 = true) : Ex sc d 274 1107 [l0, l1, l2, l3, l4, l5, l6] (vI a :: st) hs Q ↔ Ex sc d 274 1109 [l0, l1, l2, l3, l4, some (vI a), l6] st hs Q := e_istore ((cd274 1107).trans rfl) (by show 5 < 7; decide) (noL_of (j := 4) rfl hn) rfl
set_option maxRecDepth 20000 in
theorem x274_1109 {sc : Scr} {d : Nat} {l0 l1 l3 l4 l5 l6 : Option V} {st : List V} {hs : HS} {Q : Rs → HS → Prop} {a : Nat} : Ex sc d 274 1109 [l0, l1, some (vR a), l3, l4, l5, l6] st hs Q ↔ Ex sc d 274 1110 [l0, l1, some (vR a), l3, l4, l5, l6] (vR a :: st) hs Q := e_aload ((cd274 1109).trans rfl) rfl
set_option maxRecDepth 20000 in
theorem x274_1110 {sc : Scr} {d : Nat} {l1 l2 l3 l4 l5 l6 : Option V} {st : List V} {hs : HS} {Q : Rs → HS → Prop} {a : Nat} : Ex sc d 274 1110 [some (vS a), l1, l2, l3, l4, l5, l6] st hs Q ↔ Ex sc d 274 1111 [some (vS a), l1, l2, l3, l4, l5, l6] (vS a :: st) hs Q := e_aloadS ((cd274 1110).trans rfl) rfl
set_option maxRecDepth 20000 in
theorem x274_1111 {sc : Scr} {d : Nat} {l0 l1 l2 l3 l5 l6 : Option V} {st : List V} {hs : HS} {Q : Rs → HS → Prop} {a : Int} : Ex sc d 274 1111 [l0, l1, l2, l3, some (vI a), l5, l6] st hs Q ↔ Ex sc d 274 1113 [l0, l1, l2, l3, some (vI a), l5, l6] (vI a :: st) hs Q := e_iload ((cd274 1111).trans rfl) rfl
set_option maxRecDepth 20000 in
theorem x274_1113 {sc : Scr} {d : Nat} {l0 l1 l2 l3 l4 l5 l6 : Option V} {st : List V} {hs : HS} {Q : Rs → HS → Prop} : Ex sc d 274 1113 [l0, l1, l2, l3, l4, l5, l6] st hs Q ↔ Ex sc d 274 1114 [l0, l1, l2, l3, l4, l5, l6] (vI (1) :: st) hs Q := e_iconst ((cd274 1113).trans rfl)
set_option maxRecDepth 20000 in
theorem x274_1114 {sc : Scr} {d : Nat} {l0 l1 l2 l3 l4 l5 l6 : Option V} {st : List V} {hs : HS} {Q : Rs → HS → Prop} {a b : Int} : Ex sc d 274 1114 [l0, l1, l2, l3, l4, l5, l6] (vI b :: vI a :: st) hs Q ↔ Ex sc d 274 1115 [l0, l1, l2, l3, l4, l5, l6] (vI (a + b) :: st) hs Q := e_iadd ((cd274 1114).trans rfl)
set_option maxRecDepth 20000 in
theorem x274_1115 {sc : Scr} {d : Nat} {l0 l1 l2 l3 l4 l5 l6 : Option V} {st : List V} {hs : HS} {Q : Rs → HS → Prop} {i : Int} (hq : 0 ≤ i ∧ i < (sc.1 : Int) ∧ sc.1 < 2147483648) : Ex sc d 274 1115 [l0, l1, l2, l3, l4, l5, l6] (vI i :: vS 9 :: st) hs Q ↔ Ex sc d 274 1116 [l0, l1, l2, l3, l4, l5, l6] (vI (sc.2 i.toNat) :: st) hs Q := e_ialdS ((cd274 1115).trans rfl) hq
set_option maxRecDepth 20000 in
theorem x274_1116 {sc : Scr} {d : Nat} {l1 l2 l3 l4 l5 l6 : Option V} {st : List V} {hs : HS} {Q : Rs → HS → Prop} {a : Nat} : Ex sc d 274 1116 [some (vS a), l1, l2, l3, l4, l5, l6] st hs Q ↔ Ex sc d 274 1117 [some (vS a), l1, l2, l3, l4, l5, l6] (vS a :: st) hs Q := e_aloadS ((cd274 1116).trans rfl) rfl
set_option maxRecDepth 20000 in
theorem x274_1117 {sc : Scr} {d : Nat} {l0 l1 l2 l3 l5 l6 : Option V} {st : List V} {hs : HS} {Q : Rs → HS → Prop} {a : Int} : Ex sc d 274 1117 [l0, l1, l2, l3, some (vI a), l5, l6] st hs Q ↔ Ex sc d 274 1119 [l0, l1, l2, l3, some (vI a), l5, l6] (vI a :: st) hs Q := e_iload ((cd274 1117).trans rfl) rfl
set_option maxRecDepth 20000 in
theorem x274_1119 {sc : Scr} {d : Nat} {l0 l1 l2 l3 l4 l5 l6 : Option V} {st : List V} {hs : HS} {Q : Rs → HS → Prop} : Ex sc d 274 1119 [l0, l1, l2, l3, l4, l5, l6] st hs Q ↔ Ex sc d 274 1120 [l0, l1, l2, l3, l4, l5, l6] (vI (2) :: st) hs Q := e_iconst ((cd274 1119).trans rfl)
set_option maxRecDepth 20000 in
theorem x274_1120 {sc : Scr} {d : Nat} {l0 l1 l2 l3 l4 l5 l6 : Option V} {st : List V} {hs : HS} {Q : Rs → HS → Prop} {a b : Int} : Ex sc d 274 1120 [l0, l1, l2, l3, l4, l5, l6] (vI b :: vI a :: st) hs Q ↔ Ex sc d 274 1121 [l0, l1, l2, l3, l4, l5, l6] (vI (a + b) :: st) hs Q := e_iadd ((cd274 1120).trans rfl)
set_option maxRecDepth 20000 in
theorem x274_1121 {sc : Scr} {d : Nat} {l0 l1 l2 l3 l4 l5 l6 : Option V} {st : List V} {hs : HS} {Q : Rs → HS → Prop} {i : Int} (hq : 0 ≤ i ∧ i < (sc.1 : Int) ∧ sc.1 < 2147483648) : Ex sc d 274 1121 [l0, l1, l2, l3, l4, l5, l6] (vI i :: vS 9 :: st) hs Q ↔ Ex sc d 274 1122 [l0, l1, l2, l3, l4, l5, l6] (vI (sc.2 i.toNat) :: st) hs Q := e_ialdS ((cd274 1121).trans rfl) hq
set_option maxRecDepth 20000 in
theorem x274_1122 {sc : Scr} {d : Nat} {l0 l1 l2 l3 l4 l5 l6 : Option V} {st : List V} {hs : HS} {Q : Rs → HS → Prop} {a0 : Int} {a1 : Int} {q : Nat} (hd : 0 < d) (hc : catS st ≤ 8) (ho : isObj hs 12 (vR q) = true) : Ex sc d 274 1122 [l0, l1, l2, l3, l4, l5, l6] (vI a1 :: vI a0 :: vR q :: st) hs Q ↔ Ex sc (d - 1) 240 0 [some (vR q), some (vI a0), some (vI a1)] [] hs (Kc sc d 274 1122 1125 [l0, l1, l2, l3, l4, l5, l6] st Q) := e_callV ((cd274 1122).trans rfl) ho (by simp only [List.length_cons]; omega) (by decide) rfl rfl rfl hc rfl hd
set_option maxRecDepth 20000 in
theorem x274_1125 {sc : Scr} {d : Nat} {l0 l1 l2 l3 l4 l5 l6 : Option V} {st : List V} {hs : HS} {Q : Rs → HS → Prop} {a : Int} (hn : notL l5 = true) : Ex sc d 274 1125 [l0, l1, l2, l3, l4, l5, l6] (vI a :: st) hs Q ↔ Ex sc d 274 1127 [l0, l1, l2, l3, l4, l5, some (vI a)] st hs Q := e_istore ((cd274 1125).trans rfl) (by show 6 < 7; decide) (noL_of (j := 5) rfl hn) rfl
set_option maxRecDepth 20000 in
theorem x274_1127 {sc : Scr} {d : Nat} {l0 l1 l3 l4 l5 l6 : Option V} {st : List V} {hs : HS} {Q : Rs → HS → Prop} {a : Nat} : Ex sc d 274 1127 [l0, l1, some (vR a), l3, l4, l5, l6] st hs Q ↔ Ex sc d 274 1128 [l0, l1, some (vR a), l3, l4, l5, l6] (vR a :: st) hs Q := e_aload ((cd274 1127).trans rfl) rfl
set_option maxRecDepth 20000 in
theorem x274_1128 {sc : Scr} {d : Nat} {l0 l1 l2 l3 l4 l5 l6 : Option V} {st : List V} {hs : HS} {Q : Rs → HS → Prop} {q : Nat} (hd : 0 < d) (hc : catS st ≤ 8) (ho : isObj hs 12 (vR q) = true) : Ex sc d 274 1128 [l0, l1, l2, l3, l4, l5, l6] (vR q :: st) hs Q ↔ Ex sc (d - 1) 177 0 [some (vR q)] [] hs (Kc sc d 274 1128 1131 [l0, l1, l2, l3, l4, l5, l6] st Q) := e_callV ((cd274 1128).trans rfl) ho (by simp only [List.length_cons]; omega) (by decide) rfl rfl rfl hc rfl hd
set_option maxRecDepth 20000 in
theorem x274_1131 {sc : Scr} {d : Nat} {l0 l1 l2 l3 l4 l6 : Option V} {st : List V} {hs : HS} {Q : Rs → HS → Prop} {a : Int} : Ex sc d 274 1131 [l0, l1, l2, l3, l4, some (vI a), l6] st hs Q ↔ Ex sc d 274 1133 [l0, l1, l2, l3, l4, some (vI a), l6] (vI a :: st) hs Q := e_iload ((cd274 1131).trans rfl) rfl
set_option maxRecDepth 20000 in
theorem x274_1133 {sc : Scr} {d : Nat} {l0 l1 l2 l3 l4 l5 l6 : Option V} {st : List V} {hs : HS} {Q : Rs → HS → Prop} {a b : Int} (ha : inR a) (hb : inR b) : Ex sc d 274 1133 [l0, l1, l2, l3, l4, l5, l6] (vI b :: vI a :: st) hs Q ↔ if a = b then Ex sc d 274 1138 [l0, l1, l2, l3, l4, l5, l6] st hs Q else Ex sc d 274 1136 [l0, l1, l2, l3, l4, l5, l6] st hs Q := (e_icmp ((cd274 1133).trans rfl) ha hb).trans (by simp only [cmpI, decide_eq_true_eq])
set_option maxRecDepth 20000 in
theorem x274_1136 {sc : Scr} {d : Nat} {l0 l1 l2 l3 l4 l5 l6 : Option V} {st : List V} {hs : HS} {Q : Rs → HS → Prop} : Ex sc d 274 1136 [l0, l1, l2, l3, l4, l5, l6] st hs Q ↔ Ex sc d 274 1137 [l0, l1, l2, l3, l4, l5, l6] (vI (0) :: st) hs Q := e_iconst ((cd274 1136).trans rfl)
set_option maxRecDepth 20000 in
theorem x274_1137 {sc : Scr} {d : Nat} {l0 l1 l2 l3 l4 l5 l6 : Option V} {hs : HS} {Q : Rs → HS → Prop} {a : Int} (ha : a = 0 ∨ a = 1) : Ex sc d 274 1137 [l0, l1, l2, l3, l4, l5, l6] [vI a] hs Q ↔ Q (.inl (some (vI a))) hs := e_zret ((cd274 1137).trans rfl) rfl ha
set_option maxRecDepth 20000 in
theorem x274_1138 {sc : Scr} {d : Nat} {l0 l1 l2 l3 l4 l6 : Option V} {st : List V} {hs : HS} {Q : Rs → HS → Prop} {a : Int} : Ex sc d 274 1138 [l0, l1, l2, l3, l4, some (vI a), l6] st hs Q ↔ Ex sc d 274 1140 [l0, l1, l2, l3, l4, some (vI a), l6] (vI a :: st) hs Q := e_iload ((cd274 1138).trans rfl) rfl
set_option maxRecDepth 20000 in
theorem x274_1140 {sc : Scr} {d : Nat} {l0 l1 l2 l3 l4 l5 l6 : Option V} {st : List V} {hs : HS} {Q : Rs → HS → Prop} {a : Int} (ha : inR a) : Ex sc d 274 1140 [l0, l1, l2, l3, l4, l5, l6] (vI a :: st) hs Q ↔ if ¬ a = 0 then Ex sc d 274 1155 [l0, l1, l2, l3, l4, l5, l6] st hs Q else Ex sc d 274 1143 [l0, l1, l2, l3, l4, l5, l6] st hs Q := (e_if ((cd274 1140).trans rfl) ha).trans (by simp only [cmpI, decide_eq_true_eq])
set_option maxRecDepth 20000 in
theorem x274_1143 {sc : Scr} {d : Nat} {l0 l1 l2 l4 l5 l6 : Option V} {st : List V} {hs : HS} {Q : Rs → HS → Prop} {a : Nat} : Ex sc d 274 1143 [l0, l1, l2, some (vR a), l4, l5, l6] st hs Q ↔ Ex sc d 274 1144 [l0, l1, l2, some (vR a), l4, l5, l6] (vR a :: st) hs Q := e_aload ((cd274 1143).trans rfl) rfl
set_option maxRecDepth 20000 in
theorem x274_1144 {sc : Scr} {d : Nat} {l0 l1 l2 l3 l4 l5 l6 : Option V} {st : List V} {hs : HS} {Q : Rs → HS → Prop} : Ex sc d 274 1144 [l0, l1, l2, l3, l4, l5, l6] st hs Q ↔ Ex sc d 274 1145 [l0, l1, l2, l3, l4, l5, l6] (vI (0) :: st) hs Q := e_iconst ((cd274 1144).trans rfl)
set_option maxRecDepth 20000 in
theorem x274_1145 {sc : Scr} {d : Nat} {l0 l1 l2 l3 l4 l5 l6 : Option V} {st : List V} {hs : HS} {Q : Rs → HS → Prop} {a : Nat} {i : Int} : Ex sc d 274 1145 [l0, l1, l2, l3, l4, l5, l6] (vI i :: vR a :: st) hs Q ↔ Ra hs 2 a i (fun z => Ex sc d 274 1146 [l0, l1, l2, l3, l4, l5, l6] (vL z :: st) hs Q) := e_lald ((cd274 1145).trans rfl)
set_option maxRecDepth 20000 in
theorem x274_1146 {sc : Scr} {d : Nat} {l0 l1 l2 l3 l4 l5 : Option V} {st : List V} {hs : HS} {Q : Rs → HS → Prop} {a : Int} : Ex sc d 274 1146 [l0, l1, l2, l3, l4, l5, some (vI a)] st hs Q ↔ Ex sc d 274 1148 [l0, l1, l2, l3, l4, l5, some (vI a)] (vI a :: st) hs Q := e_iload ((cd274 1146).trans rfl) rfl
set_option maxRecDepth 20000 in
theorem x274_1148 {sc : Scr} {d : Nat} {l0 l1 l2 l3 l4 l5 l6 : Option V} {st : List V} {hs : HS} {Q : Rs → HS → Prop} {a : Int} (ha : inR a) : Ex sc d 274 1148 [l0, l1, l2, l3, l4, l5, l6] (vI a :: st) hs Q ↔ Ex sc d 274 1149 [l0, l1, l2, l3, l4, l5, l6] (vL a :: st) hs Q := e_i2l ((cd274 1148).trans rfl) ha
set_option maxRecDepth 20000 in
theorem x274_1149 {sc : Scr} {d : Nat} {l0 l1 l2 l3 l4 l5 l6 : Option V} {st : List V} {hs : HS} {Q : Rs → HS → Prop} {a b : Int} (ha : inL a) (hb : inL b) : Ex sc d 274 1149 [l0, l1, l2, l3, l4, l5, l6] (vL b :: vL a :: st) hs Q ↔ Ex sc d 274 1150 [l0, l1, l2, l3, l4, l5, l6] (vI (if a < b then -1 else if a = b then 0 else 1) :: st) hs Q := e_lcmp ((cd274 1149).trans rfl) ha hb
set_option maxRecDepth 20000 in
theorem x274_1150 {sc : Scr} {d : Nat} {l0 l1 l2 l3 l4 l5 l6 : Option V} {st : List V} {hs : HS} {Q : Rs → HS → Prop} {a : Int} (ha : inR a) : Ex sc d 274 1150 [l0, l1, l2, l3, l4, l5, l6] (vI a :: st) hs Q ↔ if a = 0 then Ex sc d 274 1155 [l0, l1, l2, l3, l4, l5, l6] st hs Q else Ex sc d 274 1153 [l0, l1, l2, l3, l4, l5, l6] st hs Q := (e_if ((cd274 1150).trans rfl) ha).trans (by simp only [cmpI, decide_eq_true_eq])
set_option maxRecDepth 20000 in
theorem x274_1153 {sc : Scr} {d : Nat} {l0 l1 l2 l3 l4 l5 l6 : Option V} {st : List V} {hs : HS} {Q : Rs → HS → Prop} : Ex sc d 274 1153 [l0, l1, l2, l3, l4, l5, l6] st hs Q ↔ Ex sc d 274 1154 [l0, l1, l2, l3, l4, l5, l6] (vI (0) :: st) hs Q := e_iconst ((cd274 1153).trans rfl)
set_option maxRecDepth 20000 in
theorem x274_1154 {sc : Scr} {d : Nat} {l0 l1 l2 l3 l4 l5 l6 : Option V} {hs : HS} {Q : Rs → HS → Prop} {a : Int} (ha : a = 0 ∨ a = 1) : Ex sc d 274 1154 [l0, l1, l2, l3, l4, l5, l6] [vI a] hs Q ↔ Q (.inl (some (vI a))) hs := e_zret ((cd274 1154).trans rfl) rfl ha
set_option maxRecDepth 20000 in
theorem x274_1155 {sc : Scr} {d : Nat} {l0 l1 l2 l3 l4 l5 l6 : Option V} {st : List V} {hs : HS} {Q : Rs → HS → Prop} : Ex sc d 274 1155 [l0, l1, l2, l3, l4, l5, l6] st hs Q ↔ Ex sc d 274 1660 [l0, l1, l2, l3, l4, l5, l6] st hs Q := e_goto ((cd274 1155).trans rfl)
set_option maxRecDepth 20000 in
theorem x274_1158 {sc : Scr} {d : Nat} {l0 l2 l3 l4 l5 l6 : Option V} {st : List V} {hs : HS} {Q : Rs → HS → Prop} {a : Nat} : Ex sc d 274 1158 [l0, some (vR a), l2, l3, l4, l5, l6] st hs Q ↔ Ex sc d 274 1159 [l0, some (vR a), l2, l3, l4, l5, l6] (vR a :: st) hs Q := e_aload ((cd274 1158).trans rfl) rfl
set_option maxRecDepth 20000 in
theorem x274_1159 {sc : Scr} {d : Nat} {l1 l2 l3 l4 l5 l6 : Option V} {st : List V} {hs : HS} {Q : Rs → HS → Prop} {a : Nat} : Ex sc d 274 1159 [some (vS a), l1, l2, l3, l4, l5, l6] st hs Q ↔ Ex sc d 274 1160 [some (vS a), l1, l2, l3, l4, l5, l6] (vS a :: st) hs Q := e_aloadS ((cd274 1159).trans rfl) rfl
set_option maxRecDepth 20000 in
theorem x274_1160 {sc : Scr} {d : Nat} {l0 l1 l2 l3 l5 l6 : Option V} {st : List V} {hs : HS} {Q : Rs → HS → Prop} {a : Int} : Ex sc d 274 1160 [l0, l1, l2, l3, some (vI a), l5, l6] st hs Q ↔ Ex sc d 274 1162 [l0, l1, l2, l3, some (vI a), l5, l6] (vI a :: st) hs Q := e_iload ((cd274 1160).trans rfl) rfl
set_option maxRecDepth 20000 in
theorem x274_1162 {sc : Scr} {d : Nat} {l0 l1 l2 l3 l4 l5 l6 : Option V} {st : List V} {hs : HS} {Q : Rs → HS → Prop} : Ex sc d 274 1162 [l0, l1, l2, l3, l4, l5, l6] st hs Q ↔ Ex sc d 274 1163 [l0, l1, l2, l3, l4, l5, l6] (vI (1) :: st) hs Q := e_iconst ((cd274 1162).trans rfl)
set_option maxRecDepth 20000 in
theorem x274_1163 {sc : Scr} {d : Nat} {l0 l1 l2 l3 l4 l5 l6 : Option V} {st : List V} {hs : HS} {Q : Rs → HS → Prop} {a b : Int} : Ex sc d 274 1163 [l0, l1, l2, l3, l4, l5, l6] (vI b :: vI a :: st) hs Q ↔ Ex sc d 274 1164 [l0, l1, l2, l3, l4, l5, l6] (vI (a + b) :: st) hs Q := e_iadd ((cd274 1163).trans rfl)
set_option maxRecDepth 20000 in
theorem x274_1164 {sc : Scr} {d : Nat} {l0 l1 l2 l3 l4 l5 l6 : Option V} {st : List V} {hs : HS} {Q : Rs → HS → Prop} {i : Int} (hq : 0 ≤ i ∧ i < (sc.1 : Int) ∧ sc.1 < 2147483648) : Ex sc d 274 1164 [l0, l1, l2, l3, l4, l5, l6] (vI i :: vS 9 :: st) hs Q ↔ Ex sc d 274 1165 [l0, l1, l2, l3, l4, l5, l6] (vI (sc.2 i.toNat) :: st) hs Q := e_ialdS ((cd274 1164).trans rfl) hq
set_option maxRecDepth 20000 in
theorem x274_1165 {sc : Scr} {d : Nat} {l1 l2 l3 l4 l5 l6 : Option V} {st : List V} {hs : HS} {Q : Rs → HS → Prop} {a : Nat} : Ex sc d 274 1165 [some (vS a), l1, l2, l3, l4, l5, l6] st hs Q ↔ Ex sc d 274 1166 [some (vS a), l1, l2, l3, l4, l5, l6] (vS a :: st) hs Q := e_aloadS ((cd274 1165).trans rfl) rfl
set_option maxRecDepth 20000 in
theorem x274_1166 {sc : Scr} {d : Nat} {l0 l1 l2 l3 l5 l6 : Option V} {st : List V} {hs : HS} {Q : Rs → HS → Prop} {a : Int} : Ex sc d 274 1166 [l0, l1, l2, l3, some (vI a), l5, l6] st hs Q ↔ Ex sc d 274 1168 [l0, l1, l2, l3, some (vI a), l5, l6] (vI a :: st) hs Q := e_iload ((cd274 1166).trans rfl) rfl
set_option maxRecDepth 20000 in
theorem x274_1168 {sc : Scr} {d : Nat} {l0 l1 l2 l3 l4 l5 l6 : Option V} {st : List V} {hs : HS} {Q : Rs → HS → Prop} : Ex sc d 274 1168 [l0, l1, l2, l3, l4, l5, l6] st hs Q ↔ Ex sc d 274 1169 [l0, l1, l2, l3, l4, l5, l6] (vI (2) :: st) hs Q := e_iconst ((cd274 1168).trans rfl)
set_option maxRecDepth 20000 in
theorem x274_1169 {sc : Scr} {d : Nat} {l0 l1 l2 l3 l4 l5 l6 : Option V} {st : List V} {hs : HS} {Q : Rs → HS → Prop} {a b : Int} : Ex sc d 274 1169 [l0, l1, l2, l3, l4, l5, l6] (vI b :: vI a :: st) hs Q ↔ Ex sc d 274 1170 [l0, l1, l2, l3, l4, l5, l6] (vI (a + b) :: st) hs Q := e_iadd ((cd274 1169).trans rfl)
set_option maxRecDepth 20000 in
theorem x274_1170 {sc : Scr} {d : Nat} {l0 l1 l2 l3 l4 l5 l6 : Option V} {st : List V} {hs : HS} {Q : Rs → HS → Prop} {i : Int} (hq : 0 ≤ i ∧ i < (sc.1 : Int) ∧ sc.1 < 2147483648) : Ex sc d 274 1170 [l0, l1, l2, l3, l4, l5, l6] (vI i :: vS 9 :: st) hs Q ↔ Ex sc d 274 1171 [l0, l1, l2, l3, l4, l5, l6] (vI (sc.2 i.toNat) :: st) hs Q := e_ialdS ((cd274 1170).trans rfl) hq
set_option maxRecDepth 20000 in
theorem x274_1171 {sc : Scr} {d : Nat} {l0 l1 l2 l4 l5 l6 : Option V} {st : List V} {hs : HS} {Q : Rs → HS → Prop} {a : Nat} : Ex sc d 274 1171 [l0, l1, l2, some (vR a), l4, l5, l6] st hs Q ↔ Ex sc d 274 1172 [l0, l1, l2, some (vR a), l4, l5, l6] (vR a :: st) hs Q := e_aload ((cd274 1171).trans rfl) rfl
set_option maxRecDepth 20000 in
theorem x274_1172 {sc : Scr} {d : Nat} {l0 l1 l2 l3 l4 l5 l6 : Option V} {st : List V} {hs : HS} {Q : Rs → HS → Prop} {a0 : Nat} {a1 : Int} {a2 : Int} {a3 : Nat} (hd : 0 < d) (hc : catS st ≤ 8) : Ex sc d 274 1172 [l0, l1, l2, l3, l4, l5, l6] (vR a3 :: vI a2 :: vI a1 :: vR a0 :: st) hs Q ↔ Ex sc (d - 1) 134 0 [some (vR a0), some (vI a1), some (vI a2), some (vR a3), none] [] hs (Kc sc d 274 1172 1175 [l0, l1, l2, l3, l4, l5, l6] st Q) := e_callS ((cd274 1172).trans rfl) (by simp only [List.length_cons]; omega) (by decide) rfl rfl rfl hc rfl hd
set_option maxRecDepth 20000 in
theorem x274_1175 {sc : Scr} {d : Nat} {l0 l1 l2 l3 l4 l5 l6 : Option V} {st : List V} {hs : HS} {Q : Rs → HS → Prop} {a : Int} (hn : notL l4 = true) : Ex sc d 274 1175 [l0, l1, l2, l3, l4, l5, l6] (vI a :: st) hs Q ↔ Ex sc d 274 1177 [l0, l1, l2, l3, l4, some (vI a), l6] st hs Q := e_istore ((cd274 1175).trans rfl) (by show 5 < 7; decide) (noL_of (j := 4) rfl hn) rfl
set_option maxRecDepth 20000 in
theorem x274_1177 {sc : Scr} {d : Nat} {l0 l1 l3 l4 l5 l6 : Option V} {st : List V} {hs : HS} {Q : Rs → HS → Prop} {a : Nat} : Ex sc d 274 1177 [l0, l1, some (vR a), l3, l4, l5, l6] st hs Q ↔ Ex sc d 274 1178 [l0, l1, some (vR a), l3, l4, l5, l6] (vR a :: st) hs Q := e_aload ((cd274 1177).trans rfl) rfl
set_option maxRecDepth 20000 in
theorem x274_1178 {sc : Scr} {d : Nat} {l1 l2 l3 l4 l5 l6 : Option V} {st : List V} {hs : HS} {Q : Rs → HS → Prop} {a : Nat} : Ex sc d 274 1178 [some (vS a), l1, l2, l3, l4, l5, l6] st hs Q ↔ Ex sc d 274 1179 [some (vS a), l1, l2, l3, l4, l5, l6] (vS a :: st) hs Q := e_aloadS ((cd274 1178).trans rfl) rfl
set_option maxRecDepth 20000 in
theorem x274_1179 {sc : Scr} {d : Nat} {l0 l1 l2 l3 l5 l6 : Option V} {st : List V} {hs : HS} {Q : Rs → HS → Prop} {a : Int} : Ex sc d 274 1179 [l0, l1, l2, l3, some (vI a), l5, l6] st hs Q ↔ Ex sc d 274 1181 [l0, l1, l2, l3, some (vI a), l5, l6] (vI a :: st) hs Q := e_iload ((cd274 1179).trans rfl) rfl
set_option maxRecDepth 20000 in
theorem x274_1181 {sc : Scr} {d : Nat} {l0 l1 l2 l3 l4 l5 l6 : Option V} {st : List V} {hs : HS} {Q : Rs → HS → Prop} : Ex sc d 274 1181 [l0, l1, l2, l3, l4, l5, l6] st hs Q ↔ Ex sc d 274 1182 [l0, l1, l2, l3, l4, l5, l6] (vI (1) :: st) hs Q := e_iconst ((cd274 1181).trans rfl)
set_option maxRecDepth 20000 in
theorem x274_1182 {sc : Scr} {d : Nat} {l0 l1 l2 l3 l4 l5 l6 : Option V} {st : List V} {hs : HS} {Q : Rs → HS → Prop} {a b : Int} : Ex sc d 274 1182 [l0, l1, l2, l3, l4, l5, l6] (vI b :: vI a :: st) hs Q ↔ Ex sc d 274 1183 [l0, l1, l2, l3, l4, l5, l6] (vI (a + b) :: st) hs Q := e_iadd ((cd274 1182).trans rfl)
set_option maxRecDepth 20000 in
theorem x274_1183 {sc : Scr} {d : Nat} {l0 l1 l2 l3 l4 l5 l6 : Option V} {st : List V} {hs : HS} {Q : Rs → HS → Prop} {i : Int} (hq : 0 ≤ i ∧ i < (sc.1 : Int) ∧ sc.1 < 2147483648) : Ex sc d 274 1183 [l0, l1, l2, l3, l4, l5, l6] (vI i :: vS 9 :: st) hs Q ↔ Ex sc d 274 1184 [l0, l1, l2, l3, l4, l5, l6] (vI (sc.2 i.toNat) :: st) hs Q := e_ialdS ((cd274 1183).trans rfl) hq
set_option maxRecDepth 20000 in
theorem x274_1184 {sc : Scr} {d : Nat} {l1 l2 l3 l4 l5 l6 : Option V} {st : List V} {hs : HS} {Q : Rs → HS → Prop} {a : Nat} : Ex sc d 274 1184 [some (vS a), l1, l2, l3, l4, l5, l6] st hs Q ↔ Ex sc d 274 1185 [some (vS a), l1, l2, l3, l4, l5, l6] (vS a :: st) hs Q := e_aloadS ((cd274 1184).trans rfl) rfl
set_option maxRecDepth 20000 in
theorem x274_1185 {sc : Scr} {d : Nat} {l0 l1 l2 l3 l5 l6 : Option V} {st : List V} {hs : HS} {Q : Rs → HS → Prop} {a : Int} : Ex sc d 274 1185 [l0, l1, l2, l3, some (vI a), l5, l6] st hs Q ↔ Ex sc d 274 1187 [l0, l1, l2, l3, some (vI a), l5, l6] (vI a :: st) hs Q := e_iload ((cd274 1185).trans rfl) rfl
set_option maxRecDepth 20000 in
theorem x274_1187 {sc : Scr} {d : Nat} {l0 l1 l2 l3 l4 l5 l6 : Option V} {st : List V} {hs : HS} {Q : Rs → HS → Prop} : Ex sc d 274 1187 [l0, l1, l2, l3, l4, l5, l6] st hs Q ↔ Ex sc d 274 1188 [l0, l1, l2, l3, l4, l5, l6] (vI (2) :: st) hs Q := e_iconst ((cd274 1187).trans rfl)
set_option maxRecDepth 20000 in
theorem x274_1188 {sc : Scr} {d : Nat} {l0 l1 l2 l3 l4 l5 l6 : Option V} {st : List V} {hs : HS} {Q : Rs → HS → Prop} {a b : Int} : Ex sc d 274 1188 [l0, l1, l2, l3, l4, l5, l6] (vI b :: vI a :: st) hs Q ↔ Ex sc d 274 1189 [l0, l1, l2, l3, l4, l5, l6] (vI (a + b) :: st) hs Q := e_iadd ((cd274 1188).trans rfl)
set_option maxRecDepth 20000 in
theorem x274_1189 {sc : Scr} {d : Nat} {l0 l1 l2 l3 l4 l5 l6 : Option V} {st : List V} {hs : HS} {Q : Rs → HS → Prop} {i : Int} (hq : 0 ≤ i ∧ i < (sc.1 : Int) ∧ sc.1 < 2147483648) : Ex sc d 274 1189 [l0, l1, l2, l3, l4, l5, l6] (vI i :: vS 9 :: st) hs Q ↔ Ex sc d 274 1190 [l0, l1, l2, l3, l4, l5, l6] (vI (sc.2 i.toNat) :: st) hs Q := e_ialdS ((cd274 1189).trans rfl) hq
set_option maxRecDepth 20000 in
theorem x274_1190 {sc : Scr} {d : Nat} {l0 l1 l2 l3 l4 l5 l6 : Option V} {st : List V} {hs : HS} {Q : Rs → HS → Prop} {a0 : Int} {a1 : Int} {q : Nat} (hd : 0 < d) (hc : catS st ≤ 8) (ho : isObj hs 12 (vR q) = true) : Ex sc d 274 1190 [l0, l1, l2, l3, l4, l5, l6] (vI a1 :: vI a0 :: vR q :: st) hs Q ↔ Ex sc (d - 1) 254 0 [some (vR q), some (vI a0), some (vI a1), none] [] hs (Kc sc d 274 1190 1193 [l0, l1, l2, l3, l4, l5, l6] st Q) := e_callV ((cd274 1190).trans rfl) ho (by simp only [List.length_cons]; omega) (by decide) rfl rfl rfl hc rfl hd
set_option maxRecDepth 20000 in
theorem x274_1193 {sc : Scr} {d : Nat} {l0 l1 l2 l3 l4 l5 l6 : Option V} {st : List V} {hs : HS} {Q : Rs → HS → Prop} {a : Int} (hn : notL l5 = true) : Ex sc d 274 1193 [l0, l1, l2, l3, l4, l5, l6] (vI a :: st) hs Q ↔ Ex sc d 274 1195 [l0, l1, l2, l3, l4, l5, some (vI a)] st hs Q := e_istore ((cd274 1193).trans rfl) (by show 6 < 7; decide) (noL_of (j := 5) rfl hn) rfl
set_option maxRecDepth 20000 in
theorem x274_1195 {sc : Scr} {d : Nat} {l0 l1 l3 l4 l5 l6 : Option V} {st : List V} {hs : HS} {Q : Rs → HS → Prop} {a : Nat} : Ex sc d 274 1195 [l0, l1, some (vR a), l3, l4, l5, l6] st hs Q ↔ Ex sc d 274 1196 [l0, l1, some (vR a), l3, l4, l5, l6] (vR a :: st) hs Q := e_aload ((cd274 1195).trans rfl) rfl
set_option maxRecDepth 20000 in
theorem x274_1196 {sc : Scr} {d : Nat} {l0 l1 l2 l3 l4 l5 l6 : Option V} {st : List V} {hs : HS} {Q : Rs → HS → Prop} {q : Nat} (hd : 0 < d) (hc : catS st ≤ 8) (ho : isObj hs 12 (vR q) = true) : Ex sc d 274 1196 [l0, l1, l2, l3, l4, l5, l6] (vR q :: st) hs Q ↔ Ex sc (d - 1) 177 0 [some (vR q)] [] hs (Kc sc d 274 1196 1199 [l0, l1, l2, l3, l4, l5, l6] st Q) := e_callV ((cd274 1196).trans rfl) ho (by simp only [List.length_cons]; omega) (by decide) rfl rfl rfl hc rfl hd
set_option maxRecDepth 20000 in
theorem x274_1199 {sc : Scr} {d : Nat} {l0 l1 l2 l3 l4 l6 : Option V} {st : List V} {hs : HS} {Q : Rs → HS → Prop} {a : Int} : Ex sc d 274 1199 [l0, l1, l2, l3, l4, some (vI a), l6] st hs Q ↔ Ex sc d 274 1201 [l0, l1, l2, l3, l4, some (vI a), l6] (vI a :: st) hs Q := e_iload ((cd274 1199).trans rfl) rfl
set_option maxRecDepth 20000 in
theorem x274_1201 {sc : Scr} {d : Nat} {l0 l1 l2 l3 l4 l5 l6 : Option V} {st : List V} {hs : HS} {Q : Rs → HS → Prop} {a b : Int} (ha : inR a) (hb : inR b) : Ex sc d 274 1201 [l0, l1, l2, l3, l4, l5, l6] (vI b :: vI a :: st) hs Q ↔ if a = b then Ex sc d 274 1206 [l0, l1, l2, l3, l4, l5, l6] st hs Q else Ex sc d 274 1204 [l0, l1, l2, l3, l4, l5, l6] st hs Q := (e_icmp ((cd274 1201).trans rfl) ha hb).trans (by simp only [cmpI, decide_eq_true_eq])
set_option maxRecDepth 20000 in
theorem x274_1204 {sc : Scr} {d : Nat} {l0 l1 l2 l3 l4 l5 l6 : Option V} {st : List V} {hs : HS} {Q : Rs → HS → Prop} : Ex sc d 274 1204 [l0, l1, l2, l3, l4, l5, l6] st hs Q ↔ Ex sc d 274 1205 [l0, l1, l2, l3, l4, l5, l6] (vI (0) :: st) hs Q := e_iconst ((cd274 1204).trans rfl)
set_option maxRecDepth 20000 in
theorem x274_1205 {sc : Scr} {d : Nat} {l0 l1 l2 l3 l4 l5 l6 : Option V} {hs : HS} {Q : Rs → HS → Prop} {a : Int} (ha : a = 0 ∨ a = 1) : Ex sc d 274 1205 [l0, l1, l2, l3, l4, l5, l6] [vI a] hs Q ↔ Q (.inl (some (vI a))) hs := e_zret ((cd274 1205).trans rfl) rfl ha
set_option maxRecDepth 20000 in
theorem x274_1206 {sc : Scr} {d : Nat} {l0 l1 l2 l3 l4 l6 : Option V} {st : List V} {hs : HS} {Q : Rs → HS → Prop} {a : Int} : Ex sc d 274 1206 [l0, l1, l2, l3, l4, some (vI a), l6] st hs Q ↔ Ex sc d 274 1208 [l0, l1, l2, l3, l4, some (vI a), l6] (vI a :: st) hs Q := e_iload ((cd274 1206).trans rfl) rfl
set_option maxRecDepth 20000 in
theorem x274_1208 {sc : Scr} {d : Nat} {l0 l1 l2 l3 l4 l5 l6 : Option V} {st : List V} {hs : HS} {Q : Rs → HS → Prop} {a : Int} (ha : inR a) : Ex sc d 274 1208 [l0, l1, l2, l3, l4, l5, l6] (vI a :: st) hs Q ↔ if ¬ a = 0 then Ex sc d 274 1223 [l0, l1, l2, l3, l4, l5, l6] st hs Q else Ex sc d 274 1211 [l0, l1, l2, l3, l4, l5, l6] st hs Q := (e_if ((cd274 1208).trans rfl) ha).trans (by simp only [cmpI, decide_eq_true_eq])
set_option maxRecDepth 20000 in
theorem x274_1211 {sc : Scr} {d : Nat} {l0 l1 l2 l4 l5 l6 : Option V} {st : List V} {hs : HS} {Q : Rs → HS → Prop} {a : Nat} : Ex sc d 274 1211 [l0, l1, l2, some (vR a), l4, l5, l6] st hs Q ↔ Ex sc d 274 1212 [l0, l1, l2, some (vR a), l4, l5, l6] (vR a :: st) hs Q := e_aload ((cd274 1211).trans rfl) rfl
set_option maxRecDepth 20000 in
theorem x274_1212 {sc : Scr} {d : Nat} {l0 l1 l2 l3 l4 l5 l6 : Option V} {st : List V} {hs : HS} {Q : Rs → HS → Prop} : Ex sc d 274 1212 [l0, l1, l2, l3, l4, l5, l6] st hs Q ↔ Ex sc d 274 1213 [l0, l1, l2, l3, l4, l5, l6] (vI (0) :: st) hs Q := e_iconst ((cd274 1212).trans rfl)
set_option maxRecDepth 20000 in
theorem x274_1213 {sc : Scr} {d : Nat} {l0 l1 l2 l3 l4 l5 l6 : Option V} {st : List V} {hs : HS} {Q : Rs → HS → Prop} {a : Nat} {i : Int} : Ex sc d 274 1213 [l0, l1, l2, l3, l4, l5, l6] (vI i :: vR a :: st) hs Q ↔ Ra hs 2 a i (fun z => Ex sc d 274 1214 [l0, l1, l2, l3, l4, l5, l6] (vL z :: st) hs Q) := e_lald ((cd274 1213).trans rfl)
set_option maxRecDepth 20000 in
theorem x274_1214 {sc : Scr} {d : Nat} {l0 l1 l2 l3 l4 l5 : Option V} {st : List V} {hs : HS} {Q : Rs → HS → Prop} {a : Int} : Ex sc d 274 1214 [l0, l1, l2, l3, l4, l5, some (vI a)] st hs Q ↔ Ex sc d 274 1216 [l0, l1, l2, l3, l4, l5, some (vI a)] (vI a :: st) hs Q := e_iload ((cd274 1214).trans rfl) rfl
set_option maxRecDepth 20000 in
theorem x274_1216 {sc : Scr} {d : Nat} {l0 l1 l2 l3 l4 l5 l6 : Option V} {st : List V} {hs : HS} {Q : Rs → HS → Prop} {a : Int} (ha : inR a) : Ex sc d 274 1216 [l0, l1, l2, l3, l4, l5, l6] (vI a :: st) hs Q ↔ Ex sc d 274 1217 [l0, l1, l2, l3, l4, l5, l6] (vL a :: st) hs Q := e_i2l ((cd274 1216).trans rfl) ha
set_option maxRecDepth 20000 in
theorem x274_1217 {sc : Scr} {d : Nat} {l0 l1 l2 l3 l4 l5 l6 : Option V} {st : List V} {hs : HS} {Q : Rs → HS → Prop} {a b : Int} (ha : inL a) (hb : inL b) : Ex sc d 274 1217 [l0, l1, l2, l3, l4, l5, l6] (vL b :: vL a :: st) hs Q ↔ Ex sc d 274 1218 [l0, l1, l2, l3, l4, l5, l6] (vI (if a < b then -1 else if a = b then 0 else 1) :: st) hs Q := e_lcmp ((cd274 1217).trans rfl) ha hb
set_option maxRecDepth 20000 in
theorem x274_1218 {sc : Scr} {d : Nat} {l0 l1 l2 l3 l4 l5 l6 : Option V} {st : List V} {hs : HS} {Q : Rs → HS → Prop} {a : Int} (ha : inR a) : Ex sc d 274 1218 [l0, l1, l2, l3, l4, l5, l6] (vI a :: st) hs Q ↔ if a = 0 then Ex sc d 274 1223 [l0, l1, l2, l3, l4, l5, l6] st hs Q else Ex sc d 274 1221 [l0, l1, l2, l3, l4, l5, l6] st hs Q := (e_if ((cd274 1218).trans rfl) ha).trans (by simp only [cmpI, decide_eq_true_eq])
set_option maxRecDepth 20000 in
theorem x274_1221 {sc : Scr} {d : Nat} {l0 l1 l2 l3 l4 l5 l6 : Option V} {st : List V} {hs : HS} {Q : Rs → HS → Prop} : Ex sc d 274 1221 [l0, l1, l2, l3, l4, l5, l6] st hs Q ↔ Ex sc d 274 1222 [l0, l1, l2, l3, l4, l5, l6] (vI (0) :: st) hs Q := e_iconst ((cd274 1221).trans rfl)
set_option maxRecDepth 20000 in
theorem x274_1222 {sc : Scr} {d : Nat} {l0 l1 l2 l3 l4 l5 l6 : Option V} {hs : HS} {Q : Rs → HS → Prop} {a : Int} (ha : a = 0 ∨ a = 1) : Ex sc d 274 1222 [l0, l1, l2, l3, l4, l5, l6] [vI a] hs Q ↔ Q (.inl (some (vI a))) hs := e_zret ((cd274 1222).trans rfl) rfl ha
set_option maxRecDepth 20000 in
theorem x274_1223 {sc : Scr} {d : Nat} {l0 l1 l2 l3 l4 l5 l6 : Option V} {st : List V} {hs : HS} {Q : Rs → HS → Prop} : Ex sc d 274 1223 [l0, l1, l2, l3, l4, l5, l6] st hs Q ↔ Ex sc d 274 1660 [l0, l1, l2, l3, l4, l5, l6] st hs Q := e_goto ((cd274 1223).trans rfl)
set_option maxRecDepth 20000 in
theorem x274_1226 {sc : Scr} {d : Nat} {l0 l2 l3 l4 l5 l6 : Option V} {st : List V} {hs : HS} {Q : Rs → HS → Prop} {a : Nat} : Ex sc d 274 1226 [l0, some (vR a), l2, l3, l4, l5, l6] st hs Q ↔ Ex sc d 274 1227 [l0, some (vR a), l2, l3, l4, l5, l6] (vR a :: st) hs Q := e_aload ((cd274 1226).trans rfl) rfl
set_option maxRecDepth 20000 in
theorem x274_1227 {sc : Scr} {d : Nat} {l1 l2 l3 l4 l5 l6 : Option V} {st : List V} {hs : HS} {Q : Rs → HS → Prop} {a : Nat} : Ex sc d 274 1227 [some (vS a), l1, l2, l3, l4, l5, l6] st hs Q ↔ Ex sc d 274 1228 [some (vS a), l1, l2, l3, l4, l5, l6] (vS a :: st) hs Q := e_aloadS ((cd274 1227).trans rfl) rfl
set_option maxRecDepth 20000 in
theorem x274_1228 {sc : Scr} {d : Nat} {l0 l1 l2 l3 l5 l6 : Option V} {st : List V} {hs : HS} {Q : Rs → HS → Prop} {a : Int} : Ex sc d 274 1228 [l0, l1, l2, l3, some (vI a), l5, l6] st hs Q ↔ Ex sc d 274 1230 [l0, l1, l2, l3, some (vI a), l5, l6] (vI a :: st) hs Q := e_iload ((cd274 1228).trans rfl) rfl
set_option maxRecDepth 20000 in
theorem x274_1230 {sc : Scr} {d : Nat} {l0 l1 l2 l3 l4 l5 l6 : Option V} {st : List V} {hs : HS} {Q : Rs → HS → Prop} : Ex sc d 274 1230 [l0, l1, l2, l3, l4, l5, l6] st hs Q ↔ Ex sc d 274 1231 [l0, l1, l2, l3, l4, l5, l6] (vI (1) :: st) hs Q := e_iconst ((cd274 1230).trans rfl)
set_option maxRecDepth 20000 in
theorem x274_1231 {sc : Scr} {d : Nat} {l0 l1 l2 l3 l4 l5 l6 : Option V} {st : List V} {hs : HS} {Q : Rs → HS → Prop} {a b : Int} : Ex sc d 274 1231 [l0, l1, l2, l3, l4, l5, l6] (vI b :: vI a :: st) hs Q ↔ Ex sc d 274 1232 [l0, l1, l2, l3, l4, l5, l6] (vI (a + b) :: st) hs Q := e_iadd ((cd274 1231).trans rfl)
set_option maxRecDepth 20000 in
theorem x274_1232 {sc : Scr} {d : Nat} {l0 l1 l2 l3 l4 l5 l6 : Option V} {st : List V} {hs : HS} {Q : Rs → HS → Prop} {i : Int} (hq : 0 ≤ i ∧ i < (sc.1 : Int) ∧ sc.1 < 2147483648) : Ex sc d 274 1232 [l0, l1, l2, l3, l4, l5, l6] (vI i :: vS 9 :: st) hs Q ↔ Ex sc d 274 1233 [l0, l1, l2, l3, l4, l5, l6] (vI (sc.2 i.toNat) :: st) hs Q := e_ialdS ((cd274 1232).trans rfl) hq
set_option maxRecDepth 20000 in
theorem x274_1233 {sc : Scr} {d : Nat} {l0 l1 l2 l3 l4 l5 l6 : Option V} {st : List V} {hs : HS} {Q : Rs → HS → Prop} {a0 : Int} {q : Nat} (hd : 0 < d) (hc : catS st ≤ 8) (ho : isObj hs 11 (vR q) = true) : Ex sc d 274 1233 [l0, l1, l2, l3, l4, l5, l6] (vI a0 :: vR q :: st) hs Q ↔ Ex sc (d - 1) 17 0 [some (vR q), some (vI a0)] [] hs (Kc sc d 274 1233 1236 [l0, l1, l2, l3, l4, l5, l6] st Q) := e_callV ((cd274 1233).trans rfl) ho (by simp only [List.length_cons]; omega) (by decide) rfl rfl rfl hc rfl hd
set_option maxRecDepth 20000 in
theorem x274_1236 {sc : Scr} {d : Nat} {l0 l1 l3 l4 l5 l6 : Option V} {st : List V} {hs : HS} {Q : Rs → HS → Prop} {a : Nat} : Ex sc d 274 1236 [l0, l1, some (vR a), l3, l4, l5, l6] st hs Q ↔ Ex sc d 274 1237 [l0, l1, some (vR a), l3, l4, l5, l6] (vR a :: st) hs Q := e_aload ((cd274 1236).trans rfl) rfl
set_option maxRecDepth 20000 in
theorem x274_1237 {sc : Scr} {d : Nat} {l1 l2 l3 l4 l5 l6 : Option V} {st : List V} {hs : HS} {Q : Rs → HS → Prop} {a : Nat} : Ex sc d 274 1237 [some (vS a), l1, l2, l3, l4, l5, l6] st hs Q ↔ Ex sc d 274 1238 [some (vS a), l1, l2, l3, l4, l5, l6] (vS a :: st) hs Q := e_aloadS ((cd274 1237).trans rfl) rfl
set_option maxRecDepth 20000 in
theorem x274_1238 {sc : Scr} {d : Nat} {l0 l1 l2 l3 l5 l6 : Option V} {st : List V} {hs : HS} {Q : Rs → HS → Prop} {a : Int} : Ex sc d 274 1238 [l0, l1, l2, l3, some (vI a), l5, l6] st hs Q ↔ Ex sc d 274 1240 [l0, l1, l2, l3, some (vI a), l5, l6] (vI a :: st) hs Q := e_iload ((cd274 1238).trans rfl) rfl
set_option maxRecDepth 20000 in
theorem x274_1240 {sc : Scr} {d : Nat} {l0 l1 l2 l3 l4 l5 l6 : Option V} {st : List V} {hs : HS} {Q : Rs → HS → Prop} : Ex sc d 274 1240 [l0, l1, l2, l3, l4, l5, l6] st hs Q ↔ Ex sc d 274 1241 [l0, l1, l2, l3, l4, l5, l6] (vI (1) :: st) hs Q := e_iconst ((cd274 1240).trans rfl)
set_option maxRecDepth 20000 in
theorem x274_1241 {sc : Scr} {d : Nat} {l0 l1 l2 l3 l4 l5 l6 : Option V} {st : List V} {hs : HS} {Q : Rs → HS → Prop} {a b : Int} : Ex sc d 274 1241 [l0, l1, l2, l3, l4, l5, l6] (vI b :: vI a :: st) hs Q ↔ Ex sc d 274 1242 [l0, l1, l2, l3, l4, l5, l6] (vI (a + b) :: st) hs Q := e_iadd ((cd274 1241).trans rfl)
set_option maxRecDepth 20000 in
theorem x274_1242 {sc : Scr} {d : Nat} {l0 l1 l2 l3 l4 l5 l6 : Option V} {st : List V} {hs : HS} {Q : Rs → HS → Prop} {i : Int} (hq : 0 ≤ i ∧ i < (sc.1 : Int) ∧ sc.1 < 2147483648) : Ex sc d 274 1242 [l0, l1, l2, l3, l4, l5, l6] (vI i :: vS 9 :: st) hs Q ↔ Ex sc d 274 1243 [l0, l1, l2, l3, l4, l5, l6] (vI (sc.2 i.toNat) :: st) hs Q := e_ialdS ((cd274 1242).trans rfl) hq
set_option maxRecDepth 20000 in
theorem x274_1243 {sc : Scr} {d : Nat} {l0 l1 l2 l3 l4 l5 l6 : Option V} {st : List V} {hs : HS} {Q : Rs → HS → Prop} {a0 : Int} {q : Nat} (hd : 0 < d) (hc : catS st ≤ 8) (ho : isObj hs 12 (vR q) = true) : Ex sc d 274 1243 [l0, l1, l2, l3, l4, l5, l6] (vI a0 :: vR q :: st) hs Q ↔ Ex sc (d - 1) 260 0 [some (vR q), some (vI a0)] [] hs (Kc sc d 274 1243 1246 [l0, l1, l2, l3, l4, l5, l6] st Q) := e_callV ((cd274 1243).trans rfl) ho (by simp only [List.length_cons]; omega) (by decide) rfl rfl rfl hc rfl hd
set_option maxRecDepth 20000 in
theorem x274_1246 {sc : Scr} {d : Nat} {l0 l1 l2 l3 l4 l5 l6 : Option V} {st : List V} {hs : HS} {Q : Rs → HS → Prop} {a b : Int} (ha : inR a) (hb : inR b) : Ex sc d 274 1246 [l0, l1, l2, l3, l4, l5, l6] (vI b :: vI a :: st) hs Q ↔ if a = b then Ex sc d 274 1660 [l0, l1, l2, l3, l4, l5, l6] st hs Q else Ex sc d 274 1249 [l0, l1, l2, l3, l4, l5, l6] st hs Q := (e_icmp ((cd274 1246).trans rfl) ha hb).trans (by simp only [cmpI, decide_eq_true_eq])
set_option maxRecDepth 20000 in
theorem x274_1249 {sc : Scr} {d : Nat} {l0 l1 l2 l3 l4 l5 l6 : Option V} {st : List V} {hs : HS} {Q : Rs → HS → Prop} : Ex sc d 274 1249 [l0, l1, l2, l3, l4, l5, l6] st hs Q ↔ Ex sc d 274 1250 [l0, l1, l2, l3, l4, l5, l6] (vI (0) :: st) hs Q := e_iconst ((cd274 1249).trans rfl)
set_option maxRecDepth 20000 in
theorem x274_1250 {sc : Scr} {d : Nat} {l0 l1 l2 l3 l4 l5 l6 : Option V} {hs : HS} {Q : Rs → HS → Prop} {a : Int} (ha : a = 0 ∨ a = 1) : Ex sc d 274 1250 [l0, l1, l2, l3, l4, l5, l6] [vI a] hs Q ↔ Q (.inl (some (vI a))) hs := e_zret ((cd274 1250).trans rfl) rfl ha
set_option maxRecDepth 20000 in
theorem x274_1251 {sc : Scr} {d : Nat} {l0 l2 l3 l4 l5 l6 : Option V} {st : List V} {hs : HS} {Q : Rs → HS → Prop} {a : Nat} : Ex sc d 274 1251 [l0, some (vR a), l2, l3, l4, l5, l6] st hs Q ↔ Ex sc d 274 1252 [l0, some (vR a), l2, l3, l4, l5, l6] (vR a :: st) hs Q := e_aload ((cd274 1251).trans rfl) rfl
set_option maxRecDepth 20000 in
theorem x274_1252 {sc : Scr} {d : Nat} {l1 l2 l3 l4 l5 l6 : Option V} {st : List V} {hs : HS} {Q : Rs → HS → Prop} {a : Nat} : Ex sc d 274 1252 [some (vS a), l1, l2, l3, l4, l5, l6] st hs Q ↔ Ex sc d 274 1253 [some (vS a), l1, l2, l3, l4, l5, l6] (vS a :: st) hs Q := e_aloadS ((cd274 1252).trans rfl) rfl
set_option maxRecDepth 20000 in
theorem x274_1253 {sc : Scr} {d : Nat} {l0 l1 l2 l3 l5 l6 : Option V} {st : List V} {hs : HS} {Q : Rs → HS → Prop} {a : Int} : Ex sc d 274 1253 [l0, l1, l2, l3, some (vI a), l5, l6] st hs Q ↔ Ex sc d 274 1255 [l0, l1, l2, l3, some (vI a), l5, l6] (vI a :: st) hs Q := e_iload ((cd274 1253).trans rfl) rfl
set_option maxRecDepth 20000 in
theorem x274_1255 {sc : Scr} {d : Nat} {l0 l1 l2 l3 l4 l5 l6 : Option V} {st : List V} {hs : HS} {Q : Rs → HS → Prop} : Ex sc d 274 1255 [l0, l1, l2, l3, l4, l5, l6] st hs Q ↔ Ex sc d 274 1256 [l0, l1, l2, l3, l4, l5, l6] (vI (1) :: st) hs Q := e_iconst ((cd274 1255).trans rfl)
set_option maxRecDepth 20000 in
theorem x274_1256 {sc : Scr} {d : Nat} {l0 l1 l2 l3 l4 l5 l6 : Option V} {st : List V} {hs : HS} {Q : Rs → HS → Prop} {a b : Int} : Ex sc d 274 1256 [l0, l1, l2, l3, l4, l5, l6] (vI b :: vI a :: st) hs Q ↔ Ex sc d 274 1257 [l0, l1, l2, l3, l4, l5, l6] (vI (a + b) :: st) hs Q := e_iadd ((cd274 1256).trans rfl)
set_option maxRecDepth 20000 in
theorem x274_1257 {sc : Scr} {d : Nat} {l0 l1 l2 l3 l4 l5 l6 : Option V} {st : List V} {hs : HS} {Q : Rs → HS → Prop} {i : Int} (hq : 0 ≤ i ∧ i < (sc.1 : Int) ∧ sc.1 < 2147483648) : Ex sc d 274 1257 [l0, l1, l2, l3, l4, l5, l6] (vI i :: vS 9 :: st) hs Q ↔ Ex sc d 274 1258 [l0, l1, l2, l3, l4, l5, l6] (vI (sc.2 i.toNat) :: st) hs Q := e_ialdS ((cd274 1257).trans rfl) hq
set_option maxRecDepth 20000 in
theorem x274_1258 {sc : Scr} {d : Nat} {l0 l1 l2 l4 l5 l6 : Option V} {st : List V} {hs : HS} {Q : Rs → HS → Prop} {a : Nat} : Ex sc d 274 1258 [l0, l1, l2, some (vR a), l4, l5, l6] st hs Q ↔ Ex sc d 274 1259 [l0, l1, l2, some (vR a), l4, l5, l6] (vR a :: st) hs Q := e_aload ((cd274 1258).trans rfl) rfl
set_option maxRecDepth 20000 in
theorem x274_1259 {sc : Scr} {d : Nat} {l0 l1 l2 l3 l4 l5 l6 : Option V} {st : List V} {hs : HS} {Q : Rs → HS → Prop} {a0 : Nat} {a1 : Int} {a2 : Nat} (hd : 0 < d) (hc : catS st ≤ 8) : Ex sc d 274 1259 [l0, l1, l2, l3, l4, l5, l6] (vR a2 :: vI a1 :: vR a0 :: st) hs Q ↔ Ex sc (d - 1) 143 0 [some (vR a0), some (vI a1), some (vR a2), none] [] hs (Kc sc d 274 1259 1262 [l0, l1, l2, l3, l4, l5, l6] st Q) := e_callS ((cd274 1259).trans rfl) (by simp only [List.length_cons]; omega) (by decide) rfl rfl rfl hc rfl hd
set_option maxRecDepth 20000 in
theorem x274_1262 {sc : Scr} {d : Nat} {l0 l1 l2 l3 l4 l5 l6 : Option V} {st : List V} {hs : HS} {Q : Rs → HS → Prop} {a : Int} (hn : notL l4 = true) : Ex sc d 274 1262 [l0, l1, l2, l3, l4, l5, l6] (vI a :: st) hs Q ↔ Ex sc d 274 1264 [l0, l1, l2, l3, l4, some (vI a), l6] st hs Q := e_istore ((cd274 1262).trans rfl) (by show 5 < 7; decide) (noL_of (j := 4) rfl hn) rfl
set_option maxRecDepth 20000 in
theorem x274_1264 {sc : Scr} {d : Nat} {l0 l1 l3 l4 l5 l6 : Option V} {st : List V} {hs : HS} {Q : Rs → HS → Prop} {a : Nat} : Ex sc d 274 1264 [l0, l1, some (vR a), l3, l4, l5, l6] st hs Q ↔ Ex sc d 274 1265 [l0, l1, some (vR a), l3, l4, l5, l6] (vR a :: st) hs Q := e_aload ((cd274 1264).trans rfl) rfl
set_option maxRecDepth 20000 in
theorem x274_1265 {sc : Scr} {d : Nat} {l1 l2 l3 l4 l5 l6 : Option V} {st : List V} {hs : HS} {Q : Rs → HS → Prop} {a : Nat} : Ex sc d 274 1265 [some (vS a), l1, l2, l3, l4, l5, l6] st hs Q ↔ Ex sc d 274 1266 [some (vS a), l1, l2, l3, l4, l5, l6] (vS a :: st) hs Q := e_aloadS ((cd274 1265).trans rfl) rfl
set_option maxRecDepth 20000 in
theorem x274_1266 {sc : Scr} {d : Nat} {l0 l1 l2 l3 l5 l6 : Option V} {st : List V} {hs : HS} {Q : Rs → HS → Prop} {a : Int} : Ex sc d 274 1266 [l0, l1, l2, l3, some (vI a), l5, l6] st hs Q ↔ Ex sc d 274 1268 [l0, l1, l2, l3, some (vI a), l5, l6] (vI a :: st) hs Q := e_iload ((cd274 1266).trans rfl) rfl
set_option maxRecDepth 20000 in
theorem x274_1268 {sc : Scr} {d : Nat} {l0 l1 l2 l3 l4 l5 l6 : Option V} {st : List V} {hs : HS} {Q : Rs → HS → Prop} : Ex sc d 274 1268 [l0, l1, l2, l3, l4, l5, l6] st hs Q ↔ Ex sc d 274 1269 [l0, l1, l2, l3, l4, l5, l6] (vI (1) :: st) hs Q := e_iconst ((cd274 1268).trans rfl)
set_option maxRecDepth 20000 in
theorem x274_1269 {sc : Scr} {d : Nat} {l0 l1 l2 l3 l4 l5 l6 : Option V} {st : List V} {hs : HS} {Q : Rs → HS → Prop} {a b : Int} : Ex sc d 274 1269 [l0, l1, l2, l3, l4, l5, l6] (vI b :: vI a :: st) hs Q ↔ Ex sc d 274 1270 [l0, l1, l2, l3, l4, l5, l6] (vI (a + b) :: st) hs Q := e_iadd ((cd274 1269).trans rfl)
set_option maxRecDepth 20000 in
theorem x274_1270 {sc : Scr} {d : Nat} {l0 l1 l2 l3 l4 l5 l6 : Option V} {st : List V} {hs : HS} {Q : Rs → HS → Prop} {i : Int} (hq : 0 ≤ i ∧ i < (sc.1 : Int) ∧ sc.1 < 2147483648) : Ex sc d 274 1270 [l0, l1, l2, l3, l4, l5, l6] (vI i :: vS 9 :: st) hs Q ↔ Ex sc d 274 1271 [l0, l1, l2, l3, l4, l5, l6] (vI (sc.2 i.toNat) :: st) hs Q := e_ialdS ((cd274 1270).trans rfl) hq
set_option maxRecDepth 20000 in
theorem x274_1271 {sc : Scr} {d : Nat} {l0 l1 l2 l3 l4 l5 l6 : Option V} {st : List V} {hs : HS} {Q : Rs → HS → Prop} {a0 : Int} {q : Nat} (hd : 0 < d) (hc : catS st ≤ 8) (ho : isObj hs 12 (vR q) = true) : Ex sc d 274 1271 [l0, l1, l2, l3, l4, l5, l6] (vI a0 :: vR q :: st) hs Q ↔ Ex sc (d - 1) 261 0 [some (vR q), some (vI a0), none, none, none, none] [] hs (Kc sc d 274 1271 1274 [l0, l1, l2, l3, l4, l5, l6] st Q) := e_callV ((cd274 1271).trans rfl) ho (by simp only [List.length_cons]; omega) (by decide) rfl rfl rfl hc rfl hd
set_option maxRecDepth 20000 in
theorem x274_1274 {sc : Scr} {d : Nat} {l0 l1 l2 l3 l4 l5 l6 : Option V} {st : List V} {hs : HS} {Q : Rs → HS → Prop} {a : Int} (hn : notL l5 = true) : Ex sc d 274 1274 [l0, l1, l2, l3, l4, l5, l6] (vI a :: st) hs Q ↔ Ex sc d 274 1276 [l0, l1, l2, l3, l4, l5, some (vI a)] st hs Q := e_istore ((cd274 1274).trans rfl) (by show 6 < 7; decide) (noL_of (j := 5) rfl hn) rfl
set_option maxRecDepth 20000 in
theorem x274_1276 {sc : Scr} {d : Nat} {l0 l1 l3 l4 l5 l6 : Option V} {st : List V} {hs : HS} {Q : Rs → HS → Prop} {a : Nat} : Ex sc d 274 1276 [l0, l1, some (vR a), l3, l4, l5, l6] st hs Q ↔ Ex sc d 274 1277 [l0, l1, some (vR a), l3, l4, l5, l6] (vR a :: st) hs Q := e_aload ((cd274 1276).trans rfl) rfl
set_option maxRecDepth 20000 in
theorem x274_1277 {sc : Scr} {d : Nat} {l0 l1 l2 l3 l4 l5 l6 : Option V} {st : List V} {hs : HS} {Q : Rs → HS → Prop} {q : Nat} (hd : 0 < d) (hc : catS st ≤ 8) (ho : isObj hs 12 (vR q) = true) : Ex sc d 274 1277 [l0, l1, l2, l3, l4, l5, l6] (vR q :: st) hs Q ↔ Ex sc (d - 1) 177 0 [some (vR q)] [] hs (Kc sc d 274 1277 1280 [l0, l1, l2, l3, l4, l5, l6] st Q) := e_callV ((cd274 1277).trans rfl) ho (by simp only [List.length_cons]; omega) (by decide) rfl rfl rfl hc rfl hd
set_option maxRecDepth 20000 in
theorem x274_1280 {sc : Scr} {d : Nat} {l0 l1 l2 l3 l4 l6 : Option V} {st : List V} {hs : HS} {Q : Rs → HS → Prop} {a : Int} : Ex sc d 274 1280 [l0, l1, l2, l3, l4, some (vI a), l6] st hs Q ↔ Ex sc d 274 1282 [l0, l1, l2, l3, l4, some (vI a), l6] (vI a :: st) hs Q := e_iload ((cd274 1280).trans rfl) rfl
set_option maxRecDepth 20000 in
theorem x274_1282 {sc : Scr} {d : Nat} {l0 l1 l2 l3 l4 l5 l6 : Option V} {st : List V} {hs : HS} {Q : Rs → HS → Prop} {a b : Int} (ha : inR a) (hb : inR b) : Ex sc d 274 1282 [l0, l1, l2, l3, l4, l5, l6] (vI b :: vI a :: st) hs Q ↔ if a = b then Ex sc d 274 1287 [l0, l1, l2, l3, l4, l5, l6] st hs Q else Ex sc d 274 1285 [l0, l1, l2, l3, l4, l5, l6] st hs Q := (e_icmp ((cd274 1282).trans rfl) ha hb).trans (by simp only [cmpI, decide_eq_true_eq])
set_option maxRecDepth 20000 in
theorem x274_1285 {sc : Scr} {d : Nat} {l0 l1 l2 l3 l4 l5 l6 : Option V} {st : List V} {hs : HS} {Q : Rs → HS → Prop} : Ex sc d 274 1285 [l0, l1, l2, l3, l4, l5, l6] st hs Q ↔ Ex sc d 274 1286 [l0, l1, l2, l3, l4, l5, l6] (vI (0) :: st) hs Q := e_iconst ((cd274 1285).trans rfl)
set_option maxRecDepth 20000 in
theorem x274_1286 {sc : Scr} {d : Nat} {l0 l1 l2 l3 l4 l5 l6 : Option V} {hs : HS} {Q : Rs → HS → Prop} {a : Int} (ha : a = 0 ∨ a = 1) : Ex sc d 274 1286 [l0, l1, l2, l3, l4, l5, l6] [vI a] hs Q ↔ Q (.inl (some (vI a))) hs := e_zret ((cd274 1286).trans rfl) rfl ha
set_option maxRecDepth 20000 in
theorem x274_1287 {sc : Scr} {d : Nat} {l0 l1 l2 l3 l4 l6 : Option V} {st : List V} {hs : HS} {Q : Rs → HS → Prop} {a : Int} : Ex sc d 274 1287 [l0, l1, l2, l3, l4, some (vI a), l6] st hs Q ↔ Ex sc d 274 1289 [l0, l1, l2, l3, l4, some (vI a), l6] (vI a :: st) hs Q := e_iload ((cd274 1287).trans rfl) rfl
set_option maxRecDepth 20000 in
theorem x274_1289 {sc : Scr} {d : Nat} {l0 l1 l2 l3 l4 l5 l6 : Option V} {st : List V} {hs : HS} {Q : Rs → HS → Prop} {a : Int} (ha : inR a) : Ex sc d 274 1289 [l0, l1, l2, l3, l4, l5, l6] (vI a :: st) hs Q ↔ if ¬ a = 0 then Ex sc d 274 1304 [l0, l1, l2, l3, l4, l5, l6] st hs Q else Ex sc d 274 1292 [l0, l1, l2, l3, l4, l5, l6] st hs Q := (e_if ((cd274 1289).trans rfl) ha).trans (by simp only [cmpI, decide_eq_true_eq])
set_option maxRecDepth 20000 in
theorem x274_1292 {sc : Scr} {d : Nat} {l0 l1 l2 l4 l5 l6 : Option V} {st : List V} {hs : HS} {Q : Rs → HS → Prop} {a : Nat} : Ex sc d 274 1292 [l0, l1, l2, some (vR a), l4, l5, l6] st hs Q ↔ Ex sc d 274 1293 [l0, l1, l2, some (vR a), l4, l5, l6] (vR a :: st) hs Q := e_aload ((cd274 1292).trans rfl) rfl
set_option maxRecDepth 20000 in
theorem x274_1293 {sc : Scr} {d : Nat} {l0 l1 l2 l3 l4 l5 l6 : Option V} {st : List V} {hs : HS} {Q : Rs → HS → Prop} : Ex sc d 274 1293 [l0, l1, l2, l3, l4, l5, l6] st hs Q ↔ Ex sc d 274 1294 [l0, l1, l2, l3, l4, l5, l6] (vI (0) :: st) hs Q := e_iconst ((cd274 1293).trans rfl)
set_option maxRecDepth 20000 in
theorem x274_1294 {sc : Scr} {d : Nat} {l0 l1 l2 l3 l4 l5 l6 : Option V} {st : List V} {hs : HS} {Q : Rs → HS → Prop} {a : Nat} {i : Int} : Ex sc d 274 1294 [l0, l1, l2, l3, l4, l5, l6] (vI i :: vR a :: st) hs Q ↔ Ra hs 2 a i (fun z => Ex sc d 274 1295 [l0, l1, l2, l3, l4, l5, l6] (vL z :: st) hs Q) := e_lald ((cd274 1294).trans rfl)
set_option maxRecDepth 20000 in
theorem x274_1295 {sc : Scr} {d : Nat} {l0 l1 l2 l3 l4 l5 : Option V} {st : List V} {hs : HS} {Q : Rs → HS → Prop} {a : Int} : Ex sc d 274 1295 [l0, l1, l2, l3, l4, l5, some (vI a)] st hs Q ↔ Ex sc d 274 1297 [l0, l1, l2, l3, l4, l5, some (vI a)] (vI a :: st) hs Q := e_iload ((cd274 1295).trans rfl) rfl
set_option maxRecDepth 20000 in
theorem x274_1297 {sc : Scr} {d : Nat} {l0 l1 l2 l3 l4 l5 l6 : Option V} {st : List V} {hs : HS} {Q : Rs → HS → Prop} {a : Int} (ha : inR a) : Ex sc d 274 1297 [l0, l1, l2, l3, l4, l5, l6] (vI a :: st) hs Q ↔ Ex sc d 274 1298 [l0, l1, l2, l3, l4, l5, l6] (vL a :: st) hs Q := e_i2l ((cd274 1297).trans rfl) ha
set_option maxRecDepth 20000 in
theorem x274_1298 {sc : Scr} {d : Nat} {l0 l1 l2 l3 l4 l5 l6 : Option V} {st : List V} {hs : HS} {Q : Rs → HS → Prop} {a b : Int} (ha : inL a) (hb : inL b) : Ex sc d 274 1298 [l0, l1, l2, l3, l4, l5, l6] (vL b :: vL a :: st) hs Q ↔ Ex sc d 274 1299 [l0, l1, l2, l3, l4, l5, l6] (vI (if a < b then -1 else if a = b then 0 else 1) :: st) hs Q := e_lcmp ((cd274 1298).trans rfl) ha hb
set_option maxRecDepth 20000 in
theorem x274_1299 {sc : Scr} {d : Nat} {l0 l1 l2 l3 l4 l5 l6 : Option V} {st : List V} {hs : HS} {Q : Rs → HS → Prop} {a : Int} (ha : inR a) : Ex sc d 274 1299 [l0, l1, l2, l3, l4, l5, l6] (vI a :: st) hs Q ↔ if a = 0 then Ex sc d 274 1304 [l0, l1, l2, l3, l4, l5, l6] st hs Q else Ex sc d 274 1302 [l0, l1, l2, l3, l4, l5, l6] st hs Q := (e_if ((cd274 1299).trans rfl) ha).trans (by simp only [cmpI, decide_eq_true_eq])
set_option maxRecDepth 20000 in
theorem x274_1302 {sc : Scr} {d : Nat} {l0 l1 l2 l3 l4 l5 l6 : Option V} {st : List V} {hs : HS} {Q : Rs → HS → Prop} : Ex sc d 274 1302 [l0, l1, l2, l3, l4, l5, l6] st hs Q ↔ Ex sc d 274 1303 [l0, l1, l2, l3, l4, l5, l6] (vI (0) :: st) hs Q := e_iconst ((cd274 1302).trans rfl)
set_option maxRecDepth 20000 in
theorem x274_1303 {sc : Scr} {d : Nat} {l0 l1 l2 l3 l4 l5 l6 : Option V} {hs : HS} {Q : Rs → HS → Prop} {a : Int} (ha : a = 0 ∨ a = 1) : Ex sc d 274 1303 [l0, l1, l2, l3, l4, l5, l6] [vI a] hs Q ↔ Q (.inl (some (vI a))) hs := e_zret ((cd274 1303).trans rfl) rfl ha
set_option maxRecDepth 20000 in
theorem x274_1304 {sc : Scr} {d : Nat} {l0 l1 l2 l3 l4 l5 l6 : Option V} {st : List V} {hs : HS} {Q : Rs → HS → Prop} : Ex sc d 274 1304 [l0, l1, l2, l3, l4, l5, l6] st hs Q ↔ Ex sc d 274 1660 [l0, l1, l2, l3, l4, l5, l6] st hs Q := e_goto ((cd274 1304).trans rfl)
set_option maxRecDepth 20000 in
theorem x274_1307 {sc : Scr} {d : Nat} {l0 l2 l3 l4 l5 l6 : Option V} {st : List V} {hs : HS} {Q : Rs → HS → Prop} {a : Nat} : Ex sc d 274 1307 [l0, some (vR a), l2, l3, l4, l5, l6] st hs Q ↔ Ex sc d 274 1308 [l0, some (vR a), l2, l3, l4, l5, l6] (vR a :: st) hs Q := e_aload ((cd274 1307).trans rfl) rfl
set_option maxRecDepth 20000 in
theorem x274_1308 {sc : Scr} {d : Nat} {l1 l2 l3 l4 l5 l6 : Option V} {st : List V} {hs : HS} {Q : Rs → HS → Prop} {a : Nat} : Ex sc d 274 1308 [some (vS a), l1, l2, l3, l4, l5, l6] st hs Q ↔ Ex sc d 274 1309 [some (vS a), l1, l2, l3, l4, l5, l6] (vS a :: st) hs Q := e_aloadS ((cd274 1308).trans rfl) rfl
set_option maxRecDepth 20000 in
theorem x274_1309 {sc : Scr} {d : Nat} {l0 l1 l2 l3 l5 l6 : Option V} {st : List V} {hs : HS} {Q : Rs → HS → Prop} {a : Int} : Ex sc d 274 1309 [l0, l1, l2, l3, some (vI a), l5, l6] st hs Q ↔ Ex sc d 274 1311 [l0, l1, l2, l3, some (vI a), l5, l6] (vI a :: st) hs Q := e_iload ((cd274 1309).trans rfl) rfl
set_option maxRecDepth 20000 in
theorem x274_1311 {sc : Scr} {d : Nat} {l0 l1 l2 l3 l4 l5 l6 : Option V} {st : List V} {hs : HS} {Q : Rs → HS → Prop} : Ex sc d 274 1311 [l0, l1, l2, l3, l4, l5, l6] st hs Q ↔ Ex sc d 274 1312 [l0, l1, l2, l3, l4, l5, l6] (vI (1) :: st) hs Q := e_iconst ((cd274 1311).trans rfl)
set_option maxRecDepth 20000 in
theorem x274_1312 {sc : Scr} {d : Nat} {l0 l1 l2 l3 l4 l5 l6 : Option V} {st : List V} {hs : HS} {Q : Rs → HS → Prop} {a b : Int} : Ex sc d 274 1312 [l0, l1, l2, l3, l4, l5, l6] (vI b :: vI a :: st) hs Q ↔ Ex sc d 274 1313 [l0, l1, l2, l3, l4, l5, l6] (vI (a + b) :: st) hs Q := e_iadd ((cd274 1312).trans rfl)
set_option maxRecDepth 20000 in
theorem x274_1313 {sc : Scr} {d : Nat} {l0 l1 l2 l3 l4 l5 l6 : Option V} {st : List V} {hs : HS} {Q : Rs → HS → Prop} {i : Int} (hq : 0 ≤ i ∧ i < (sc.1 : Int) ∧ sc.1 < 2147483648) : Ex sc d 274 1313 [l0, l1, l2, l3, l4, l5, l6] (vI i :: vS 9 :: st) hs Q ↔ Ex sc d 274 1314 [l0, l1, l2, l3, l4, l5, l6] (vI (sc.2 i.toNat) :: st) hs Q := e_ialdS ((cd274 1313).trans rfl) hq
set_option maxRecDepth 20000 in
theorem x274_1314 {sc : Scr} {d : Nat} {l0 l1 l2 l4 l5 l6 : Option V} {st : List V} {hs : HS} {Q : Rs → HS → Prop} {a : Nat} : Ex sc d 274 1314 [l0, l1, l2, some (vR a), l4, l5, l6] st hs Q ↔ Ex sc d 274 1315 [l0, l1, l2, some (vR a), l4, l5, l6] (vR a :: st) hs Q := e_aload ((cd274 1314).trans rfl) rfl
set_option maxRecDepth 20000 in
theorem x274_1315 {sc : Scr} {d : Nat} {l0 l1 l2 l3 l4 l5 l6 : Option V} {st : List V} {hs : HS} {Q : Rs → HS → Prop} {a0 : Nat} {a1 : Int} {a2 : Nat} (hd : 0 < d) (hc : catS st ≤ 8) : Ex sc d 274 1315 [l0, l1, l2, l3, l4, l5, l6] (vR a2 :: vI a1 :: vR a0 :: st) hs Q ↔ Ex sc (d - 1) 147 0 [some (vR a0), some (vI a1), some (vR a2), none] [] hs (Kc sc d 274 1315 1318 [l0, l1, l2, l3, l4, l5, l6] st Q) := e_callS ((cd274 1315).trans rfl) (by simp only [List.length_cons]; omega) (by decide) rfl rfl rfl hc rfl hd
set_option maxRecDepth 20000 in
theorem x274_1318 {sc : Scr} {d : Nat} {l0 l1 l2 l3 l4 l5 l6 : Option V} {st : List V} {hs : HS} {Q : Rs → HS → Prop} {a : Int} (hn : notL l4 = true) : Ex sc d 274 1318 [l0, l1, l2, l3, l4, l5, l6] (vI a :: st) hs Q ↔ Ex sc d 274 1320 [l0, l1, l2, l3, l4, some (vI a), l6] st hs Q := e_istore ((cd274 1318).trans rfl) (by show 5 < 7; decide) (noL_of (j := 4) rfl hn) rfl
set_option maxRecDepth 20000 in
theorem x274_1320 {sc : Scr} {d : Nat} {l0 l1 l3 l4 l5 l6 : Option V} {st : List V} {hs : HS} {Q : Rs → HS → Prop} {a : Nat} : Ex sc d 274 1320 [l0, l1, some (vR a), l3, l4, l5, l6] st hs Q ↔ Ex sc d 274 1321 [l0, l1, some (vR a), l3, l4, l5, l6] (vR a :: st) hs Q := e_aload ((cd274 1320).trans rfl) rfl
set_option maxRecDepth 20000 in
theorem x274_1321 {sc : Scr} {d : Nat} {l1 l2 l3 l4 l5 l6 : Option V} {st : List V} {hs : HS} {Q : Rs → HS → Prop} {a : Nat} : Ex sc d 274 1321 [some (vS a), l1, l2, l3, l4, l5, l6] st hs Q ↔ Ex sc d 274 1322 [some (vS a), l1, l2, l3, l4, l5, l6] (vS a :: st) hs Q := e_aloadS ((cd274 1321).trans rfl) rfl
set_option maxRecDepth 20000 in
theorem x274_1322 {sc : Scr} {d : Nat} {l0 l1 l2 l3 l5 l6 : Option V} {st : List V} {hs : HS} {Q : Rs → HS → Prop} {a : Int} : Ex sc d 274 1322 [l0, l1, l2, l3, some (vI a), l5, l6] st hs Q ↔ Ex sc d 274 1324 [l0, l1, l2, l3, some (vI a), l5, l6] (vI a :: st) hs Q := e_iload ((cd274 1322).trans rfl) rfl
set_option maxRecDepth 20000 in
theorem x274_1324 {sc : Scr} {d : Nat} {l0 l1 l2 l3 l4 l5 l6 : Option V} {st : List V} {hs : HS} {Q : Rs → HS → Prop} : Ex sc d 274 1324 [l0, l1, l2, l3, l4, l5, l6] st hs Q ↔ Ex sc d 274 1325 [l0, l1, l2, l3, l4, l5, l6] (vI (1) :: st) hs Q := e_iconst ((cd274 1324).trans rfl)
set_option maxRecDepth 20000 in
theorem x274_1325 {sc : Scr} {d : Nat} {l0 l1 l2 l3 l4 l5 l6 : Option V} {st : List V} {hs : HS} {Q : Rs → HS → Prop} {a b : Int} : Ex sc d 274 1325 [l0, l1, l2, l3, l4, l5, l6] (vI b :: vI a :: st) hs Q ↔ Ex sc d 274 1326 [l0, l1, l2, l3, l4, l5, l6] (vI (a + b) :: st) hs Q := e_iadd ((cd274 1325).trans rfl)
set_option maxRecDepth 20000 in
theorem x274_1326 {sc : Scr} {d : Nat} {l0 l1 l2 l3 l4 l5 l6 : Option V} {st : List V} {hs : HS} {Q : Rs → HS → Prop} {i : Int} (hq : 0 ≤ i ∧ i < (sc.1 : Int) ∧ sc.1 < 2147483648) : Ex sc d 274 1326 [l0, l1, l2, l3, l4, l5, l6] (vI i :: vS 9 :: st) hs Q ↔ Ex sc d 274 1327 [l0, l1, l2, l3, l4, l5, l6] (vI (sc.2 i.toNat) :: st) hs Q := e_ialdS ((cd274 1326).trans rfl) hq
set_option maxRecDepth 20000 in
theorem x274_1327 {sc : Scr} {d : Nat} {l0 l1 l2 l3 l4 l5 l6 : Option V} {st : List V} {hs : HS} {Q : Rs → HS → Prop} {a0 : Int} {q : Nat} (hd : 0 < d) (hc : catS st ≤ 8) (ho : isObj hs 12 (vR q) = true) : Ex sc d 274 1327 [l0, l1, l2, l3, l4, l5, l6] (vI a0 :: vR q :: st) hs Q ↔ Ex sc (d - 1) 262 0 [some (vR q), some (vI a0), none, none] [] hs (Kc sc d 274 1327 1330 [l0, l1, l2, l3, l4, l5, l6] st Q) := e_callV ((cd274 1327).trans rfl) ho (by simp only [List.length_cons]; omega) (by decide) rfl rfl rfl hc rfl hd
set_option maxRecDepth 20000 in
theorem x274_1330 {sc : Scr} {d : Nat} {l0 l1 l2 l3 l4 l5 l6 : Option V} {st : List V} {hs : HS} {Q : Rs → HS → Prop} {a : Int} (hn : notL l5 = true) : Ex sc d 274 1330 [l0, l1, l2, l3, l4, l5, l6] (vI a :: st) hs Q ↔ Ex sc d 274 1332 [l0, l1, l2, l3, l4, l5, some (vI a)] st hs Q := e_istore ((cd274 1330).trans rfl) (by show 6 < 7; decide) (noL_of (j := 5) rfl hn) rfl
set_option maxRecDepth 20000 in
theorem x274_1332 {sc : Scr} {d : Nat} {l0 l1 l3 l4 l5 l6 : Option V} {st : List V} {hs : HS} {Q : Rs → HS → Prop} {a : Nat} : Ex sc d 274 1332 [l0, l1, some (vR a), l3, l4, l5, l6] st hs Q ↔ Ex sc d 274 1333 [l0, l1, some (vR a), l3, l4, l5, l6] (vR a :: st) hs Q := e_aload ((cd274 1332).trans rfl) rfl
set_option maxRecDepth 20000 in
theorem x274_1333 {sc : Scr} {d : Nat} {l0 l1 l2 l3 l4 l5 l6 : Option V} {st : List V} {hs : HS} {Q : Rs → HS → Prop} {q : Nat} (hd : 0 < d) (hc : catS st ≤ 8) (ho : isObj hs 12 (vR q) = true) : Ex sc d 274 1333 [l0, l1, l2, l3, l4, l5, l6] (vR q :: st) hs Q ↔ Ex sc (d - 1) 177 0 [some (vR q)] [] hs (Kc sc d 274 1333 1336 [l0, l1, l2, l3, l4, l5, l6] st Q) := e_callV ((cd274 1333).trans rfl) ho (by simp only [List.length_cons]; omega) (by decide) rfl rfl rfl hc rfl hd
set_option maxRecDepth 20000 in
theorem x274_1336 {sc : Scr} {d : Nat} {l0 l1 l2 l3 l4 l6 : Option V} {st : List V} {hs : HS} {Q : Rs → HS → Prop} {a : Int} : Ex sc d 274 1336 [l0, l1, l2, l3, l4, some (vI a), l6] st hs Q ↔ Ex sc d 274 1338 [l0, l1, l2, l3, l4, some (vI a), l6] (vI a :: st) hs Q := e_iload ((cd274 1336).trans rfl) rfl
set_option maxRecDepth 20000 in
theorem x274_1338 {sc : Scr} {d : Nat} {l0 l1 l2 l3 l4 l5 l6 : Option V} {st : List V} {hs : HS} {Q : Rs → HS → Prop} {a b : Int} (ha : inR a) (hb : inR b) : Ex sc d 274 1338 [l0, l1, l2, l3, l4, l5, l6] (vI b :: vI a :: st) hs Q ↔ if a = b then Ex sc d 274 1343 [l0, l1, l2, l3, l4, l5, l6] st hs Q else Ex sc d 274 1341 [l0, l1, l2, l3, l4, l5, l6] st hs Q := (e_icmp ((cd274 1338).trans rfl) ha hb).trans (by simp only [cmpI, decide_eq_true_eq])
set_option maxRecDepth 20000 in
theorem x274_1341 {sc : Scr} {d : Nat} {l0 l1 l2 l3 l4 l5 l6 : Option V} {st : List V} {hs : HS} {Q : Rs → HS → Prop} : Ex sc d 274 1341 [l0, l1, l2, l3, l4, l5, l6] st hs Q ↔ Ex sc d 274 1342 [l0, l1, l2, l3, l4, l5, l6] (vI (0) :: st) hs Q := e_iconst ((cd274 1341).trans rfl)
set_option maxRecDepth 20000 in
theorem x274_1342 {sc : Scr} {d : Nat} {l0 l1 l2 l3 l4 l5 l6 : Option V} {hs : HS} {Q : Rs → HS → Prop} {a : Int} (ha : a = 0 ∨ a = 1) : Ex sc d 274 1342 [l0, l1, l2, l3, l4, l5, l6] [vI a] hs Q ↔ Q (.inl (some (vI a))) hs := e_zret ((cd274 1342).trans rfl) rfl ha
set_option maxRecDepth 20000 in
theorem x274_1343 {sc : Scr} {d : Nat} {l0 l1 l2 l3 l4 l6 : Option V} {st : List V} {hs : HS} {Q : Rs → HS → Prop} {a : Int} : Ex sc d 274 1343 [l0, l1, l2, l3, l4, some (vI a), l6] st hs Q ↔ Ex sc d 274 1345 [l0, l1, l2, l3, l4, some (vI a), l6] (vI a :: st) hs Q := e_iload ((cd274 1343).trans rfl) rfl
set_option maxRecDepth 20000 in
theorem x274_1345 {sc : Scr} {d : Nat} {l0 l1 l2 l3 l4 l5 l6 : Option V} {st : List V} {hs : HS} {Q : Rs → HS → Prop} {a : Int} (ha : inR a) : Ex sc d 274 1345 [l0, l1, l2, l3, l4, l5, l6] (vI a :: st) hs Q ↔ if ¬ a = 0 then Ex sc d 274 1360 [l0, l1, l2, l3, l4, l5, l6] st hs Q else Ex sc d 274 1348 [l0, l1, l2, l3, l4, l5, l6] st hs Q := (e_if ((cd274 1345).trans rfl) ha).trans (by simp only [cmpI, decide_eq_true_eq])
set_option maxRecDepth 20000 in
theorem x274_1348 {sc : Scr} {d : Nat} {l0 l1 l2 l4 l5 l6 : Option V} {st : List V} {hs : HS} {Q : Rs → HS → Prop} {a : Nat} : Ex sc d 274 1348 [l0, l1, l2, some (vR a), l4, l5, l6] st hs Q ↔ Ex sc d 274 1349 [l0, l1, l2, some (vR a), l4, l5, l6] (vR a :: st) hs Q := e_aload ((cd274 1348).trans rfl) rfl
set_option maxRecDepth 20000 in
theorem x274_1349 {sc : Scr} {d : Nat} {l0 l1 l2 l3 l4 l5 l6 : Option V} {st : List V} {hs : HS} {Q : Rs → HS → Prop} : Ex sc d 274 1349 [l0, l1, l2, l3, l4, l5, l6] st hs Q ↔ Ex sc d 274 1350 [l0, l1, l2, l3, l4, l5, l6] (vI (0) :: st) hs Q := e_iconst ((cd274 1349).trans rfl)
set_option maxRecDepth 20000 in
theorem x274_1350 {sc : Scr} {d : Nat} {l0 l1 l2 l3 l4 l5 l6 : Option V} {st : List V} {hs : HS} {Q : Rs → HS → Prop} {a : Nat} {i : Int} : Ex sc d 274 1350 [l0, l1, l2, l3, l4, l5, l6] (vI i :: vR a :: st) hs Q ↔ Ra hs 2 a i (fun z => Ex sc d 274 1351 [l0, l1, l2, l3, l4, l5, l6] (vL z :: st) hs Q) := e_lald ((cd274 1350).trans rfl)
set_option maxRecDepth 20000 in
theorem x274_1351 {sc : Scr} {d : Nat} {l0 l1 l2 l3 l4 l5 : Option V} {st : List V} {hs : HS} {Q : Rs → HS → Prop} {a : Int} : Ex sc d 274 1351 [l0, l1, l2, l3, l4, l5, some (vI a)] st hs Q ↔ Ex sc d 274 1353 [l0, l1, l2, l3, l4, l5, some (vI a)] (vI a :: st) hs Q := e_iload ((cd274 1351).trans rfl) rfl
set_option maxRecDepth 20000 in
theorem x274_1353 {sc : Scr} {d : Nat} {l0 l1 l2 l3 l4 l5 l6 : Option V} {st : List V} {hs : HS} {Q : Rs → HS → Prop} {a : Int} (ha : inR a) : Ex sc d 274 1353 [l0, l1, l2, l3, l4, l5, l6] (vI a :: st) hs Q ↔ Ex sc d 274 1354 [l0, l1, l2, l3, l4, l5, l6] (vL a :: st) hs Q := e_i2l ((cd274 1353).trans rfl) ha
set_option maxRecDepth 20000 in
theorem x274_1354 {sc : Scr} {d : Nat} {l0 l1 l2 l3 l4 l5 l6 : Option V} {st : List V} {hs : HS} {Q : Rs → HS → Prop} {a b : Int} (ha : inL a) (hb : inL b) : Ex sc d 274 1354 [l0, l1, l2, l3, l4, l5, l6] (vL b :: vL a :: st) hs Q ↔ Ex sc d 274 1355 [l0, l1, l2, l3, l4, l5, l6] (vI (if a < b then -1 else if a = b then 0 else 1) :: st) hs Q := e_lcmp ((cd274 1354).trans rfl) ha hb
set_option maxRecDepth 20000 in
theorem x274_1355 {sc : Scr} {d : Nat} {l0 l1 l2 l3 l4 l5 l6 : Option V} {st : List V} {hs : HS} {Q : Rs → HS → Prop} {a : Int} (ha : inR a) : Ex sc d 274 1355 [l0, l1, l2, l3, l4, l5, l6] (vI a :: st) hs Q ↔ if a = 0 then Ex sc d 274 1360 [l0, l1, l2, l3, l4, l5, l6] st hs Q else Ex sc d 274 1358 [l0, l1, l2, l3, l4, l5, l6] st hs Q := (e_if ((cd274 1355).trans rfl) ha).trans (by simp only [cmpI, decide_eq_true_eq])
set_option maxRecDepth 20000 in
theorem x274_1358 {sc : Scr} {d : Nat} {l0 l1 l2 l3 l4 l5 l6 : Option V} {st : List V} {hs : HS} {Q : Rs → HS → Prop} : Ex sc d 274 1358 [l0, l1, l2, l3, l4, l5, l6] st hs Q ↔ Ex sc d 274 1359 [l0, l1, l2, l3, l4, l5, l6] (vI (0) :: st) hs Q := e_iconst ((cd274 1358).trans rfl)
set_option maxRecDepth 20000 in
theorem x274_1359 {sc : Scr} {d : Nat} {l0 l1 l2 l3 l4 l5 l6 : Option V} {hs : HS} {Q : Rs → HS → Prop} {a : Int} (ha : a = 0 ∨ a = 1) : Ex sc d 274 1359 [l0, l1, l2, l3, l4, l5, l6] [vI a] hs Q ↔ Q (.inl (some (vI a))) hs := e_zret ((cd274 1359).trans rfl) rfl ha
set_option maxRecDepth 20000 in
theorem x274_1360 {sc : Scr} {d : Nat} {l0 l1 l2 l3 l4 l5 l6 : Option V} {st : List V} {hs : HS} {Q : Rs → HS → Prop} : Ex sc d 274 1360 [l0, l1, l2, l3, l4, l5, l6] st hs Q ↔ Ex sc d 274 1660 [l0, l1, l2, l3, l4, l5, l6] st hs Q := e_goto ((cd274 1360).trans rfl)
set_option maxRecDepth 20000 in
theorem x274_1363 {sc : Scr} {d : Nat} {l0 l2 l3 l4 l5 l6 : Option V} {st : List V} {hs : HS} {Q : Rs → HS → Prop} {a : Nat} : Ex sc d 274 1363 [l0, some (vR a), l2, l3, l4, l5, l6] st hs Q ↔ Ex sc d 274 1364 [l0, some (vR a), l2, l3, l4, l5, l6] (vR a :: st) hs Q := e_aload ((cd274 1363).trans rfl) rfl
set_option maxRecDepth 20000 in
theorem x274_1364 {sc : Scr} {d : Nat} {l1 l2 l3 l4 l5 l6 : Option V} {st : List V} {hs : HS} {Q : Rs → HS → Prop} {a : Nat} : Ex sc d 274 1364 [some (vS a), l1, l2, l3, l4, l5, l6] st hs Q ↔ Ex sc d 274 1365 [some (vS a), l1, l2, l3, l4, l5, l6] (vS a :: st) hs Q := e_aloadS ((cd274 1364).trans rfl) rfl
set_option maxRecDepth 20000 in
theorem x274_1365 {sc : Scr} {d : Nat} {l0 l1 l2 l3 l5 l6 : Option V} {st : List V} {hs : HS} {Q : Rs → HS → Prop} {a : Int} : Ex sc d 274 1365 [l0, l1, l2, l3, some (vI a), l5, l6] st hs Q ↔ Ex sc d 274 1367 [l0, l1, l2, l3, some (vI a), l5, l6] (vI a :: st) hs Q := e_iload ((cd274 1365).trans rfl) rfl
set_option maxRecDepth 20000 in
theorem x274_1367 {sc : Scr} {d : Nat} {l0 l1 l2 l3 l4 l5 l6 : Option V} {st : List V} {hs : HS} {Q : Rs → HS → Prop} : Ex sc d 274 1367 [l0, l1, l2, l3, l4, l5, l6] st hs Q ↔ Ex sc d 274 1368 [l0, l1, l2, l3, l4, l5, l6] (vI (1) :: st) hs Q := e_iconst ((cd274 1367).trans rfl)
set_option maxRecDepth 20000 in
theorem x274_1368 {sc : Scr} {d : Nat} {l0 l1 l2 l3 l4 l5 l6 : Option V} {st : List V} {hs : HS} {Q : Rs → HS → Prop} {a b : Int} : Ex sc d 274 1368 [l0, l1, l2, l3, l4, l5, l6] (vI b :: vI a :: st) hs Q ↔ Ex sc d 274 1369 [l0, l1, l2, l3, l4, l5, l6] (vI (a + b) :: st) hs Q := e_iadd ((cd274 1368).trans rfl)
set_option maxRecDepth 20000 in
theorem x274_1369 {sc : Scr} {d : Nat} {l0 l1 l2 l3 l4 l5 l6 : Option V} {st : List V} {hs : HS} {Q : Rs → HS → Prop} {i : Int} (hq : 0 ≤ i ∧ i < (sc.1 : Int) ∧ sc.1 < 2147483648) : Ex sc d 274 1369 [l0, l1, l2, l3, l4, l5, l6] (vI i :: vS 9 :: st) hs Q ↔ Ex sc d 274 1370 [l0, l1, l2, l3, l4, l5, l6] (vI (sc.2 i.toNat) :: st) hs Q := e_ialdS ((cd274 1369).trans rfl) hq
set_option maxRecDepth 20000 in
theorem x274_1370 {sc : Scr} {d : Nat} {l1 l2 l3 l4 l5 l6 : Option V} {st : List V} {hs : HS} {Q : Rs → HS → Prop} {a : Nat} : Ex sc d 274 1370 [some (vS a), l1, l2, l3, l4, l5, l6] st hs Q ↔ Ex sc d 274 1371 [some (vS a), l1, l2, l3, l4, l5, l6] (vS a :: st) hs Q := e_aloadS ((cd274 1370).trans rfl) rfl
set_option maxRecDepth 20000 in
theorem x274_1371 {sc : Scr} {d : Nat} {l0 l1 l2 l3 l5 l6 : Option V} {st : List V} {hs : HS} {Q : Rs → HS → Prop} {a : Int} : Ex sc d 274 1371 [l0, l1, l2, l3, some (vI a), l5, l6] st hs Q ↔ Ex sc d 274 1373 [l0, l1, l2, l3, some (vI a), l5, l6] (vI a :: st) hs Q := e_iload ((cd274 1371).trans rfl) rfl
set_option maxRecDepth 20000 in
theorem x274_1373 {sc : Scr} {d : Nat} {l0 l1 l2 l3 l4 l5 l6 : Option V} {st : List V} {hs : HS} {Q : Rs → HS → Prop} : Ex sc d 274 1373 [l0, l1, l2, l3, l4, l5, l6] st hs Q ↔ Ex sc d 274 1374 [l0, l1, l2, l3, l4, l5, l6] (vI (2) :: st) hs Q := e_iconst ((cd274 1373).trans rfl)
set_option maxRecDepth 20000 in
theorem x274_1374 {sc : Scr} {d : Nat} {l0 l1 l2 l3 l4 l5 l6 : Option V} {st : List V} {hs : HS} {Q : Rs → HS → Prop} {a b : Int} : Ex sc d 274 1374 [l0, l1, l2, l3, l4, l5, l6] (vI b :: vI a :: st) hs Q ↔ Ex sc d 274 1375 [l0, l1, l2, l3, l4, l5, l6] (vI (a + b) :: st) hs Q := e_iadd ((cd274 1374).trans rfl)
set_option maxRecDepth 20000 in
theorem x274_1375 {sc : Scr} {d : Nat} {l0 l1 l2 l3 l4 l5 l6 : Option V} {st : List V} {hs : HS} {Q : Rs → HS → Prop} {i : Int} (hq : 0 ≤ i ∧ i < (sc.1 : Int) ∧ sc.1 < 2147483648) : Ex sc d 274 1375 [l0, l1, l2, l3, l4, l5, l6] (vI i :: vS 9 :: st) hs Q ↔ Ex sc d 274 1376 [l0, l1, l2, l3, l4, l5, l6] (vI (sc.2 i.toNat) :: st) hs Q := e_ialdS ((cd274 1375).trans rfl) hq
set_option maxRecDepth 20000 in
theorem x274_1376 {sc : Scr} {d : Nat} {l0 l1 l2 l3 l4 l5 l6 : Option V} {st : List V} {hs : HS} {Q : Rs → HS → Prop} {a0 : Int} {a1 : Int} {q : Nat} (hd : 0 < d) (hc : catS st ≤ 8) (ho : isObj hs 11 (vR q) = true) : Ex sc d 274 1376 [l0, l1, l2, l3, l4, l5, l6] (vI a1 :: vI a0 :: vR q :: st) hs Q ↔ Ex sc (d - 1) 19 0 [some (vR q), some (vI a0), some (vI a1)] [] hs (Kc sc d 274 1376 1379 [l0, l1, l2, l3, l4, l5, l6] st Q) := e_callV ((cd274 1376).trans rfl) ho (by simp only [List.length_cons]; omega) (by decide) rfl rfl rfl hc rfl hd
set_option maxRecDepth 20000 in
theorem x274_1379 {sc : Scr} {d : Nat} {l0 l1 l3 l4 l5 l6 : Option V} {st : List V} {hs : HS} {Q : Rs → HS → Prop} {a : Nat} : Ex sc d 274 1379 [l0, l1, some (vR a), l3, l4, l5, l6] st hs Q ↔ Ex sc d 274 1380 [l0, l1, some (vR a), l3, l4, l5, l6] (vR a :: st) hs Q := e_aload ((cd274 1379).trans rfl) rfl
set_option maxRecDepth 20000 in
theorem x274_1380 {sc : Scr} {d : Nat} {l1 l2 l3 l4 l5 l6 : Option V} {st : List V} {hs : HS} {Q : Rs → HS → Prop} {a : Nat} : Ex sc d 274 1380 [some (vS a), l1, l2, l3, l4, l5, l6] st hs Q ↔ Ex sc d 274 1381 [some (vS a), l1, l2, l3, l4, l5, l6] (vS a :: st) hs Q := e_aloadS ((cd274 1380).trans rfl) rfl
set_option maxRecDepth 20000 in
theorem x274_1381 {sc : Scr} {d : Nat} {l0 l1 l2 l3 l5 l6 : Option V} {st : List V} {hs : HS} {Q : Rs → HS → Prop} {a : Int} : Ex sc d 274 1381 [l0, l1, l2, l3, some (vI a), l5, l6] st hs Q ↔ Ex sc d 274 1383 [l0, l1, l2, l3, some (vI a), l5, l6] (vI a :: st) hs Q := e_iload ((cd274 1381).trans rfl) rfl
set_option maxRecDepth 20000 in
theorem x274_1383 {sc : Scr} {d : Nat} {l0 l1 l2 l3 l4 l5 l6 : Option V} {st : List V} {hs : HS} {Q : Rs → HS → Prop} : Ex sc d 274 1383 [l0, l1, l2, l3, l4, l5, l6] st hs Q ↔ Ex sc d 274 1384 [l0, l1, l2, l3, l4, l5, l6] (vI (1) :: st) hs Q := e_iconst ((cd274 1383).trans rfl)
set_option maxRecDepth 20000 in
theorem x274_1384 {sc : Scr} {d : Nat} {l0 l1 l2 l3 l4 l5 l6 : Option V} {st : List V} {hs : HS} {Q : Rs → HS → Prop} {a b : Int} : Ex sc d 274 1384 [l0, l1, l2, l3, l4, l5, l6] (vI b :: vI a :: st) hs Q ↔ Ex sc d 274 1385 [l0, l1, l2, l3, l4, l5, l6] (vI (a + b) :: st) hs Q := e_iadd ((cd274 1384).trans rfl)
set_option maxRecDepth 20000 in
theorem x274_1385 {sc : Scr} {d : Nat} {l0 l1 l2 l3 l4 l5 l6 : Option V} {st : List V} {hs : HS} {Q : Rs → HS → Prop} {i : Int} (hq : 0 ≤ i ∧ i < (sc.1 : Int) ∧ sc.1 < 2147483648) : Ex sc d 274 1385 [l0, l1, l2, l3, l4, l5, l6] (vI i :: vS 9 :: st) hs Q ↔ Ex sc d 274 1386 [l0, l1, l2, l3, l4, l5, l6] (vI (sc.2 i.toNat) :: st) hs Q := e_ialdS ((cd274 1385).trans rfl) hq
set_option maxRecDepth 20000 in
theorem x274_1386 {sc : Scr} {d : Nat} {l1 l2 l3 l4 l5 l6 : Option V} {st : List V} {hs : HS} {Q : Rs → HS → Prop} {a : Nat} : Ex sc d 274 1386 [some (vS a), l1, l2, l3, l4, l5, l6] st hs Q ↔ Ex sc d 274 1387 [some (vS a), l1, l2, l3, l4, l5, l6] (vS a :: st) hs Q := e_aloadS ((cd274 1386).trans rfl) rfl
set_option maxRecDepth 20000 in
theorem x274_1387 {sc : Scr} {d : Nat} {l0 l1 l2 l3 l5 l6 : Option V} {st : List V} {hs : HS} {Q : Rs → HS → Prop} {a : Int} : Ex sc d 274 1387 [l0, l1, l2, l3, some (vI a), l5, l6] st hs Q ↔ Ex sc d 274 1389 [l0, l1, l2, l3, some (vI a), l5, l6] (vI a :: st) hs Q := e_iload ((cd274 1387).trans rfl) rfl
set_option maxRecDepth 20000 in
theorem x274_1389 {sc : Scr} {d : Nat} {l0 l1 l2 l3 l4 l5 l6 : Option V} {st : List V} {hs : HS} {Q : Rs → HS → Prop} : Ex sc d 274 1389 [l0, l1, l2, l3, l4, l5, l6] st hs Q ↔ Ex sc d 274 1390 [l0, l1, l2, l3, l4, l5, l6] (vI (2) :: st) hs Q := e_iconst ((cd274 1389).trans rfl)
set_option maxRecDepth 20000 in
theorem x274_1390 {sc : Scr} {d : Nat} {l0 l1 l2 l3 l4 l5 l6 : Option V} {st : List V} {hs : HS} {Q : Rs → HS → Prop} {a b : Int} : Ex sc d 274 1390 [l0, l1, l2, l3, l4, l5, l6] (vI b :: vI a :: st) hs Q ↔ Ex sc d 274 1391 [l0, l1, l2, l3, l4, l5, l6] (vI (a + b) :: st) hs Q := e_iadd ((cd274 1390).trans rfl)
set_option maxRecDepth 20000 in
theorem x274_1391 {sc : Scr} {d : Nat} {l0 l1 l2 l3 l4 l5 l6 : Option V} {st : List V} {hs : HS} {Q : Rs → HS → Prop} {i : Int} (hq : 0 ≤ i ∧ i < (sc.1 : Int) ∧ sc.1 < 2147483648) : Ex sc d 274 1391 [l0, l1, l2, l3, l4, l5, l6] (vI i :: vS 9 :: st) hs Q ↔ Ex sc d 274 1392 [l0, l1, l2, l3, l4, l5, l6] (vI (sc.2 i.toNat) :: st) hs Q := e_ialdS ((cd274 1391).trans rfl) hq
set_option maxRecDepth 20000 in
theorem x274_1392 {sc : Scr} {d : Nat} {l0 l1 l2 l3 l4 l5 l6 : Option V} {st : List V} {hs : HS} {Q : Rs → HS → Prop} {a0 : Int} {a1 : Int} {q : Nat} (hd : 0 < d) (hc : catS st ≤ 8) (ho : isObj hs 12 (vR q) = true) : Ex sc d 274 1392 [l0, l1, l2, l3, l4, l5, l6] (vI a1 :: vI a0 :: vR q :: st) hs Q ↔ Ex sc (d - 1) 264 0 [some (vR q), some (vI a0), some (vI a1)] [] hs (Kc sc d 274 1392 1395 [l0, l1, l2, l3, l4, l5, l6] st Q) := e_callV ((cd274 1392).trans rfl) ho (by simp only [List.length_cons]; omega) (by decide) rfl rfl rfl hc rfl hd
set_option maxRecDepth 20000 in
theorem x274_1395 {sc : Scr} {d : Nat} {l0 l1 l2 l3 l4 l5 l6 : Option V} {st : List V} {hs : HS} {Q : Rs → HS → Prop} {a b : Int} (ha : inR a) (hb : inR b) : Ex sc d 274 1395 [l0, l1, l2, l3, l4, l5, l6] (vI b :: vI a :: st) hs Q ↔ if a = b then Ex sc d 274 1660 [l0, l1, l2, l3, l4, l5, l6] st hs Q else Ex sc d 274 1398 [l0, l1, l2, l3, l4, l5, l6] st hs Q := (e_icmp ((cd274 1395).trans rfl) ha hb).trans (by simp only [cmpI, decide_eq_true_eq])
set_option maxRecDepth 20000 in
theorem x274_1398 {sc : Scr} {d : Nat} {l0 l1 l2 l3 l4 l5 l6 : Option V} {st : List V} {hs : HS} {Q : Rs → HS → Prop} : Ex sc d 274 1398 [l0, l1, l2, l3, l4, l5, l6] st hs Q ↔ Ex sc d 274 1399 [l0, l1, l2, l3, l4, l5, l6] (vI (0) :: st) hs Q := e_iconst ((cd274 1398).trans rfl)
set_option maxRecDepth 20000 in
theorem x274_1399 {sc : Scr} {d : Nat} {l0 l1 l2 l3 l4 l5 l6 : Option V} {hs : HS} {Q : Rs → HS → Prop} {a : Int} (ha : a = 0 ∨ a = 1) : Ex sc d 274 1399 [l0, l1, l2, l3, l4, l5, l6] [vI a] hs Q ↔ Q (.inl (some (vI a))) hs := e_zret ((cd274 1399).trans rfl) rfl ha
set_option maxRecDepth 20000 in
theorem x274_1400 {sc : Scr} {d : Nat} {l0 l2 l3 l4 l5 l6 : Option V} {st : List V} {hs : HS} {Q : Rs → HS → Prop} {a : Nat} : Ex sc d 274 1400 [l0, some (vR a), l2, l3, l4, l5, l6] st hs Q ↔ Ex sc d 274 1401 [l0, some (vR a), l2, l3, l4, l5, l6] (vR a :: st) hs Q := e_aload ((cd274 1400).trans rfl) rfl
set_option maxRecDepth 20000 in
theorem x274_1401 {sc : Scr} {d : Nat} {l1 l2 l3 l4 l5 l6 : Option V} {st : List V} {hs : HS} {Q : Rs → HS → Prop} {a : Nat} : Ex sc d 274 1401 [some (vS a), l1, l2, l3, l4, l5, l6] st hs Q ↔ Ex sc d 274 1402 [some (vS a), l1, l2, l3, l4, l5, l6] (vS a :: st) hs Q := e_aloadS ((cd274 1401).trans rfl) rfl
set_option maxRecDepth 20000 in
theorem x274_1402 {sc : Scr} {d : Nat} {l0 l1 l2 l3 l5 l6 : Option V} {st : List V} {hs : HS} {Q : Rs → HS → Prop} {a : Int} : Ex sc d 274 1402 [l0, l1, l2, l3, some (vI a), l5, l6] st hs Q ↔ Ex sc d 274 1404 [l0, l1, l2, l3, some (vI a), l5, l6] (vI a :: st) hs Q := e_iload ((cd274 1402).trans rfl) rfl
set_option maxRecDepth 20000 in
theorem x274_1404 {sc : Scr} {d : Nat} {l0 l1 l2 l3 l4 l5 l6 : Option V} {st : List V} {hs : HS} {Q : Rs → HS → Prop} : Ex sc d 274 1404 [l0, l1, l2, l3, l4, l5, l6] st hs Q ↔ Ex sc d 274 1405 [l0, l1, l2, l3, l4, l5, l6] (vI (1) :: st) hs Q := e_iconst ((cd274 1404).trans rfl)
set_option maxRecDepth 20000 in
theorem x274_1405 {sc : Scr} {d : Nat} {l0 l1 l2 l3 l4 l5 l6 : Option V} {st : List V} {hs : HS} {Q : Rs → HS → Prop} {a b : Int} : Ex sc d 274 1405 [l0, l1, l2, l3, l4, l5, l6] (vI b :: vI a :: st) hs Q ↔ Ex sc d 274 1406 [l0, l1, l2, l3, l4, l5, l6] (vI (a + b) :: st) hs Q := e_iadd ((cd274 1405).trans rfl)
set_option maxRecDepth 20000 in
theorem x274_1406 {sc : Scr} {d : Nat} {l0 l1 l2 l3 l4 l5 l6 : Option V} {st : List V} {hs : HS} {Q : Rs → HS → Prop} {i : Int} (hq : 0 ≤ i ∧ i < (sc.1 : Int) ∧ sc.1 < 2147483648) : Ex sc d 274 1406 [l0, l1, l2, l3, l4, l5, l6] (vI i :: vS 9 :: st) hs Q ↔ Ex sc d 274 1407 [l0, l1, l2, l3, l4, l5, l6] (vI (sc.2 i.toNat) :: st) hs Q := e_ialdS ((cd274 1406).trans rfl) hq
set_option maxRecDepth 20000 in
theorem x274_1407 {sc : Scr} {d : Nat} {l0 l1 l2 l4 l5 l6 : Option V} {st : List V} {hs : HS} {Q : Rs → HS → Prop} {a : Nat} : Ex sc d 274 1407 [l0, l1, l2, some (vR a), l4, l5, l6] st hs Q ↔ Ex sc d 274 1408 [l0, l1, l2, some (vR a), l4, l5, l6] (vR a :: st) hs Q := e_aload ((cd274 1407).trans rfl) rfl
set_option maxRecDepth 20000 in
theorem x274_1408 {sc : Scr} {d : Nat} {l0 l1 l2 l3 l4 l5 l6 : Option V} {st : List V} {hs : HS} {Q : Rs → HS → Prop} {a0 : Nat} {a1 : Int} {a2 : Nat} (hd : 0 < d) (hc : catS st ≤ 8) : Ex sc d 274 1408 [l0, l1, l2, l3, l4, l5, l6] (vR a2 :: vI a1 :: vR a0 :: st) hs Q ↔ Ex sc (d - 1) 155 0 [some (vR a0), some (vI a1), some (vR a2), none] [] hs (Kc sc d 274 1408 1411 [l0, l1, l2, l3, l4, l5, l6] st Q) := e_callS ((cd274 1408).trans rfl) (by simp only [List.length_cons]; omega) (by decide) rfl rfl rfl hc rfl hd
set_option maxRecDepth 20000 in
theorem x274_1411 {sc : Scr} {d : Nat} {l0 l1 l2 l3 l4 l5 l6 : Option V} {st : List V} {hs : HS} {Q : Rs → HS → Prop} {a : Int} (hn : notL l4 = true) : Ex sc d 274 1411 [l0, l1, l2, l3, l4, l5, l6] (vI a :: st) hs Q ↔ Ex sc d 274 1413 [l0, l1, l2, l3, l4, some (vI a), l6] st hs Q := e_istore ((cd274 1411).trans rfl) (by show 5 < 7; decide) (noL_of (j := 4) rfl hn) rfl
set_option maxRecDepth 20000 in
theorem x274_1413 {sc : Scr} {d : Nat} {l0 l1 l3 l4 l5 l6 : Option V} {st : List V} {hs : HS} {Q : Rs → HS → Prop} {a : Nat} : Ex sc d 274 1413 [l0, l1, some (vR a), l3, l4, l5, l6] st hs Q ↔ Ex sc d 274 1414 [l0, l1, some (vR a), l3, l4, l5, l6] (vR a :: st) hs Q := e_aload ((cd274 1413).trans rfl) rfl
set_option maxRecDepth 20000 in
theorem x274_1414 {sc : Scr} {d : Nat} {l1 l2 l3 l4 l5 l6 : Option V} {st : List V} {hs : HS} {Q : Rs → HS → Prop} {a : Nat} : Ex sc d 274 1414 [some (vS a), l1, l2, l3, l4, l5, l6] st hs Q ↔ Ex sc d 274 1415 [some (vS a), l1, l2, l3, l4, l5, l6] (vS a :: st) hs Q := e_aloadS ((cd274 1414).trans rfl) rfl
set_option maxRecDepth 20000 in
theorem x274_1415 {sc : Scr} {d : Nat} {l0 l1 l2 l3 l5 l6 : Option V} {st : List V} {hs : HS} {Q : Rs → HS → Prop} {a : Int} : Ex sc d 274 1415 [l0, l1, l2, l3, some (vI a), l5, l6] st hs Q ↔ Ex sc d 274 1417 [l0, l1, l2, l3, some (vI a), l5, l6] (vI a :: st) hs Q := e_iload ((cd274 1415).trans rfl) rfl
set_option maxRecDepth 20000 in
theorem x274_1417 {sc : Scr} {d : Nat} {l0 l1 l2 l3 l4 l5 l6 : Option V} {st : List V} {hs : HS} {Q : Rs → HS → Prop} : Ex sc d 274 1417 [l0, l1, l2, l3, l4, l5, l6] st hs Q ↔ Ex sc d 274 1418 [l0, l1, l2, l3, l4, l5, l6] (vI (1) :: st) hs Q := e_iconst ((cd274 1417).trans rfl)
set_option maxRecDepth 20000 in
theorem x274_1418 {sc : Scr} {d : Nat} {l0 l1 l2 l3 l4 l5 l6 : Option V} {st : List V} {hs : HS} {Q : Rs → HS → Prop} {a b : Int} : Ex sc d 274 1418 [l0, l1, l2, l3, l4, l5, l6] (vI b :: vI a :: st) hs Q ↔ Ex sc d 274 1419 [l0, l1, l2, l3, l4, l5, l6] (vI (a + b) :: st) hs Q := e_iadd ((cd274 1418).trans rfl)
set_option maxRecDepth 20000 in
theorem x274_1419 {sc : Scr} {d : Nat} {l0 l1 l2 l3 l4 l5 l6 : Option V} {st : List V} {hs : HS} {Q : Rs → HS → Prop} {i : Int} (hq : 0 ≤ i ∧ i < (sc.1 : Int) ∧ sc.1 < 2147483648) : Ex sc d 274 1419 [l0, l1, l2, l3, l4, l5, l6] (vI i :: vS 9 :: st) hs Q ↔ Ex sc d 274 1420 [l0, l1, l2, l3, l4, l5, l6] (vI (sc.2 i.toNat) :: st) hs Q := e_ialdS ((cd274 1419).trans rfl) hq
set_option maxRecDepth 20000 in
theorem x274_1420 {sc : Scr} {d : Nat} {l0 l1 l2 l3 l4 l5 l6 : Option V} {st : List V} {hs : HS} {Q : Rs → HS → Prop} {a0 : Int} {q : Nat} (hd : 0 < d) (hc : catS st ≤ 8) (ho : isObj hs 12 (vR q) = true) : Ex sc d 274 1420 [l0, l1, l2, l3, l4, l5, l6] (vI a0 :: vR q :: st) hs Q ↔ Ex sc (d - 1) 265 0 [some (vR q), some (vI a0), none, none, none, none, none, none] [] hs (Kc sc d 274 1420 1423 [l0, l1, l2, l3, l4, l5, l6] st Q) := e_callV ((cd274 1420).trans rfl) ho (by simp only [List.length_cons]; omega) (by decide) rfl rfl rfl hc rfl hd
set_option maxRecDepth 20000 in
theorem x274_1423 {sc : Scr} {d : Nat} {l0 l1 l2 l3 l4 l5 l6 : Option V} {st : List V} {hs : HS} {Q : Rs → HS → Prop} {a : Int} (hn : notL l5 = true) : Ex sc d 274 1423 [l0, l1, l2, l3, l4, l5, l6] (vI a :: st) hs Q ↔ Ex sc d 274 1425 [l0, l1, l2, l3, l4, l5, some (vI a)] st hs Q := e_istore ((cd274 1423).trans rfl) (by show 6 < 7; decide) (noL_of (j := 5) rfl hn) rfl
set_option maxRecDepth 20000 in
theorem x274_1425 {sc : Scr} {d : Nat} {l0 l1 l3 l4 l5 l6 : Option V} {st : List V} {hs : HS} {Q : Rs → HS → Prop} {a : Nat} : Ex sc d 274 1425 [l0, l1, some (vR a), l3, l4, l5, l6] st hs Q ↔ Ex sc d 274 1426 [l0, l1, some (vR a), l3, l4, l5, l6] (vR a :: st) hs Q := e_aload ((cd274 1425).trans rfl) rfl
set_option maxRecDepth 20000 in
theorem x274_1426 {sc : Scr} {d : Nat} {l0 l1 l2 l3 l4 l5 l6 : Option V} {st : List V} {hs : HS} {Q : Rs → HS → Prop} {q : Nat} (hd : 0 < d) (hc : catS st ≤ 8) (ho : isObj hs 12 (vR q) = true) : Ex sc d 274 1426 [l0, l1, l2, l3, l4, l5, l6] (vR q :: st) hs Q ↔ Ex sc (d - 1) 177 0 [some (vR q)] [] hs (Kc sc d 274 1426 1429 [l0, l1, l2, l3, l4, l5, l6] st Q) := e_callV ((cd274 1426).trans rfl) ho (by simp only [List.length_cons]; omega) (by decide) rfl rfl rfl hc rfl hd
set_option maxRecDepth 20000 in
theorem x274_1429 {sc : Scr} {d : Nat} {l0 l1 l2 l3 l4 l6 : Option V} {st : List V} {hs : HS} {Q : Rs → HS → Prop} {a : Int} : Ex sc d 274 1429 [l0, l1, l2, l3, l4, some (vI a), l6] st hs Q ↔ Ex sc d 274 1431 [l0, l1, l2, l3, l4, some (vI a), l6] (vI a :: st) hs Q := e_iload ((cd274 1429).trans rfl) rfl
set_option maxRecDepth 20000 in
theorem x274_1431 {sc : Scr} {d : Nat} {l0 l1 l2 l3 l4 l5 l6 : Option V} {st : List V} {hs : HS} {Q : Rs → HS → Prop} {a b : Int} (ha : inR a) (hb : inR b) : Ex sc d 274 1431 [l0, l1, l2, l3, l4, l5, l6] (vI b :: vI a :: st) hs Q ↔ if a = b then Ex sc d 274 1436 [l0, l1, l2, l3, l4, l5, l6] st hs Q else Ex sc d 274 1434 [l0, l1, l2, l3, l4, l5, l6] st hs Q := (e_icmp ((cd274 1431).trans rfl) ha hb).trans (by simp only [cmpI, decide_eq_true_eq])
set_option maxRecDepth 20000 in
theorem x274_1434 {sc : Scr} {d : Nat} {l0 l1 l2 l3 l4 l5 l6 : Option V} {st : List V} {hs : HS} {Q : Rs → HS → Prop} : Ex sc d 274 1434 [l0, l1, l2, l3, l4, l5, l6] st hs Q ↔ Ex sc d 274 1435 [l0, l1, l2, l3, l4, l5, l6] (vI (0) :: st) hs Q := e_iconst ((cd274 1434).trans rfl)
set_option maxRecDepth 20000 in
theorem x274_1435 {sc : Scr} {d : Nat} {l0 l1 l2 l3 l4 l5 l6 : Option V} {hs : HS} {Q : Rs → HS → Prop} {a : Int} (ha : a = 0 ∨ a = 1) : Ex sc d 274 1435 [l0, l1, l2, l3, l4, l5, l6] [vI a] hs Q ↔ Q (.inl (some (vI a))) hs := e_zret ((cd274 1435).trans rfl) rfl ha
set_option maxRecDepth 20000 in
theorem x274_1436 {sc : Scr} {d : Nat} {l0 l1 l2 l3 l4 l6 : Option V} {st : List V} {hs : HS} {Q : Rs → HS → Prop} {a : Int} : Ex sc d 274 1436 [l0, l1, l2, l3, l4, some (vI a), l6] st hs Q ↔ Ex sc d 274 1438 [l0, l1, l2, l3, l4, some (vI a), l6] (vI a :: st) hs Q := e_iload ((cd274 1436).trans rfl) rfl
set_option maxRecDepth 20000 in
theorem x274_1438 {sc : Scr} {d : Nat} {l0 l1 l2 l3 l4 l5 l6 : Option V} {st : List V} {hs : HS} {Q : Rs → HS → Prop} {a : Int} (ha : inR a) : Ex sc d 274 1438 [l0, l1, l2, l3, l4, l5, l6] (vI a :: st) hs Q ↔ if ¬ a = 0 then Ex sc d 274 1453 [l0, l1, l2, l3, l4, l5, l6] st hs Q else Ex sc d 274 1441 [l0, l1, l2, l3, l4, l5, l6] st hs Q := (e_if ((cd274 1438).trans rfl) ha).trans (by simp only [cmpI, decide_eq_true_eq])
set_option maxRecDepth 20000 in
theorem x274_1441 {sc : Scr} {d : Nat} {l0 l1 l2 l4 l5 l6 : Option V} {st : List V} {hs : HS} {Q : Rs → HS → Prop} {a : Nat} : Ex sc d 274 1441 [l0, l1, l2, some (vR a), l4, l5, l6] st hs Q ↔ Ex sc d 274 1442 [l0, l1, l2, some (vR a), l4, l5, l6] (vR a :: st) hs Q := e_aload ((cd274 1441).trans rfl) rfl
set_option maxRecDepth 20000 in
theorem x274_1442 {sc : Scr} {d : Nat} {l0 l1 l2 l3 l4 l5 l6 : Option V} {st : List V} {hs : HS} {Q : Rs → HS → Prop} : Ex sc d 274 1442 [l0, l1, l2, l3, l4, l5, l6] st hs Q ↔ Ex sc d 274 1443 [l0, l1, l2, l3, l4, l5, l6] (vI (0) :: st) hs Q := e_iconst ((cd274 1442).trans rfl)
set_option maxRecDepth 20000 in
theorem x274_1443 {sc : Scr} {d : Nat} {l0 l1 l2 l3 l4 l5 l6 : Option V} {st : List V} {hs : HS} {Q : Rs → HS → Prop} {a : Nat} {i : Int} : Ex sc d 274 1443 [l0, l1, l2, l3, l4, l5, l6] (vI i :: vR a :: st) hs Q ↔ Ra hs 2 a i (fun z => Ex sc d 274 1444 [l0, l1, l2, l3, l4, l5, l6] (vL z :: st) hs Q) := e_lald ((cd274 1443).trans rfl)
set_option maxRecDepth 20000 in
theorem x274_1444 {sc : Scr} {d : Nat} {l0 l1 l2 l3 l4 l5 : Option V} {st : List V} {hs : HS} {Q : Rs → HS → Prop} {a : Int} : Ex sc d 274 1444 [l0, l1, l2, l3, l4, l5, some (vI a)] st hs Q ↔ Ex sc d 274 1446 [l0, l1, l2, l3, l4, l5, some (vI a)] (vI a :: st) hs Q := e_iload ((cd274 1444).trans rfl) rfl
set_option maxRecDepth 20000 in
theorem x274_1446 {sc : Scr} {d : Nat} {l0 l1 l2 l3 l4 l5 l6 : Option V} {st : List V} {hs : HS} {Q : Rs → HS → Prop} {a : Int} (ha : inR a) : Ex sc d 274 1446 [l0, l1, l2, l3, l4, l5, l6] (vI a :: st) hs Q ↔ Ex sc d 274 1447 [l0, l1, l2, l3, l4, l5, l6] (vL a :: st) hs Q := e_i2l ((cd274 1446).trans rfl) ha
set_option maxRecDepth 20000 in
theorem x274_1447 {sc : Scr} {d : Nat} {l0 l1 l2 l3 l4 l5 l6 : Option V} {st : List V} {hs : HS} {Q : Rs → HS → Prop} {a b : Int} (ha : inL a) (hb : inL b) : Ex sc d 274 1447 [l0, l1, l2, l3, l4, l5, l6] (vL b :: vL a :: st) hs Q ↔ Ex sc d 274 1448 [l0, l1, l2, l3, l4, l5, l6] (vI (if a < b then -1 else if a = b then 0 else 1) :: st) hs Q := e_lcmp ((cd274 1447).trans rfl) ha hb
set_option maxRecDepth 20000 in
theorem x274_1448 {sc : Scr} {d : Nat} {l0 l1 l2 l3 l4 l5 l6 : Option V} {st : List V} {hs : HS} {Q : Rs → HS → Prop} {a : Int} (ha : inR a) : Ex sc d 274 1448 [l0, l1, l2, l3, l4, l5, l6] (vI a :: st) hs Q ↔ if a = 0 then Ex sc d 274 1453 [l0, l1, l2, l3, l4, l5, l6] st hs Q else Ex sc d 274 1451 [l0, l1, l2, l3, l4, l5, l6] st hs Q := (e_if ((cd274 1448).trans rfl) ha).trans (by simp only [cmpI, decide_eq_true_eq])
set_option maxRecDepth 20000 in
theorem x274_1451 {sc : Scr} {d : Nat} {l0 l1 l2 l3 l4 l5 l6 : Option V} {st : List V} {hs : HS} {Q : Rs → HS → Prop} : Ex sc d 274 1451 [l0, l1, l2, l3, l4, l5, l6] st hs Q ↔ Ex sc d 274 1452 [l0, l1, l2, l3, l4, l5, l6] (vI (0) :: st) hs Q := e_iconst ((cd274 1451).trans rfl)
set_option maxRecDepth 20000 in
theorem x274_1452 {sc : Scr} {d : Nat} {l0 l1 l2 l3 l4 l5 l6 : Option V} {hs : HS} {Q : Rs → HS → Prop} {a : Int} (ha : a = 0 ∨ a = 1) : Ex sc d 274 1452 [l0, l1, l2, l3, l4, l5, l6] [vI a] hs Q ↔ Q (.inl (some (vI a))) hs := e_zret ((cd274 1452).trans rfl) rfl ha
set_option maxRecDepth 20000 in
theorem x274_1453 {sc : Scr} {d : Nat} {l0 l1 l2 l3 l4 l5 l6 : Option V} {st : List V} {hs : HS} {Q : Rs → HS → Prop} : Ex sc d 274 1453 [l0, l1, l2, l3, l4, l5, l6] st hs Q ↔ Ex sc d 274 1660 [l0, l1, l2, l3, l4, l5, l6] st hs Q := e_goto ((cd274 1453).trans rfl)
set_option maxRecDepth 20000 in
theorem x274_1456 {sc : Scr} {d : Nat} {l0 l2 l3 l4 l5 l6 : Option V} {st : List V} {hs : HS} {Q : Rs → HS → Prop} {a : Nat} : Ex sc d 274 1456 [l0, some (vR a), l2, l3, l4, l5, l6] st hs Q ↔ Ex sc d 274 1457 [l0, some (vR a), l2, l3, l4, l5, l6] (vR a :: st) hs Q := e_aload ((cd274 1456).trans rfl) rfl
set_option maxRecDepth 20000 in
theorem x274_1457 {sc : Scr} {d : Nat} {l1 l2 l3 l4 l5 l6 : Option V} {st : List V} {hs : HS} {Q : Rs → HS → Prop} {a : Nat} : Ex sc d 274 1457 [some (vS a), l1, l2, l3, l4, l5, l6] st hs Q ↔ Ex sc d 274 1458 [some (vS a), l1, l2, l3, l4, l5, l6] (vS a :: st) hs Q := e_aloadS ((cd274 1457).trans rfl) rfl
set_option maxRecDepth 20000 in
theorem x274_1458 {sc : Scr} {d : Nat} {l0 l1 l2 l3 l5 l6 : Option V} {st : List V} {hs : HS} {Q : Rs → HS → Prop} {a : Int} : Ex sc d 274 1458 [l0, l1, l2, l3, some (vI a), l5, l6] st hs Q ↔ Ex sc d 274 1460 [l0, l1, l2, l3, some (vI a), l5, l6] (vI a :: st) hs Q := e_iload ((cd274 1458).trans rfl) rfl
set_option maxRecDepth 20000 in
theorem x274_1460 {sc : Scr} {d : Nat} {l0 l1 l2 l3 l4 l5 l6 : Option V} {st : List V} {hs : HS} {Q : Rs → HS → Prop} : Ex sc d 274 1460 [l0, l1, l2, l3, l4, l5, l6] st hs Q ↔ Ex sc d 274 1461 [l0, l1, l2, l3, l4, l5, l6] (vI (1) :: st) hs Q := e_iconst ((cd274 1460).trans rfl)
set_option maxRecDepth 20000 in
theorem x274_1461 {sc : Scr} {d : Nat} {l0 l1 l2 l3 l4 l5 l6 : Option V} {st : List V} {hs : HS} {Q : Rs → HS → Prop} {a b : Int} : Ex sc d 274 1461 [l0, l1, l2, l3, l4, l5, l6] (vI b :: vI a :: st) hs Q ↔ Ex sc d 274 1462 [l0, l1, l2, l3, l4, l5, l6] (vI (a + b) :: st) hs Q := e_iadd ((cd274 1461).trans rfl)
set_option maxRecDepth 20000 in
theorem x274_1462 {sc : Scr} {d : Nat} {l0 l1 l2 l3 l4 l5 l6 : Option V} {st : List V} {hs : HS} {Q : Rs → HS → Prop} {i : Int} (hq : 0 ≤ i ∧ i < (sc.1 : Int) ∧ sc.1 < 2147483648) : Ex sc d 274 1462 [l0, l1, l2, l3, l4, l5, l6] (vI i :: vS 9 :: st) hs Q ↔ Ex sc d 274 1463 [l0, l1, l2, l3, l4, l5, l6] (vI (sc.2 i.toNat) :: st) hs Q := e_ialdS ((cd274 1462).trans rfl) hq
set_option maxRecDepth 20000 in
theorem x274_1463 {sc : Scr} {d : Nat} {l0 l1 l2 l4 l5 l6 : Option V} {st : List V} {hs : HS} {Q : Rs → HS → Prop} {a : Nat} : Ex sc d 274 1463 [l0, l1, l2, some (vR a), l4, l5, l6] st hs Q ↔ Ex sc d 274 1464 [l0, l1, l2, some (vR a), l4, l5, l6] (vR a :: st) hs Q := e_aload ((cd274 1463).trans rfl) rfl
set_option maxRecDepth 20000 in
theorem x274_1464 {sc : Scr} {d : Nat} {l0 l1 l2 l3 l4 l5 l6 : Option V} {st : List V} {hs : HS} {Q : Rs → HS → Prop} {a0 : Nat} {a1 : Int} {a2 : Nat} (hd : 0 < d) (hc : catS st ≤ 8) : Ex sc d 274 1464 [l0, l1, l2, l3, l4, l5, l6] (vR a2 :: vI a1 :: vR a0 :: st) hs Q ↔ Ex sc (d - 1) 162 0 [some (vR a0), some (vI a1), some (vR a2), none] [] hs (Kc sc d 274 1464 1467 [l0, l1, l2, l3, l4, l5, l6] st Q) := e_callS ((cd274 1464).trans rfl) (by simp only [List.length_cons]; omega) (by decide) rfl rfl rfl hc rfl hd
set_option maxRecDepth 20000 in
theorem x274_1467 {sc : Scr} {d : Nat} {l0 l1 l2 l3 l4 l5 l6 : Option V} {st : List V} {hs : HS} {Q : Rs → HS → Prop} {a : Int} (hn : notL l4 = true) : Ex sc d 274 1467 [l0, l1, l2, l3, l4, l5, l6] (vI a :: st) hs Q ↔ Ex sc d 274 1469 [l0, l1, l2, l3, l4, some (vI a), l6] st hs Q := e_istore ((cd274 1467).trans rfl) (by show 5 < 7; decide) (noL_of (j := 4) rfl hn) rfl
set_option maxRecDepth 20000 in
theorem x274_1469 {sc : Scr} {d : Nat} {l0 l1 l3 l4 l5 l6 : Option V} {st : List V} {hs : HS} {Q : Rs → HS → Prop} {a : Nat} : Ex sc d 274 1469 [l0, l1, some (vR a), l3, l4, l5, l6] st hs Q ↔ Ex sc d 274 1470 [l0, l1, some (vR a), l3, l4, l5, l6] (vR a :: st) hs Q := e_aload ((cd274 1469).trans rfl) rfl
set_option maxRecDepth 20000 in
theorem x274_1470 {sc : Scr} {d : Nat} {l1 l2 l3 l4 l5 l6 : Option V} {st : List V} {hs : HS} {Q : Rs → HS → Prop} {a : Nat} : Ex sc d 274 1470 [some (vS a), l1, l2, l3, l4, l5, l6] st hs Q ↔ Ex sc d 274 1471 [some (vS a), l1, l2, l3, l4, l5, l6] (vS a :: st) hs Q := e_aloadS ((cd274 1470).trans rfl) rfl
set_option maxRecDepth 20000 in
theorem x274_1471 {sc : Scr} {d : Nat} {l0 l1 l2 l3 l5 l6 : Option V} {st : List V} {hs : HS} {Q : Rs → HS → Prop} {a : Int} : Ex sc d 274 1471 [l0, l1, l2, l3, some (vI a), l5, l6] st hs Q ↔ Ex sc d 274 1473 [l0, l1, l2, l3, some (vI a), l5, l6] (vI a :: st) hs Q := e_iload ((cd274 1471).trans rfl) rfl
set_option maxRecDepth 20000 in
theorem x274_1473 {sc : Scr} {d : Nat} {l0 l1 l2 l3 l4 l5 l6 : Option V} {st : List V} {hs : HS} {Q : Rs → HS → Prop} : Ex sc d 274 1473 [l0, l1, l2, l3, l4, l5, l6] st hs Q ↔ Ex sc d 274 1474 [l0, l1, l2, l3, l4, l5, l6] (vI (1) :: st) hs Q := e_iconst ((cd274 1473).trans rfl)
set_option maxRecDepth 20000 in
theorem x274_1474 {sc : Scr} {d : Nat} {l0 l1 l2 l3 l4 l5 l6 : Option V} {st : List V} {hs : HS} {Q : Rs → HS → Prop} {a b : Int} : Ex sc d 274 1474 [l0, l1, l2, l3, l4, l5, l6] (vI b :: vI a :: st) hs Q ↔ Ex sc d 274 1475 [l0, l1, l2, l3, l4, l5, l6] (vI (a + b) :: st) hs Q := e_iadd ((cd274 1474).trans rfl)
set_option maxRecDepth 20000 in
theorem x274_1475 {sc : Scr} {d : Nat} {l0 l1 l2 l3 l4 l5 l6 : Option V} {st : List V} {hs : HS} {Q : Rs → HS → Prop} {i : Int} (hq : 0 ≤ i ∧ i < (sc.1 : Int) ∧ sc.1 < 2147483648) : Ex sc d 274 1475 [l0, l1, l2, l3, l4, l5, l6] (vI i :: vS 9 :: st) hs Q ↔ Ex sc d 274 1476 [l0, l1, l2, l3, l4, l5, l6] (vI (sc.2 i.toNat) :: st) hs Q := e_ialdS ((cd274 1475).trans rfl) hq
set_option maxRecDepth 20000 in
theorem x274_1476 {sc : Scr} {d : Nat} {l0 l1 l2 l3 l4 l5 l6 : Option V} {st : List V} {hs : HS} {Q : Rs → HS → Prop} {a0 : Int} {q : Nat} (hd : 0 < d) (hc : catS st ≤ 8) (ho : isObj hs 12 (vR q) = true) : Ex sc d 274 1476 [l0, l1, l2, l3, l4, l5, l6] (vI a0 :: vR q :: st) hs Q ↔ Ex sc (d - 1) 267 0 [some (vR q), some (vI a0)] [] hs (Kc sc d 274 1476 1479 [l0, l1, l2, l3, l4, l5, l6] st Q) := e_callV ((cd274 1476).trans rfl) ho (by simp only [List.length_cons]; omega) (by decide) rfl rfl rfl hc rfl hd
set_option maxRecDepth 20000 in
theorem x274_1479 {sc : Scr} {d : Nat} {l0 l1 l2 l3 l4 l5 l6 : Option V} {st : List V} {hs : HS} {Q : Rs → HS → Prop} {a : Int} (hn : notL l5 = true) : Ex sc d 274 1479 [l0, l1, l2, l3, l4, l5, l6] (vI a :: st) hs Q ↔ Ex sc d 274 1481 [l0, l1, l2, l3, l4, l5, some (vI a)] st hs Q := e_istore ((cd274 1479).trans rfl) (by show 6 < 7; decide) (noL_of (j := 5) rfl hn) rfl
set_option maxRecDepth 20000 in
theorem x274_1481 {sc : Scr} {d : Nat} {l0 l1 l3 l4 l5 l6 : Option V} {st : List V} {hs : HS} {Q : Rs → HS → Prop} {a : Nat} : Ex sc d 274 1481 [l0, l1, some (vR a), l3, l4, l5, l6] st hs Q ↔ Ex sc d 274 1482 [l0, l1, some (vR a), l3, l4, l5, l6] (vR a :: st) hs Q := e_aload ((cd274 1481).trans rfl) rfl
set_option maxRecDepth 20000 in
theorem x274_1482 {sc : Scr} {d : Nat} {l0 l1 l2 l3 l4 l5 l6 : Option V} {st : List V} {hs : HS} {Q : Rs → HS → Prop} {q : Nat} (hd : 0 < d) (hc : catS st ≤ 8) (ho : isObj hs 12 (vR q) = true) : Ex sc d 274 1482 [l0, l1, l2, l3, l4, l5, l6] (vR q :: st) hs Q ↔ Ex sc (d - 1) 177 0 [some (vR q)] [] hs (Kc sc d 274 1482 1485 [l0, l1, l2, l3, l4, l5, l6] st Q) := e_callV ((cd274 1482).trans rfl) ho (by simp only [List.length_cons]; omega) (by decide) rfl rfl rfl hc rfl hd
set_option maxRecDepth 20000 in
theorem x274_1485 {sc : Scr} {d : Nat} {l0 l1 l2 l3 l4 l6 : Option V} {st : List V} {hs : HS} {Q : Rs → HS → Prop} {a : Int} : Ex sc d 274 1485 [l0, l1, l2, l3, l4, some (vI a), l6] st hs Q ↔ Ex sc d 274 1487 [l0, l1, l2, l3, l4, some (vI a), l6] (vI a :: st) hs Q := e_iload ((cd274 1485).trans rfl) rfl
set_option maxRecDepth 20000 in
theorem x274_1487 {sc : Scr} {d : Nat} {l0 l1 l2 l3 l4 l5 l6 : Option V} {st : List V} {hs : HS} {Q : Rs → HS → Prop} {a b : Int} (ha : inR a) (hb : inR b) : Ex sc d 274 1487 [l0, l1, l2, l3, l4, l5, l6] (vI b :: vI a :: st) hs Q ↔ if a = b then Ex sc d 274 1492 [l0, l1, l2, l3, l4, l5, l6] st hs Q else Ex sc d 274 1490 [l0, l1, l2, l3, l4, l5, l6] st hs Q := (e_icmp ((cd274 1487).trans rfl) ha hb).trans (by simp only [cmpI, decide_eq_true_eq])
set_option maxRecDepth 20000 in
theorem x274_1490 {sc : Scr} {d : Nat} {l0 l1 l2 l3 l4 l5 l6 : Option V} {st : List V} {hs : HS} {Q : Rs → HS → Prop} : Ex sc d 274 1490 [l0, l1, l2, l3, l4, l5, l6] st hs Q ↔ Ex sc d 274 1491 [l0, l1, l2, l3, l4, l5, l6] (vI (0) :: st) hs Q := e_iconst ((cd274 1490).trans rfl)
set_option maxRecDepth 20000 in
theorem x274_1491 {sc : Scr} {d : Nat} {l0 l1 l2 l3 l4 l5 l6 : Option V} {hs : HS} {Q : Rs → HS → Prop} {a : Int} (ha : a = 0 ∨ a = 1) : Ex sc d 274 1491 [l0, l1, l2, l3, l4, l5, l6] [vI a] hs Q ↔ Q (.inl (some (vI a))) hs := e_zret ((cd274 1491).trans rfl) rfl ha
set_option maxRecDepth 20000 in
theorem x274_1492 {sc : Scr} {d : Nat} {l0 l1 l2 l3 l4 l6 : Option V} {st : List V} {hs : HS} {Q : Rs → HS → Prop} {a : Int} : Ex sc d 274 1492 [l0, l1, l2, l3, l4, some (vI a), l6] st hs Q ↔ Ex sc d 274 1494 [l0, l1, l2, l3, l4, some (vI a), l6] (vI a :: st) hs Q := e_iload ((cd274 1492).trans rfl) rfl
set_option maxRecDepth 20000 in
theorem x274_1494 {sc : Scr} {d : Nat} {l0 l1 l2 l3 l4 l5 l6 : Option V} {st : List V} {hs : HS} {Q : Rs → HS → Prop} {a : Int} (ha : inR a) : Ex sc d 274 1494 [l0, l1, l2, l3, l4, l5, l6] (vI a :: st) hs Q ↔ if ¬ a = 0 then Ex sc d 274 1509 [l0, l1, l2, l3, l4, l5, l6] st hs Q else Ex sc d 274 1497 [l0, l1, l2, l3, l4, l5, l6] st hs Q := (e_if ((cd274 1494).trans rfl) ha).trans (by simp only [cmpI, decide_eq_true_eq])
set_option maxRecDepth 20000 in
theorem x274_1497 {sc : Scr} {d : Nat} {l0 l1 l2 l4 l5 l6 : Option V} {st : List V} {hs : HS} {Q : Rs → HS → Prop} {a : Nat} : Ex sc d 274 1497 [l0, l1, l2, some (vR a), l4, l5, l6] st hs Q ↔ Ex sc d 274 1498 [l0, l1, l2, some (vR a), l4, l5, l6] (vR a :: st) hs Q := e_aload ((cd274 1497).trans rfl) rfl
set_option maxRecDepth 20000 in
theorem x274_1498 {sc : Scr} {d : Nat} {l0 l1 l2 l3 l4 l5 l6 : Option V} {st : List V} {hs : HS} {Q : Rs → HS → Prop} : Ex sc d 274 1498 [l0, l1, l2, l3, l4, l5, l6] st hs Q ↔ Ex sc d 274 1499 [l0, l1, l2, l3, l4, l5, l6] (vI (0) :: st) hs Q := e_iconst ((cd274 1498).trans rfl)
set_option maxRecDepth 20000 in
theorem x274_1499 {sc : Scr} {d : Nat} {l0 l1 l2 l3 l4 l5 l6 : Option V} {st : List V} {hs : HS} {Q : Rs → HS → Prop} {a : Nat} {i : Int} : Ex sc d 274 1499 [l0, l1, l2, l3, l4, l5, l6] (vI i :: vR a :: st) hs Q ↔ Ra hs 2 a i (fun z => Ex sc d 274 1500 [l0, l1, l2, l3, l4, l5, l6] (vL z :: st) hs Q) := e_lald ((cd274 1499).trans rfl)
set_option maxRecDepth 20000 in
theorem x274_1500 {sc : Scr} {d : Nat} {l0 l1 l2 l3 l4 l5 : Option V} {st : List V} {hs : HS} {Q : Rs → HS → Prop} {a : Int} : Ex sc d 274 1500 [l0, l1, l2, l3, l4, l5, some (vI a)] st hs Q ↔ Ex sc d 274 1502 [l0, l1, l2, l3, l4, l5, some (vI a)] (vI a :: st) hs Q := e_iload ((cd274 1500).trans rfl) rfl
set_option maxRecDepth 20000 in
theorem x274_1502 {sc : Scr} {d : Nat} {l0 l1 l2 l3 l4 l5 l6 : Option V} {st : List V} {hs : HS} {Q : Rs → HS → Prop} {a : Int} (ha : inR a) : Ex sc d 274 1502 [l0, l1, l2, l3, l4, l5, l6] (vI a :: st) hs Q ↔ Ex sc d 274 1503 [l0, l1, l2, l3, l4, l5, l6] (vL a :: st) hs Q := e_i2l ((cd274 1502).trans rfl) ha
set_option maxRecDepth 20000 in
theorem x274_1503 {sc : Scr} {d : Nat} {l0 l1 l2 l3 l4 l5 l6 : Option V} {st : List V} {hs : HS} {Q : Rs → HS → Prop} {a b : Int} (ha : inL a) (hb : inL b) : Ex sc d 274 1503 [l0, l1, l2, l3, l4, l5, l6] (vL b :: vL a :: st) hs Q ↔ Ex sc d 274 1504 [l0, l1, l2, l3, l4, l5, l6] (vI (if a < b then -1 else if a = b then 0 else 1) :: st) hs Q := e_lcmp ((cd274 1503).trans rfl) ha hb
set_option maxRecDepth 20000 in
theorem x274_1504 {sc : Scr} {d : Nat} {l0 l1 l2 l3 l4 l5 l6 : Option V} {st : List V} {hs : HS} {Q : Rs → HS → Prop} {a : Int} (ha : inR a) : Ex sc d 274 1504 [l0, l1, l2, l3, l4, l5, l6] (vI a :: st) hs Q ↔ if a = 0 then Ex sc d 274 1509 [l0, l1, l2, l3, l4, l5, l6] st hs Q else Ex sc d 274 1507 [l0, l1, l2, l3, l4, l5, l6] st hs Q := (e_if ((cd274 1504).trans rfl) ha).trans (by simp only [cmpI, decide_eq_true_eq])
set_option maxRecDepth 20000 in
theorem x274_1507 {sc : Scr} {d : Nat} {l0 l1 l2 l3 l4 l5 l6 : Option V} {st : List V} {hs : HS} {Q : Rs → HS → Prop} : Ex sc d 274 1507 [l0, l1, l2, l3, l4, l5, l6] st hs Q ↔ Ex sc d 274 1508 [l0, l1, l2, l3, l4, l5, l6] (vI (0) :: st) hs Q := e_iconst ((cd274 1507).trans rfl)
set_option maxRecDepth 20000 in
theorem x274_1508 {sc : Scr} {d : Nat} {l0 l1 l2 l3 l4 l5 l6 : Option V} {hs : HS} {Q : Rs → HS → Prop} {a : Int} (ha : a = 0 ∨ a = 1) : Ex sc d 274 1508 [l0, l1, l2, l3, l4, l5, l6] [vI a] hs Q ↔ Q (.inl (some (vI a))) hs := e_zret ((cd274 1508).trans rfl) rfl ha
set_option maxRecDepth 20000 in
theorem x274_1509 {sc : Scr} {d : Nat} {l0 l1 l2 l3 l4 l5 l6 : Option V} {st : List V} {hs : HS} {Q : Rs → HS → Prop} : Ex sc d 274 1509 [l0, l1, l2, l3, l4, l5, l6] st hs Q ↔ Ex sc d 274 1660 [l0, l1, l2, l3, l4, l5, l6] st hs Q := e_goto ((cd274 1509).trans rfl)
set_option maxRecDepth 20000 in
theorem x274_1512 {sc : Scr} {d : Nat} {l0 l2 l3 l4 l5 l6 : Option V} {st : List V} {hs : HS} {Q : Rs → HS → Prop} {a : Nat} : Ex sc d 274 1512 [l0, some (vR a), l2, l3, l4, l5, l6] st hs Q ↔ Ex sc d 274 1513 [l0, some (vR a), l2, l3, l4, l5, l6] (vR a :: st) hs Q := e_aload ((cd274 1512).trans rfl) rfl
set_option maxRecDepth 20000 in
theorem x274_1513 {sc : Scr} {d : Nat} {l1 l2 l3 l4 l5 l6 : Option V} {st : List V} {hs : HS} {Q : Rs → HS → Prop} {a : Nat} : Ex sc d 274 1513 [some (vS a), l1, l2, l3, l4, l5, l6] st hs Q ↔ Ex sc d 274 1514 [some (vS a), l1, l2, l3, l4, l5, l6] (vS a :: st) hs Q := e_aloadS ((cd274 1513).trans rfl) rfl
set_option maxRecDepth 20000 in
theorem x274_1514 {sc : Scr} {d : Nat} {l0 l1 l2 l3 l5 l6 : Option V} {st : List V} {hs : HS} {Q : Rs → HS → Prop} {a : Int} : Ex sc d 274 1514 [l0, l1, l2, l3, some (vI a), l5, l6] st hs Q ↔ Ex sc d 274 1516 [l0, l1, l2, l3, some (vI a), l5, l6] (vI a :: st) hs Q := e_iload ((cd274 1514).trans rfl) rfl
set_option maxRecDepth 20000 in
theorem x274_1516 {sc : Scr} {d : Nat} {l0 l1 l2 l3 l4 l5 l6 : Option V} {st : List V} {hs : HS} {Q : Rs → HS → Prop} : Ex sc d 274 1516 [l0, l1, l2, l3, l4, l5, l6] st hs Q ↔ Ex sc d 274 1517 [l0, l1, l2, l3, l4, l5, l6] (vI (1) :: st) hs Q := e_iconst ((cd274 1516).trans rfl)
set_option maxRecDepth 20000 in
theorem x274_1517 {sc : Scr} {d : Nat} {l0 l1 l2 l3 l4 l5 l6 : Option V} {st : List V} {hs : HS} {Q : Rs → HS → Prop} {a b : Int} : Ex sc d 274 1517 [l0, l1, l2, l3, l4, l5, l6] (vI b :: vI a :: st) hs Q ↔ Ex sc d 274 1518 [l0, l1, l2, l3, l4, l5, l6] (vI (a + b) :: st) hs Q := e_iadd ((cd274 1517).trans rfl)
set_option maxRecDepth 20000 in
theorem x274_1518 {sc : Scr} {d : Nat} {l0 l1 l2 l3 l4 l5 l6 : Option V} {st : List V} {hs : HS} {Q : Rs → HS → Prop} {i : Int} (hq : 0 ≤ i ∧ i < (sc.1 : Int) ∧ sc.1 < 2147483648) : Ex sc d 274 1518 [l0, l1, l2, l3, l4, l5, l6] (vI i :: vS 9 :: st) hs Q ↔ Ex sc d 274 1519 [l0, l1, l2, l3, l4, l5, l6] (vI (sc.2 i.toNat) :: st) hs Q := e_ialdS ((cd274 1518).trans rfl) hq
set_option maxRecDepth 20000 in
theorem x274_1519 {sc : Scr} {d : Nat} {l1 l2 l3 l4 l5 l6 : Option V} {st : List V} {hs : HS} {Q : Rs → HS → Prop} {a : Nat} : Ex sc d 274 1519 [some (vS a), l1, l2, l3, l4, l5, l6] st hs Q ↔ Ex sc d 274 1520 [some (vS a), l1, l2, l3, l4, l5, l6] (vS a :: st) hs Q := e_aloadS ((cd274 1519).trans rfl) rfl
set_option maxRecDepth 20000 in
theorem x274_1520 {sc : Scr} {d : Nat} {l0 l1 l2 l3 l5 l6 : Option V} {st : List V} {hs : HS} {Q : Rs → HS → Prop} {a : Int} : Ex sc d 274 1520 [l0, l1, l2, l3, some (vI a), l5, l6] st hs Q ↔ Ex sc d 274 1522 [l0, l1, l2, l3, some (vI a), l5, l6] (vI a :: st) hs Q := e_iload ((cd274 1520).trans rfl) rfl
set_option maxRecDepth 20000 in
theorem x274_1522 {sc : Scr} {d : Nat} {l0 l1 l2 l3 l4 l5 l6 : Option V} {st : List V} {hs : HS} {Q : Rs → HS → Prop} : Ex sc d 274 1522 [l0, l1, l2, l3, l4, l5, l6] st hs Q ↔ Ex sc d 274 1523 [l0, l1, l2, l3, l4, l5, l6] (vI (2) :: st) hs Q := e_iconst ((cd274 1522).trans rfl)
set_option maxRecDepth 20000 in
theorem x274_1523 {sc : Scr} {d : Nat} {l0 l1 l2 l3 l4 l5 l6 : Option V} {st : List V} {hs : HS} {Q : Rs → HS → Prop} {a b : Int} : Ex sc d 274 1523 [l0, l1, l2, l3, l4, l5, l6] (vI b :: vI a :: st) hs Q ↔ Ex sc d 274 1524 [l0, l1, l2, l3, l4, l5, l6] (vI (a + b) :: st) hs Q := e_iadd ((cd274 1523).trans rfl)
set_option maxRecDepth 20000 in
theorem x274_1524 {sc : Scr} {d : Nat} {l0 l1 l2 l3 l4 l5 l6 : Option V} {st : List V} {hs : HS} {Q : Rs → HS → Prop} {i : Int} (hq : 0 ≤ i ∧ i < (sc.1 : Int) ∧ sc.1 < 2147483648) : Ex sc d 274 1524 [l0, l1, l2, l3, l4, l5, l6] (vI i :: vS 9 :: st) hs Q ↔ Ex sc d 274 1525 [l0, l1, l2, l3, l4, l5, l6] (vI (sc.2 i.toNat) :: st) hs Q := e_ialdS ((cd274 1524).trans rfl) hq
set_option maxRecDepth 20000 in
theorem x274_1525 {sc : Scr} {d : Nat} {l1 l2 l3 l4 l5 l6 : Option V} {st : List V} {hs : HS} {Q : Rs → HS → Prop} {a : Nat} : Ex sc d 274 1525 [some (vS a), l1, l2, l3, l4, l5, l6] st hs Q ↔ Ex sc d 274 1526 [some (vS a), l1, l2, l3, l4, l5, l6] (vS a :: st) hs Q := e_aloadS ((cd274 1525).trans rfl) rfl
set_option maxRecDepth 20000 in
theorem x274_1526 {sc : Scr} {d : Nat} {l0 l1 l2 l3 l5 l6 : Option V} {st : List V} {hs : HS} {Q : Rs → HS → Prop} {a : Int} : Ex sc d 274 1526 [l0, l1, l2, l3, some (vI a), l5, l6] st hs Q ↔ Ex sc d 274 1528 [l0, l1, l2, l3, some (vI a), l5, l6] (vI a :: st) hs Q := e_iload ((cd274 1526).trans rfl) rfl
set_option maxRecDepth 20000 in
theorem x274_1528 {sc : Scr} {d : Nat} {l0 l1 l2 l3 l4 l5 l6 : Option V} {st : List V} {hs : HS} {Q : Rs → HS → Prop} : Ex sc d 274 1528 [l0, l1, l2, l3, l4, l5, l6] st hs Q ↔ Ex sc d 274 1529 [l0, l1, l2, l3, l4, l5, l6] (vI (3) :: st) hs Q := e_iconst ((cd274 1528).trans rfl)
set_option maxRecDepth 20000 in
theorem x274_1529 {sc : Scr} {d : Nat} {l0 l1 l2 l3 l4 l5 l6 : Option V} {st : List V} {hs : HS} {Q : Rs → HS → Prop} {a b : Int} : Ex sc d 274 1529 [l0, l1, l2, l3, l4, l5, l6] (vI b :: vI a :: st) hs Q ↔ Ex sc d 274 1530 [l0, l1, l2, l3, l4, l5, l6] (vI (a + b) :: st) hs Q := e_iadd ((cd274 1529).trans rfl)
set_option maxRecDepth 20000 in
theorem x274_1530 {sc : Scr} {d : Nat} {l0 l1 l2 l3 l4 l5 l6 : Option V} {st : List V} {hs : HS} {Q : Rs → HS → Prop} {i : Int} (hq : 0 ≤ i ∧ i < (sc.1 : Int) ∧ sc.1 < 2147483648) : Ex sc d 274 1530 [l0, l1, l2, l3, l4, l5, l6] (vI i :: vS 9 :: st) hs Q ↔ Ex sc d 274 1531 [l0, l1, l2, l3, l4, l5, l6] (vI (sc.2 i.toNat) :: st) hs Q := e_ialdS ((cd274 1530).trans rfl) hq
set_option maxRecDepth 20000 in
theorem x274_1531 {sc : Scr} {d : Nat} {l0 l1 l2 l4 l5 l6 : Option V} {st : List V} {hs : HS} {Q : Rs → HS → Prop} {a : Nat} : Ex sc d 274 1531 [l0, l1, l2, some (vR a), l4, l5, l6] st hs Q ↔ Ex sc d 274 1532 [l0, l1, l2, some (vR a), l4, l5, l6] (vR a :: st) hs Q := e_aload ((cd274 1531).trans rfl) rfl
set_option maxRecDepth 20000 in
theorem x274_1532 {sc : Scr} {d : Nat} {l0 l1 l2 l3 l4 l5 l6 : Option V} {st : List V} {hs : HS} {Q : Rs → HS → Prop} {a0 : Nat} {a1 : Int} {a2 : Int} {a3 : Int} {a4 : Nat} (hd : 0 < d) (hc : catS st ≤ 8) : Ex sc d 274 1532 [l0, l1, l2, l3, l4, l5, l6] (vR a4 :: vI a3 :: vI a2 :: vI a1 :: vR a0 :: st) hs Q ↔ Ex sc (d - 1) 170 0 [some (vR a0), some (vI a1), some (vI a2), some (vI a3), some (vR a4), none] [] hs (Kc sc d 274 1532 1535 [l0, l1, l2, l3, l4, l5, l6] st Q) := e_callS ((cd274 1532).trans rfl) (by simp only [List.length_cons]; omega) (by decide) rfl rfl rfl hc rfl hd
set_option maxRecDepth 20000 in
theorem x274_1535 {sc : Scr} {d : Nat} {l0 l1 l2 l3 l4 l5 l6 : Option V} {st : List V} {hs : HS} {Q : Rs → HS → Prop} {a : Int} (hn : notL l4 = true) : Ex sc d 274 1535 [l0, l1, l2, l3, l4, l5, l6] (vI a :: st) hs Q ↔ Ex sc d 274 1537 [l0, l1, l2, l3, l4, some (vI a), l6] st hs Q := e_istore ((cd274 1535).trans rfl) (by show 5 < 7; decide) (noL_of (j := 4) rfl hn) rfl
set_option maxRecDepth 20000 in
theorem x274_1537 {sc : Scr} {d : Nat} {l0 l1 l3 l4 l5 l6 : Option V} {st : List V} {hs : HS} {Q : Rs → HS → Prop} {a : Nat} : Ex sc d 274 1537 [l0, l1, some (vR a), l3, l4, l5, l6] st hs Q ↔ Ex sc d 274 1538 [l0, l1, some (vR a), l3, l4, l5, l6] (vR a :: st) hs Q := e_aload ((cd274 1537).trans rfl) rfl
set_option maxRecDepth 20000 in
theorem x274_1538 {sc : Scr} {d : Nat} {l1 l2 l3 l4 l5 l6 : Option V} {st : List V} {hs : HS} {Q : Rs → HS → Prop} {a : Nat} : Ex sc d 274 1538 [some (vS a), l1, l2, l3, l4, l5, l6] st hs Q ↔ Ex sc d 274 1539 [some (vS a), l1, l2, l3, l4, l5, l6] (vS a :: st) hs Q := e_aloadS ((cd274 1538).trans rfl) rfl
set_option maxRecDepth 20000 in
theorem x274_1539 {sc : Scr} {d : Nat} {l0 l1 l2 l3 l5 l6 : Option V} {st : List V} {hs : HS} {Q : Rs → HS → Prop} {a : Int} : Ex sc d 274 1539 [l0, l1, l2, l3, some (vI a), l5, l6] st hs Q ↔ Ex sc d 274 1541 [l0, l1, l2, l3, some (vI a), l5, l6] (vI a :: st) hs Q := e_iload ((cd274 1539).trans rfl) rfl
set_option maxRecDepth 20000 in
theorem x274_1541 {sc : Scr} {d : Nat} {l0 l1 l2 l3 l4 l5 l6 : Option V} {st : List V} {hs : HS} {Q : Rs → HS → Prop} : Ex sc d 274 1541 [l0, l1, l2, l3, l4, l5, l6] st hs Q ↔ Ex sc d 274 1542 [l0, l1, l2, l3, l4, l5, l6] (vI (1) :: st) hs Q := e_iconst ((cd274 1541).trans rfl)
set_option maxRecDepth 20000 in
theorem x274_1542 {sc : Scr} {d : Nat} {l0 l1 l2 l3 l4 l5 l6 : Option V} {st : List V} {hs : HS} {Q : Rs → HS → Prop} {a b : Int} : Ex sc d 274 1542 [l0, l1, l2, l3, l4, l5, l6] (vI b :: vI a :: st) hs Q ↔ Ex sc d 274 1543 [l0, l1, l2, l3, l4, l5, l6] (vI (a + b) :: st) hs Q := e_iadd ((cd274 1542).trans rfl)
set_option maxRecDepth 20000 in
theorem x274_1543 {sc : Scr} {d : Nat} {l0 l1 l2 l3 l4 l5 l6 : Option V} {st : List V} {hs : HS} {Q : Rs → HS → Prop} {i : Int} (hq : 0 ≤ i ∧ i < (sc.1 : Int) ∧ sc.1 < 2147483648) : Ex sc d 274 1543 [l0, l1, l2, l3, l4, l5, l6] (vI i :: vS 9 :: st) hs Q ↔ Ex sc d 274 1544 [l0, l1, l2, l3, l4, l5, l6] (vI (sc.2 i.toNat) :: st) hs Q := e_ialdS ((cd274 1543).trans rfl) hq
set_option maxRecDepth 20000 in
theorem x274_1544 {sc : Scr} {d : Nat} {l1 l2 l3 l4 l5 l6 : Option V} {st : List V} {hs : HS} {Q : Rs → HS → Prop} {a : Nat} : Ex sc d 274 1544 [some (vS a), l1, l2, l3, l4, l5, l6] st hs Q ↔ Ex sc d 274 1545 [some (vS a), l1, l2, l3, l4, l5, l6] (vS a :: st) hs Q := e_aloadS ((cd274 1544).trans rfl) rfl
set_option maxRecDepth 20000 in
theorem x274_1545 {sc : Scr} {d : Nat} {l0 l1 l2 l3 l5 l6 : Option V} {st : List V} {hs : HS} {Q : Rs → HS → Prop} {a : Int} : Ex sc d 274 1545 [l0, l1, l2, l3, some (vI a), l5, l6] st hs Q ↔ Ex sc d 274 1547 [l0, l1, l2, l3, some (vI a), l5, l6] (vI a :: st) hs Q := e_iload ((cd274 1545).trans rfl) rfl
set_option maxRecDepth 20000 in
theorem x274_1547 {sc : Scr} {d : Nat} {l0 l1 l2 l3 l4 l5 l6 : Option V} {st : List V} {hs : HS} {Q : Rs → HS → Prop} : Ex sc d 274 1547 [l0, l1, l2, l3, l4, l5, l6] st hs Q ↔ Ex sc d 274 1548 [l0, l1, l2, l3, l4, l5, l6] (vI (2) :: st) hs Q := e_iconst ((cd274 1547).trans rfl)
set_option maxRecDepth 20000 in
theorem x274_1548 {sc : Scr} {d : Nat} {l0 l1 l2 l3 l4 l5 l6 : Option V} {st : List V} {hs : HS} {Q : Rs → HS → Prop} {a b : Int} : Ex sc d 274 1548 [l0, l1, l2, l3, l4, l5, l6] (vI b :: vI a :: st) hs Q ↔ Ex sc d 274 1549 [l0, l1, l2, l3, l4, l5, l6] (vI (a + b) :: st) hs Q := e_iadd ((cd274 1548).trans rfl)
set_option maxRecDepth 20000 in
theorem x274_1549 {sc : Scr} {d : Nat} {l0 l1 l2 l3 l4 l5 l6 : Option V} {st : List V} {hs : HS} {Q : Rs → HS → Prop} {i : Int} (hq : 0 ≤ i ∧ i < (sc.1 : Int) ∧ sc.1 < 2147483648) : Ex sc d 274 1549 [l0, l1, l2, l3, l4, l5, l6] (vI i :: vS 9 :: st) hs Q ↔ Ex sc d 274 1550 [l0, l1, l2, l3, l4, l5, l6] (vI (sc.2 i.toNat) :: st) hs Q := e_ialdS ((cd274 1549).trans rfl) hq
set_option maxRecDepth 20000 in
theorem x274_1550 {sc : Scr} {d : Nat} {l1 l2 l3 l4 l5 l6 : Option V} {st : List V} {hs : HS} {Q : Rs → HS → Prop} {a : Nat} : Ex sc d 274 1550 [some (vS a), l1, l2, l3, l4, l5, l6] st hs Q ↔ Ex sc d 274 1551 [some (vS a), l1, l2, l3, l4, l5, l6] (vS a :: st) hs Q := e_aloadS ((cd274 1550).trans rfl) rfl
set_option maxRecDepth 20000 in
theorem x274_1551 {sc : Scr} {d : Nat} {l0 l1 l2 l3 l5 l6 : Option V} {st : List V} {hs : HS} {Q : Rs → HS → Prop} {a : Int} : Ex sc d 274 1551 [l0, l1, l2, l3, some (vI a), l5, l6] st hs Q ↔ Ex sc d 274 1553 [l0, l1, l2, l3, some (vI a), l5, l6] (vI a :: st) hs Q := e_iload ((cd274 1551).trans rfl) rfl
set_option maxRecDepth 20000 in
theorem x274_1553 {sc : Scr} {d : Nat} {l0 l1 l2 l3 l4 l5 l6 : Option V} {st : List V} {hs : HS} {Q : Rs → HS → Prop} : Ex sc d 274 1553 [l0, l1, l2, l3, l4, l5, l6] st hs Q ↔ Ex sc d 274 1554 [l0, l1, l2, l3, l4, l5, l6] (vI (3) :: st) hs Q := e_iconst ((cd274 1553).trans rfl)
set_option maxRecDepth 20000 in
theorem x274_1554 {sc : Scr} {d : Nat} {l0 l1 l2 l3 l4 l5 l6 : Option V} {st : List V} {hs : HS} {Q : Rs → HS → Prop} {a b : Int} : Ex sc d 274 1554 [l0, l1, l2, l3, l4, l5, l6] (vI b :: vI a :: st) hs Q ↔ Ex sc d 274 1555 [l0, l1, l2, l3, l4, l5, l6] (vI (a + b) :: st) hs Q := e_iadd ((cd274 1554).trans rfl)
set_option maxRecDepth 20000 in
theorem x274_1555 {sc : Scr} {d : Nat} {l0 l1 l2 l3 l4 l5 l6 : Option V} {st : List V} {hs : HS} {Q : Rs → HS → Prop} {i : Int} (hq : 0 ≤ i ∧ i < (sc.1 : Int) ∧ sc.1 < 2147483648) : Ex sc d 274 1555 [l0, l1, l2, l3, l4, l5, l6] (vI i :: vS 9 :: st) hs Q ↔ Ex sc d 274 1556 [l0, l1, l2, l3, l4, l5, l6] (vI (sc.2 i.toNat) :: st) hs Q := e_ialdS ((cd274 1555).trans rfl) hq
set_option maxRecDepth 20000 in
theorem x274_1556 {sc : Scr} {d : Nat} {l0 l1 l2 l3 l4 l5 l6 : Option V} {st : List V} {hs : HS} {Q : Rs → HS → Prop} {a0 : Int} {a1 : Int} {a2 : Int} {q : Nat} (hd : 0 < d) (hc : catS st ≤ 8) (ho : isObj hs 12 (vR q) = true) : Ex sc d 274 1556 [l0, l1, l2, l3, l4, l5, l6] (vI a2 :: vI a1 :: vI a0 :: vR q :: st) hs Q ↔ Ex sc (d - 1) 272 0 [some (vR q), some (vI a0), some (vI a1), some (vI a2), none, none, none, none] [] hs (Kc sc d 274 1556 1559 [l0, l1, l2, l3, l4, l5, l6] st Q) := e_callV ((cd274 1556).trans rfl) ho (by simp only [List.length_cons]; omega) (by decide) rfl rfl rfl hc rfl hd
set_option maxRecDepth 20000 in
theorem x274_1559 {sc : Scr} {d : Nat} {l0 l1 l2 l3 l4 l5 l6 : Option V} {st : List V} {hs : HS} {Q : Rs → HS → Prop} {a : Int} (hn : notL l5 = true) : Ex sc d 274 1559 [l0, l1, l2, l3, l4, l5, l6] (vI a :: st) hs Q ↔ Ex sc d 274 1561 [l0, l1, l2, l3, l4, l5, some (vI a)] st hs Q := e_istore ((cd274 1559).trans rfl) (by show 6 < 7; decide) (noL_of (j := 5) rfl hn) rfl
set_option maxRecDepth 20000 in
theorem x274_1561 {sc : Scr} {d : Nat} {l0 l1 l3 l4 l5 l6 : Option V} {st : List V} {hs : HS} {Q : Rs → HS → Prop} {a : Nat} : Ex sc d 274 1561 [l0, l1, some (vR a), l3, l4, l5, l6] st hs Q ↔ Ex sc d 274 1562 [l0, l1, some (vR a), l3, l4, l5, l6] (vR a :: st) hs Q := e_aload ((cd274 1561).trans rfl) rfl
set_option maxRecDepth 20000 in
theorem x274_1562 {sc : Scr} {d : Nat} {l0 l1 l2 l3 l4 l5 l6 : Option V} {st : List V} {hs : HS} {Q : Rs → HS → Prop} {q : Nat} (hd : 0 < d) (hc : catS st ≤ 8) (ho : isObj hs 12 (vR q) = true) : Ex sc d 274 1562 [l0, l1, l2, l3, l4, l5, l6] (vR q :: st) hs Q ↔ Ex sc (d - 1) 177 0 [some (vR q)] [] hs (Kc sc d 274 1562 1565 [l0, l1, l2, l3, l4, l5, l6] st Q) := e_callV ((cd274 1562).trans rfl) ho (by simp only [List.length_cons]; omega) (by decide) rfl rfl rfl hc rfl hd
set_option maxRecDepth 20000 in
theorem x274_1565 {sc : Scr} {d : Nat} {l0 l1 l2 l3 l4 l6 : Option V} {st : List V} {hs : HS} {Q : Rs → HS → Prop} {a : Int} : Ex sc d 274 1565 [l0, l1, l2, l3, l4, some (vI a), l6] st hs Q ↔ Ex sc d 274 1567 [l0, l1, l2, l3, l4, some (vI a), l6] (vI a :: st) hs Q := e_iload ((cd274 1565).trans rfl) rfl
set_option maxRecDepth 20000 in
theorem x274_1567 {sc : Scr} {d : Nat} {l0 l1 l2 l3 l4 l5 l6 : Option V} {st : List V} {hs : HS} {Q : Rs → HS → Prop} {a b : Int} (ha : inR a) (hb : inR b) : Ex sc d 274 1567 [l0, l1, l2, l3, l4, l5, l6] (vI b :: vI a :: st) hs Q ↔ if a = b then Ex sc d 274 1572 [l0, l1, l2, l3, l4, l5, l6] st hs Q else Ex sc d 274 1570 [l0, l1, l2, l3, l4, l5, l6] st hs Q := (e_icmp ((cd274 1567).trans rfl) ha hb).trans (by simp only [cmpI, decide_eq_true_eq])
set_option maxRecDepth 20000 in
theorem x274_1570 {sc : Scr} {d : Nat} {l0 l1 l2 l3 l4 l5 l6 : Option V} {st : List V} {hs : HS} {Q : Rs → HS → Prop} : Ex sc d 274 1570 [l0, l1, l2, l3, l4, l5, l6] st hs Q ↔ Ex sc d 274 1571 [l0, l1, l2, l3, l4, l5, l6] (vI (0) :: st) hs Q := e_iconst ((cd274 1570).trans rfl)
set_option maxRecDepth 20000 in
theorem x274_1571 {sc : Scr} {d : Nat} {l0 l1 l2 l3 l4 l5 l6 : Option V} {hs : HS} {Q : Rs → HS → Prop} {a : Int} (ha : a = 0 ∨ a = 1) : Ex sc d 274 1571 [l0, l1, l2, l3, l4, l5, l6] [vI a] hs Q ↔ Q (.inl (some (vI a))) hs := e_zret ((cd274 1571).trans rfl) rfl ha
set_option maxRecDepth 20000 in
theorem x274_1572 {sc : Scr} {d : Nat} {l0 l1 l2 l3 l4 l6 : Option V} {st : List V} {hs : HS} {Q : Rs → HS → Prop} {a : Int} : Ex sc d 274 1572 [l0, l1, l2, l3, l4, some (vI a), l6] st hs Q ↔ Ex sc d 274 1574 [l0, l1, l2, l3, l4, some (vI a), l6] (vI a :: st) hs Q := e_iload ((cd274 1572).trans rfl) rfl
set_option maxRecDepth 20000 in
theorem x274_1574 {sc : Scr} {d : Nat} {l0 l1 l2 l3 l4 l5 l6 : Option V} {st : List V} {hs : HS} {Q : Rs → HS → Prop} {a : Int} (ha : inR a) : Ex sc d 274 1574 [l0, l1, l2, l3, l4, l5, l6] (vI a :: st) hs Q ↔ if ¬ a = 0 then Ex sc d 274 1589 [l0, l1, l2, l3, l4, l5, l6] st hs Q else Ex sc d 274 1577 [l0, l1, l2, l3, l4, l5, l6] st hs Q := (e_if ((cd274 1574).trans rfl) ha).trans (by simp only [cmpI, decide_eq_true_eq])
set_option maxRecDepth 20000 in
theorem x274_1577 {sc : Scr} {d : Nat} {l0 l1 l2 l4 l5 l6 : Option V} {st : List V} {hs : HS} {Q : Rs → HS → Prop} {a : Nat} : Ex sc d 274 1577 [l0, l1, l2, some (vR a), l4, l5, l6] st hs Q ↔ Ex sc d 274 1578 [l0, l1, l2, some (vR a), l4, l5, l6] (vR a :: st) hs Q := e_aload ((cd274 1577).trans rfl) rfl
set_option maxRecDepth 20000 in
theorem x274_1578 {sc : Scr} {d : Nat} {l0 l1 l2 l3 l4 l5 l6 : Option V} {st : List V} {hs : HS} {Q : Rs → HS → Prop} : Ex sc d 274 1578 [l0, l1, l2, l3, l4, l5, l6] st hs Q ↔ Ex sc d 274 1579 [l0, l1, l2, l3, l4, l5, l6] (vI (0) :: st) hs Q := e_iconst ((cd274 1578).trans rfl)
set_option maxRecDepth 20000 in
theorem x274_1579 {sc : Scr} {d : Nat} {l0 l1 l2 l3 l4 l5 l6 : Option V} {st : List V} {hs : HS} {Q : Rs → HS → Prop} {a : Nat} {i : Int} : Ex sc d 274 1579 [l0, l1, l2, l3, l4, l5, l6] (vI i :: vR a :: st) hs Q ↔ Ra hs 2 a i (fun z => Ex sc d 274 1580 [l0, l1, l2, l3, l4, l5, l6] (vL z :: st) hs Q) := e_lald ((cd274 1579).trans rfl)
set_option maxRecDepth 20000 in
theorem x274_1580 {sc : Scr} {d : Nat} {l0 l1 l2 l3 l4 l5 : Option V} {st : List V} {hs : HS} {Q : Rs → HS → Prop} {a : Int} : Ex sc d 274 1580 [l0, l1, l2, l3, l4, l5, some (vI a)] st hs Q ↔ Ex sc d 274 1582 [l0, l1, l2, l3, l4, l5, some (vI a)] (vI a :: st) hs Q := e_iload ((cd274 1580).trans rfl) rfl
set_option maxRecDepth 20000 in
theorem x274_1582 {sc : Scr} {d : Nat} {l0 l1 l2 l3 l4 l5 l6 : Option V} {st : List V} {hs : HS} {Q : Rs → HS → Prop} {a : Int} (ha : inR a) : Ex sc d 274 1582 [l0, l1, l2, l3, l4, l5, l6] (vI a :: st) hs Q ↔ Ex sc d 274 1583 [l0, l1, l2, l3, l4, l5, l6] (vL a :: st) hs Q := e_i2l ((cd274 1582).trans rfl) ha
set_option maxRecDepth 20000 in
theorem x274_1583 {sc : Scr} {d : Nat} {l0 l1 l2 l3 l4 l5 l6 : Option V} {st : List V} {hs : HS} {Q : Rs → HS → Prop} {a b : Int} (ha : inL a) (hb : inL b) : Ex sc d 274 1583 [l0, l1, l2, l3, l4, l5, l6] (vL b :: vL a :: st) hs Q ↔ Ex sc d 274 1584 [l0, l1, l2, l3, l4, l5, l6] (vI (if a < b then -1 else if a = b then 0 else 1) :: st) hs Q := e_lcmp ((cd274 1583).trans rfl) ha hb
set_option maxRecDepth 20000 in
theorem x274_1584 {sc : Scr} {d : Nat} {l0 l1 l2 l3 l4 l5 l6 : Option V} {st : List V} {hs : HS} {Q : Rs → HS → Prop} {a : Int} (ha : inR a) : Ex sc d 274 1584 [l0, l1, l2, l3, l4, l5, l6] (vI a :: st) hs Q ↔ if a = 0 then Ex sc d 274 1589 [l0, l1, l2, l3, l4, l5, l6] st hs Q else Ex sc d 274 1587 [l0, l1, l2, l3, l4, l5, l6] st hs Q := (e_if ((cd274 1584).trans rfl) ha).trans (by simp only [cmpI, decide_eq_true_eq])
set_option maxRecDepth 20000 in
theorem x274_1587 {sc : Scr} {d : Nat} {l0 l1 l2 l3 l4 l5 l6 : Option V} {st : List V} {hs : HS} {Q : Rs → HS → Prop} : Ex sc d 274 1587 [l0, l1, l2, l3, l4, l5, l6] st hs Q ↔ Ex sc d 274 1588 [l0, l1, l2, l3, l4, l5, l6] (vI (0) :: st) hs Q := e_iconst ((cd274 1587).trans rfl)
set_option maxRecDepth 20000 in
theorem x274_1588 {sc : Scr} {d : Nat} {l0 l1 l2 l3 l4 l5 l6 : Option V} {hs : HS} {Q : Rs → HS → Prop} {a : Int} (ha : a = 0 ∨ a = 1) : Ex sc d 274 1588 [l0, l1, l2, l3, l4, l5, l6] [vI a] hs Q ↔ Q (.inl (some (vI a))) hs := e_zret ((cd274 1588).trans rfl) rfl ha
set_option maxRecDepth 20000 in
theorem x274_1589 {sc : Scr} {d : Nat} {l0 l1 l2 l3 l4 l5 l6 : Option V} {st : List V} {hs : HS} {Q : Rs → HS → Prop} : Ex sc d 274 1589 [l0, l1, l2, l3, l4, l5, l6] st hs Q ↔ Ex sc d 274 1660 [l0, l1, l2, l3, l4, l5, l6] st hs Q := e_goto ((cd274 1589).trans rfl)
set_option maxRecDepth 20000 in
theorem x274_1592 {sc : Scr} {d : Nat} {l0 l2 l3 l4 l5 l6 : Option V} {st : List V} {hs : HS} {Q : Rs → HS → Prop} {a : Nat} : Ex sc d 274 1592 [l0, some (vR a), l2, l3, l4, l5, l6] st hs Q ↔ Ex sc d 274 1593 [l0, some (vR a), l2, l3, l4, l5, l6] (vR a :: st) hs Q := e_aload ((cd274 1592).trans rfl) rfl
set_option maxRecDepth 20000 in
theorem x274_1593 {sc : Scr} {d : Nat} {l1 l2 l3 l4 l5 l6 : Option V} {st : List V} {hs : HS} {Q : Rs → HS → Prop} {a : Nat} : Ex sc d 274 1593 [some (vS a), l1, l2, l3, l4, l5, l6] st hs Q ↔ Ex sc d 274 1594 [some (vS a), l1, l2, l3, l4, l5, l6] (vS a :: st) hs Q := e_aloadS ((cd274 1593).trans rfl) rfl
set_option maxRecDepth 20000 in
theorem x274_1594 {sc : Scr} {d : Nat} {l0 l1 l2 l3 l5 l6 : Option V} {st : List V} {hs : HS} {Q : Rs → HS → Prop} {a : Int} : Ex sc d 274 1594 [l0, l1, l2, l3, some (vI a), l5, l6] st hs Q ↔ Ex sc d 274 1596 [l0, l1, l2, l3, some (vI a), l5, l6] (vI a :: st) hs Q := e_iload ((cd274 1594).trans rfl) rfl
set_option maxRecDepth 20000 in
theorem x274_1596 {sc : Scr} {d : Nat} {l0 l1 l2 l3 l4 l5 l6 : Option V} {st : List V} {hs : HS} {Q : Rs → HS → Prop} : Ex sc d 274 1596 [l0, l1, l2, l3, l4, l5, l6] st hs Q ↔ Ex sc d 274 1597 [l0, l1, l2, l3, l4, l5, l6] (vI (1) :: st) hs Q := e_iconst ((cd274 1596).trans rfl)
set_option maxRecDepth 20000 in
theorem x274_1597 {sc : Scr} {d : Nat} {l0 l1 l2 l3 l4 l5 l6 : Option V} {st : List V} {hs : HS} {Q : Rs → HS → Prop} {a b : Int} : Ex sc d 274 1597 [l0, l1, l2, l3, l4, l5, l6] (vI b :: vI a :: st) hs Q ↔ Ex sc d 274 1598 [l0, l1, l2, l3, l4, l5, l6] (vI (a + b) :: st) hs Q := e_iadd ((cd274 1597).trans rfl)
set_option maxRecDepth 20000 in
theorem x274_1598 {sc : Scr} {d : Nat} {l0 l1 l2 l3 l4 l5 l6 : Option V} {st : List V} {hs : HS} {Q : Rs → HS → Prop} {i : Int} (hq : 0 ≤ i ∧ i < (sc.1 : Int) ∧ sc.1 < 2147483648) : Ex sc d 274 1598 [l0, l1, l2, l3, l4, l5, l6] (vI i :: vS 9 :: st) hs Q ↔ Ex sc d 274 1599 [l0, l1, l2, l3, l4, l5, l6] (vI (sc.2 i.toNat) :: st) hs Q := e_ialdS ((cd274 1598).trans rfl) hq
set_option maxRecDepth 20000 in
theorem x274_1599 {sc : Scr} {d : Nat} {l1 l2 l3 l4 l5 l6 : Option V} {st : List V} {hs : HS} {Q : Rs → HS → Prop} {a : Nat} : Ex sc d 274 1599 [some (vS a), l1, l2, l3, l4, l5, l6] st hs Q ↔ Ex sc d 274 1600 [some (vS a), l1, l2, l3, l4, l5, l6] (vS a :: st) hs Q := e_aloadS ((cd274 1599).trans rfl) rfl
set_option maxRecDepth 20000 in
theorem x274_1600 {sc : Scr} {d : Nat} {l0 l1 l2 l3 l5 l6 : Option V} {st : List V} {hs : HS} {Q : Rs → HS → Prop} {a : Int} : Ex sc d 274 1600 [l0, l1, l2, l3, some (vI a), l5, l6] st hs Q ↔ Ex sc d 274 1602 [l0, l1, l2, l3, some (vI a), l5, l6] (vI a :: st) hs Q := e_iload ((cd274 1600).trans rfl) rfl
set_option maxRecDepth 20000 in
theorem x274_1602 {sc : Scr} {d : Nat} {l0 l1 l2 l3 l4 l5 l6 : Option V} {st : List V} {hs : HS} {Q : Rs → HS → Prop} : Ex sc d 274 1602 [l0, l1, l2, l3, l4, l5, l6] st hs Q ↔ Ex sc d 274 1603 [l0, l1, l2, l3, l4, l5, l6] (vI (2) :: st) hs Q := e_iconst ((cd274 1602).trans rfl)
set_option maxRecDepth 20000 in
theorem x274_1603 {sc : Scr} {d : Nat} {l0 l1 l2 l3 l4 l5 l6 : Option V} {st : List V} {hs : HS} {Q : Rs → HS → Prop} {a b : Int} : Ex sc d 274 1603 [l0, l1, l2, l3, l4, l5, l6] (vI b :: vI a :: st) hs Q ↔ Ex sc d 274 1604 [l0, l1, l2, l3, l4, l5, l6] (vI (a + b) :: st) hs Q := e_iadd ((cd274 1603).trans rfl)
set_option maxRecDepth 20000 in
theorem x274_1604 {sc : Scr} {d : Nat} {l0 l1 l2 l3 l4 l5 l6 : Option V} {st : List V} {hs : HS} {Q : Rs → HS → Prop} {i : Int} (hq : 0 ≤ i ∧ i < (sc.1 : Int) ∧ sc.1 < 2147483648) : Ex sc d 274 1604 [l0, l1, l2, l3, l4, l5, l6] (vI i :: vS 9 :: st) hs Q ↔ Ex sc d 274 1605 [l0, l1, l2, l3, l4, l5, l6] (vI (sc.2 i.toNat) :: st) hs Q := e_ialdS ((cd274 1604).trans rfl) hq
set_option maxRecDepth 20000 in
theorem x274_1605 {sc : Scr} {d : Nat} {l0 l1 l2 l4 l5 l6 : Option V} {st : List V} {hs : HS} {Q : Rs → HS → Prop} {a : Nat} : Ex sc d 274 1605 [l0, l1, l2, some (vR a), l4, l5, l6] st hs Q ↔ Ex sc d 274 1606 [l0, l1, l2, some (vR a), l4, l5, l6] (vR a :: st) hs Q := e_aload ((cd274 1605).trans rfl) rfl
set_option maxRecDepth 20000 in
theorem x274_1606 {sc : Scr} {d : Nat} {l0 l1 l2 l3 l4 l5 l6 : Option V} {st : List V} {hs : HS} {Q : Rs → HS → Prop} {a0 : Nat} {a1 : Int} {a2 : Int} {a3 : Nat} (hd : 0 < d) (hc : catS st ≤ 8) : Ex sc d 274 1606 [l0, l1, l2, l3, l4, l5, l6] (vR a3 :: vI a2 :: vI a1 :: vR a0 :: st) hs Q ↔ Ex sc (d - 1) 172 0 [some (vR a0), some (vI a1), some (vI a2), some (vR a3), none] [] hs (Kc sc d 274 1606 1609 [l0, l1, l2, l3, l4, l5, l6] st Q) := e_callS ((cd274 1606).trans rfl) (by simp only [List.length_cons]; omega) (by decide) rfl rfl rfl hc rfl hd
set_option maxRecDepth 20000 in
theorem x274_1609 {sc : Scr} {d : Nat} {l0 l1 l2 l3 l4 l5 l6 : Option V} {st : List V} {hs : HS} {Q : Rs → HS → Prop} {a : Int} (hn : notL l4 = true) : Ex sc d 274 1609 [l0, l1, l2, l3, l4, l5, l6] (vI a :: st) hs Q ↔ Ex sc d 274 1611 [l0, l1, l2, l3, l4, some (vI a), l6] st hs Q := e_istore ((cd274 1609).trans rfl) (by show 5 < 7; decide) (noL_of (j := 4) rfl hn) rfl
set_option maxRecDepth 20000 in
theorem x274_1611 {sc : Scr} {d : Nat} {l0 l1 l3 l4 l5 l6 : Option V} {st : List V} {hs : HS} {Q : Rs → HS → Prop} {a : Nat} : Ex sc d 274 1611 [l0, l1, some (vR a), l3, l4, l5, l6] st hs Q ↔ Ex sc d 274 1612 [l0, l1, some (vR a), l3, l4, l5, l6] (vR a :: st) hs Q := e_aload ((cd274 1611).trans rfl) rfl
set_option maxRecDepth 20000 in
theorem x274_1612 {sc : Scr} {d : Nat} {l1 l2 l3 l4 l5 l6 : Option V} {st : List V} {hs : HS} {Q : Rs → HS → Prop} {a : Nat} : Ex sc d 274 1612 [some (vS a), l1, l2, l3, l4, l5, l6] st hs Q ↔ Ex sc d 274 1613 [some (vS a), l1, l2, l3, l4, l5, l6] (vS a :: st) hs Q := e_aloadS ((cd274 1612).trans rfl) rfl
set_option maxRecDepth 20000 in
theorem x274_1613 {sc : Scr} {d : Nat} {l0 l1 l2 l3 l5 l6 : Option V} {st : List V} {hs : HS} {Q : Rs → HS → Prop} {a : Int} : Ex sc d 274 1613 [l0, l1, l2, l3, some (vI a), l5, l6] st hs Q ↔ Ex sc d 274 1615 [l0, l1, l2, l3, some (vI a), l5, l6] (vI a :: st) hs Q := e_iload ((cd274 1613).trans rfl) rfl
set_option maxRecDepth 20000 in
theorem x274_1615 {sc : Scr} {d : Nat} {l0 l1 l2 l3 l4 l5 l6 : Option V} {st : List V} {hs : HS} {Q : Rs → HS → Prop} : Ex sc d 274 1615 [l0, l1, l2, l3, l4, l5, l6] st hs Q ↔ Ex sc d 274 1616 [l0, l1, l2, l3, l4, l5, l6] (vI (1) :: st) hs Q := e_iconst ((cd274 1615).trans rfl)
set_option maxRecDepth 20000 in
theorem x274_1616 {sc : Scr} {d : Nat} {l0 l1 l2 l3 l4 l5 l6 : Option V} {st : List V} {hs : HS} {Q : Rs → HS → Prop} {a b : Int} : Ex sc d 274 1616 [l0, l1, l2, l3, l4, l5, l6] (vI b :: vI a :: st) hs Q ↔ Ex sc d 274 1617 [l0, l1, l2, l3, l4, l5, l6] (vI (a + b) :: st) hs Q := e_iadd ((cd274 1616).trans rfl)
set_option maxRecDepth 20000 in
theorem x274_1617 {sc : Scr} {d : Nat} {l0 l1 l2 l3 l4 l5 l6 : Option V} {st : List V} {hs : HS} {Q : Rs → HS → Prop} {i : Int} (hq : 0 ≤ i ∧ i < (sc.1 : Int) ∧ sc.1 < 2147483648) : Ex sc d 274 1617 [l0, l1, l2, l3, l4, l5, l6] (vI i :: vS 9 :: st) hs Q ↔ Ex sc d 274 1618 [l0, l1, l2, l3, l4, l5, l6] (vI (sc.2 i.toNat) :: st) hs Q := e_ialdS ((cd274 1617).trans rfl) hq
set_option maxRecDepth 20000 in
theorem x274_1618 {sc : Scr} {d : Nat} {l1 l2 l3 l4 l5 l6 : Option V} {st : List V} {hs : HS} {Q : Rs → HS → Prop} {a : Nat} : Ex sc d 274 1618 [some (vS a), l1, l2, l3, l4, l5, l6] st hs Q ↔ Ex sc d 274 1619 [some (vS a), l1, l2, l3, l4, l5, l6] (vS a :: st) hs Q := e_aloadS ((cd274 1618).trans rfl) rfl
set_option maxRecDepth 20000 in
theorem x274_1619 {sc : Scr} {d : Nat} {l0 l1 l2 l3 l5 l6 : Option V} {st : List V} {hs : HS} {Q : Rs → HS → Prop} {a : Int} : Ex sc d 274 1619 [l0, l1, l2, l3, some (vI a), l5, l6] st hs Q ↔ Ex sc d 274 1621 [l0, l1, l2, l3, some (vI a), l5, l6] (vI a :: st) hs Q := e_iload ((cd274 1619).trans rfl) rfl
set_option maxRecDepth 20000 in
theorem x274_1621 {sc : Scr} {d : Nat} {l0 l1 l2 l3 l4 l5 l6 : Option V} {st : List V} {hs : HS} {Q : Rs → HS → Prop} : Ex sc d 274 1621 [l0, l1, l2, l3, l4, l5, l6] st hs Q ↔ Ex sc d 274 1622 [l0, l1, l2, l3, l4, l5, l6] (vI (2) :: st) hs Q := e_iconst ((cd274 1621).trans rfl)
set_option maxRecDepth 20000 in
theorem x274_1622 {sc : Scr} {d : Nat} {l0 l1 l2 l3 l4 l5 l6 : Option V} {st : List V} {hs : HS} {Q : Rs → HS → Prop} {a b : Int} : Ex sc d 274 1622 [l0, l1, l2, l3, l4, l5, l6] (vI b :: vI a :: st) hs Q ↔ Ex sc d 274 1623 [l0, l1, l2, l3, l4, l5, l6] (vI (a + b) :: st) hs Q := e_iadd ((cd274 1622).trans rfl)
set_option maxRecDepth 20000 in
theorem x274_1623 {sc : Scr} {d : Nat} {l0 l1 l2 l3 l4 l5 l6 : Option V} {st : List V} {hs : HS} {Q : Rs → HS → Prop} {i : Int} (hq : 0 ≤ i ∧ i < (sc.1 : Int) ∧ sc.1 < 2147483648) : Ex sc d 274 1623 [l0, l1, l2, l3, l4, l5, l6] (vI i :: vS 9 :: st) hs Q ↔ Ex sc d 274 1624 [l0, l1, l2, l3, l4, l5, l6] (vI (sc.2 i.toNat) :: st) hs Q := e_ialdS ((cd274 1623).trans rfl) hq
set_option maxRecDepth 20000 in
theorem x274_1624 {sc : Scr} {d : Nat} {l0 l1 l2 l3 l4 l5 l6 : Option V} {st : List V} {hs : HS} {Q : Rs → HS → Prop} {a0 : Int} {a1 : Int} {q : Nat} (hd : 0 < d) (hc : catS st ≤ 8) (ho : isObj hs 12 (vR q) = true) : Ex sc d 274 1624 [l0, l1, l2, l3, l4, l5, l6] (vI a1 :: vI a0 :: vR q :: st) hs Q ↔ Ex sc (d - 1) 273 0 [some (vR q), some (vI a0), some (vI a1)] [] hs (Kc sc d 274 1624 1627 [l0, l1, l2, l3, l4, l5, l6] st Q) := e_callV ((cd274 1624).trans rfl) ho (by simp only [List.length_cons]; omega) (by decide) rfl rfl rfl hc rfl hd
set_option maxRecDepth 20000 in
theorem x274_1627 {sc : Scr} {d : Nat} {l0 l1 l2 l3 l4 l5 l6 : Option V} {st : List V} {hs : HS} {Q : Rs → HS → Prop} {a : Int} (hn : notL l5 = true) : Ex sc d 274 1627 [l0, l1, l2, l3, l4, l5, l6] (vI a :: st) hs Q ↔ Ex sc d 274 1629 [l0, l1, l2, l3, l4, l5, some (vI a)] st hs Q := e_istore ((cd274 1627).trans rfl) (by show 6 < 7; decide) (noL_of (j := 5) rfl hn) rfl
set_option maxRecDepth 20000 in
theorem x274_1629 {sc : Scr} {d : Nat} {l0 l1 l3 l4 l5 l6 : Option V} {st : List V} {hs : HS} {Q : Rs → HS → Prop} {a : Nat} : Ex sc d 274 1629 [l0, l1, some (vR a), l3, l4, l5, l6] st hs Q ↔ Ex sc d 274 1630 [l0, l1, some (vR a), l3, l4, l5, l6] (vR a :: st) hs Q := e_aload ((cd274 1629).trans rfl) rfl
set_option maxRecDepth 20000 in
theorem x274_1630 {sc : Scr} {d : Nat} {l0 l1 l2 l3 l4 l5 l6 : Option V} {st : List V} {hs : HS} {Q : Rs → HS → Prop} {q : Nat} (hd : 0 < d) (hc : catS st ≤ 8) (ho : isObj hs 12 (vR q) = true) : Ex sc d 274 1630 [l0, l1, l2, l3, l4, l5, l6] (vR q :: st) hs Q ↔ Ex sc (d - 1) 177 0 [some (vR q)] [] hs (Kc sc d 274 1630 1633 [l0, l1, l2, l3, l4, l5, l6] st Q) := e_callV ((cd274 1630).trans rfl) ho (by simp only [List.length_cons]; omega) (by decide) rfl rfl rfl hc rfl hd
set_option maxRecDepth 20000 in
theorem x274_1633 {sc : Scr} {d : Nat} {l0 l1 l2 l3 l4 l6 : Option V} {st : List V} {hs : HS} {Q : Rs → HS → Prop} {a : Int} : Ex sc d 274 1633 [l0, l1, l2, l3, l4, some (vI a), l6] st hs Q ↔ Ex sc d 274 1635 [l0, l1, l2, l3, l4, some (vI a), l6] (vI a :: st) hs Q := e_iload ((cd274 1633).trans rfl) rfl
set_option maxRecDepth 20000 in
theorem x274_1635 {sc : Scr} {d : Nat} {l0 l1 l2 l3 l4 l5 l6 : Option V} {st : List V} {hs : HS} {Q : Rs → HS → Prop} {a b : Int} (ha : inR a) (hb : inR b) : Ex sc d 274 1635 [l0, l1, l2, l3, l4, l5, l6] (vI b :: vI a :: st) hs Q ↔ if a = b then Ex sc d 274 1640 [l0, l1, l2, l3, l4, l5, l6] st hs Q else Ex sc d 274 1638 [l0, l1, l2, l3, l4, l5, l6] st hs Q := (e_icmp ((cd274 1635).trans rfl) ha hb).trans (by simp only [cmpI, decide_eq_true_eq])
set_option maxRecDepth 20000 in
theorem x274_1638 {sc : Scr} {d : Nat} {l0 l1 l2 l3 l4 l5 l6 : Option V} {st : List V} {hs : HS} {Q : Rs → HS → Prop} : Ex sc d 274 1638 [l0, l1, l2, l3, l4, l5, l6] st hs Q ↔ Ex sc d 274 1639 [l0, l1, l2, l3, l4, l5, l6] (vI (0) :: st) hs Q := e_iconst ((cd274 1638).trans rfl)
set_option maxRecDepth 20000 in
theorem x274_1639 {sc : Scr} {d : Nat} {l0 l1 l2 l3 l4 l5 l6 : Option V} {hs : HS} {Q : Rs → HS → Prop} {a : Int} (ha : a = 0 ∨ a = 1) : Ex sc d 274 1639 [l0, l1, l2, l3, l4, l5, l6] [vI a] hs Q ↔ Q (.inl (some (vI a))) hs := e_zret ((cd274 1639).trans rfl) rfl ha
set_option maxRecDepth 20000 in
theorem x274_1640 {sc : Scr} {d : Nat} {l0 l1 l2 l3 l4 l6 : Option V} {st : List V} {hs : HS} {Q : Rs → HS → Prop} {a : Int} : Ex sc d 274 1640 [l0, l1, l2, l3, l4, some (vI a), l6] st hs Q ↔ Ex sc d 274 1642 [l0, l1, l2, l3, l4, some (vI a), l6] (vI a :: st) hs Q := e_iload ((cd274 1640).trans rfl) rfl
set_option maxRecDepth 20000 in
theorem x274_1642 {sc : Scr} {d : Nat} {l0 l1 l2 l3 l4 l5 l6 : Option V} {st : List V} {hs : HS} {Q : Rs → HS → Prop} {a : Int} (ha : inR a) : Ex sc d 274 1642 [l0, l1, l2, l3, l4, l5, l6] (vI a :: st) hs Q ↔ if ¬ a = 0 then Ex sc d 274 1657 [l0, l1, l2, l3, l4, l5, l6] st hs Q else Ex sc d 274 1645 [l0, l1, l2, l3, l4, l5, l6] st hs Q := (e_if ((cd274 1642).trans rfl) ha).trans (by simp only [cmpI, decide_eq_true_eq])
set_option maxRecDepth 20000 in
theorem x274_1645 {sc : Scr} {d : Nat} {l0 l1 l2 l4 l5 l6 : Option V} {st : List V} {hs : HS} {Q : Rs → HS → Prop} {a : Nat} : Ex sc d 274 1645 [l0, l1, l2, some (vR a), l4, l5, l6] st hs Q ↔ Ex sc d 274 1646 [l0, l1, l2, some (vR a), l4, l5, l6] (vR a :: st) hs Q := e_aload ((cd274 1645).trans rfl) rfl
set_option maxRecDepth 20000 in
theorem x274_1646 {sc : Scr} {d : Nat} {l0 l1 l2 l3 l4 l5 l6 : Option V} {st : List V} {hs : HS} {Q : Rs → HS → Prop} : Ex sc d 274 1646 [l0, l1, l2, l3, l4, l5, l6] st hs Q ↔ Ex sc d 274 1647 [l0, l1, l2, l3, l4, l5, l6] (vI (0) :: st) hs Q := e_iconst ((cd274 1646).trans rfl)
set_option maxRecDepth 20000 in
theorem x274_1647 {sc : Scr} {d : Nat} {l0 l1 l2 l3 l4 l5 l6 : Option V} {st : List V} {hs : HS} {Q : Rs → HS → Prop} {a : Nat} {i : Int} : Ex sc d 274 1647 [l0, l1, l2, l3, l4, l5, l6] (vI i :: vR a :: st) hs Q ↔ Ra hs 2 a i (fun z => Ex sc d 274 1648 [l0, l1, l2, l3, l4, l5, l6] (vL z :: st) hs Q) := e_lald ((cd274 1647).trans rfl)
set_option maxRecDepth 20000 in
theorem x274_1648 {sc : Scr} {d : Nat} {l0 l1 l2 l3 l4 l5 : Option V} {st : List V} {hs : HS} {Q : Rs → HS → Prop} {a : Int} : Ex sc d 274 1648 [l0, l1, l2, l3, l4, l5, some (vI a)] st hs Q ↔ Ex sc d 274 1650 [l0, l1, l2, l3, l4, l5, some (vI a)] (vI a :: st) hs Q := e_iload ((cd274 1648).trans rfl) rfl
set_option maxRecDepth 20000 in
theorem x274_1650 {sc : Scr} {d : Nat} {l0 l1 l2 l3 l4 l5 l6 : Option V} {st : List V} {hs : HS} {Q : Rs → HS → Prop} {a : Int} (ha : inR a) : Ex sc d 274 1650 [l0, l1, l2, l3, l4, l5, l6] (vI a :: st) hs Q ↔ Ex sc d 274 1651 [l0, l1, l2, l3, l4, l5, l6] (vL a :: st) hs Q := e_i2l ((cd274 1650).trans rfl) ha
set_option maxRecDepth 20000 in
theorem x274_1651 {sc : Scr} {d : Nat} {l0 l1 l2 l3 l4 l5 l6 : Option V} {st : List V} {hs : HS} {Q : Rs → HS → Prop} {a b : Int} (ha : inL a) (hb : inL b) : Ex sc d 274 1651 [l0, l1, l2, l3, l4, l5, l6] (vL b :: vL a :: st) hs Q ↔ Ex sc d 274 1652 [l0, l1, l2, l3, l4, l5, l6] (vI (if a < b then -1 else if a = b then 0 else 1) :: st) hs Q := e_lcmp ((cd274 1651).trans rfl) ha hb
set_option maxRecDepth 20000 in
theorem x274_1652 {sc : Scr} {d : Nat} {l0 l1 l2 l3 l4 l5 l6 : Option V} {st : List V} {hs : HS} {Q : Rs → HS → Prop} {a : Int} (ha : inR a) : Ex sc d 274 1652 [l0, l1, l2, l3, l4, l5, l6] (vI a :: st) hs Q ↔ if a = 0 then Ex sc d 274 1657 [l0, l1, l2, l3, l4, l5, l6] st hs Q else Ex sc d 274 1655 [l0, l1, l2, l3, l4, l5, l6] st hs Q := (e_if ((cd274 1652).trans rfl) ha).trans (by simp only [cmpI, decide_eq_true_eq])
set_option maxRecDepth 20000 in
theorem x274_1655 {sc : Scr} {d : Nat} {l0 l1 l2 l3 l4 l5 l6 : Option V} {st : List V} {hs : HS} {Q : Rs → HS → Prop} : Ex sc d 274 1655 [l0, l1, l2, l3, l4, l5, l6] st hs Q ↔ Ex sc d 274 1656 [l0, l1, l2, l3, l4, l5, l6] (vI (0) :: st) hs Q := e_iconst ((cd274 1655).trans rfl)
set_option maxRecDepth 20000 in
theorem x274_1656 {sc : Scr} {d : Nat} {l0 l1 l2 l3 l4 l5 l6 : Option V} {hs : HS} {Q : Rs → HS → Prop} {a : Int} (ha : a = 0 ∨ a = 1) : Ex sc d 274 1656 [l0, l1, l2, l3, l4, l5, l6] [vI a] hs Q ↔ Q (.inl (some (vI a))) hs := e_zret ((cd274 1656).trans rfl) rfl ha
set_option maxRecDepth 20000 in
theorem x274_1657 {sc : Scr} {d : Nat} {l0 l1 l2 l3 l4 l5 l6 : Option V} {st : List V} {hs : HS} {Q : Rs → HS → Prop} : Ex sc d 274 1657 [l0, l1, l2, l3, l4, l5, l6] st hs Q ↔ Ex sc d 274 1660 [l0, l1, l2, l3, l4, l5, l6] st hs Q := e_goto ((cd274 1657).trans rfl)
set_option maxRecDepth 20000 in
theorem x274_1660 {sc : Scr} {d : Nat} {l0 l1 l2 l3 l5 l6 : Option V} {st : List V} {hs : HS} {Q : Rs → HS → Prop} {a : Int} : Ex sc d 274 1660 [l0, l1, l2, l3, some (vI a), l5, l6] st hs Q ↔ Ex sc d 274 1663 [l0, l1, l2, l3, some (vI (a + (6))), l5, l6] st hs Q := e_iinc ((cd274 1660).trans rfl) rfl rfl
set_option maxRecDepth 20000 in
theorem x274_1663 {sc : Scr} {d : Nat} {l0 l1 l2 l3 l4 l5 l6 : Option V} {st : List V} {hs : HS} {Q : Rs → HS → Prop} : Ex sc d 274 1663 [l0, l1, l2, l3, l4, l5, l6] st hs Q ↔ Ex sc d 274 23 [l0, l1, l2, l3, l4, l5, l6] st hs Q := e_goto ((cd274 1663).trans rfl)
set_option maxRecDepth 20000 in
theorem x274_1666 {sc : Scr} {d : Nat} {l0 l1 l2 l3 l4 l5 l6 : Option V} {st : List V} {hs : HS} {Q : Rs → HS → Prop} : Ex sc d 274 1666 [l0, l1, l2, l3, l4, l5, l6] st hs Q ↔ Ex sc d 274 1667 [l0, l1, l2, l3, l4, l5, l6] (vI (1) :: st) hs Q := e_iconst ((cd274 1666).trans rfl)
set_option maxRecDepth 20000 in
theorem x274_1667 {sc : Scr} {d : Nat} {l0 l1 l2 l3 l4 l5 l6 : Option V} {hs : HS} {Q : Rs → HS → Prop} {a : Int} (ha : a = 0 ∨ a = 1) : Ex sc d 274 1667 [l0, l1, l2, l3, l4, l5, l6] [vI a] hs Q ↔ Q (.inl (some (vI a))) hs := e_zret ((cd274 1667).trans rfl) rfl ha
