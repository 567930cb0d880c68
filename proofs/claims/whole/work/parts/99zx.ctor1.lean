/-! the constructors of the class's pieces -/
def atomsS (a : Nat) : List Sh := [(2, 1, 0, [(1, a + 1), (2, a + 2)]), (0, 0, 3, []), (0, 0, 9, [])]
def rowsS (a : Nat) : List Sh := [(2, 7, 0, [(2, a + 1), (3, a + 2), (4, a + 3), (5, a + 4)]), (0, 0, 40, []), (0, 0, 40, []), (0, 0, 120, []), (0, 0, 100, [])]
def logS (a : Nat) : List Sh := [(2, 5, 0, [(2, a + 1), (3, a + 2)]), (0, 0, 700, []), (0, 0, 200, [])]
def ruleS (a : Nat) : List Sh := (2, 8, 0, [(1, a + 1), (2, a + 4)]) :: (atomsS (a + 1) ++ atomsS (a + 4))
def tokS (a : Nat) : List Sh := [(2, 9, 0, [(2, a + 1), (3, a + 2), (4, a + 3)]), (0, 0, 1001, []), (0, 0, 1001, []), (0, 0, 1001, [])]
def parS (a : Nat) : List Sh := (2, 6, 0, [(2, a + 1), (4, a + 2), (5, a + 6)]) :: (0, 0, 3, []) :: (tokS (a + 2) ++ [(0, 0, 3, [])])
def finS (a : Nat) : List Sh := [(2, 2, 0, [(0, a + 1), (1, a + 2), (3, a + 3), (4, a + 4), (5, a + 5)]), (0, 0, 26, []), (0, 0, 26, []), (0, 0, 3, []), (0, 0, 3, []), (0, 0, 3, [])]
def leadS (a : Nat) : List Sh := [(2, 4, 0, [(0, a + 1), (1, a + 2), (3, a + 3), (4, a + 4)]), (0, 0, 100, []), (0, 0, 100, []), (0, 0, 40, []), (0, 0, 40, [])]
def waysS (a : Nat) : List Sh := [(2, 10, 0, [(0, a + 1)]), (0, 0, 78, [])]
def ansS (a : Nat) : List Sh := [(2, 0, 0, [(2, a + 1)]), (0, 0, 1600, [])]
def zP : Nat → Int → Int := fun _ => z0
/-- minus ones, as many -/
def mP (n j : Int) : Int := if 0 ≤ j ∧ j < n then -1 else 0
def logP (o : Nat) (j : Int) : Int := if o = 2 then mP 200 j else 0
def ruleP (o : Nat) (j : Int) : Int := if o = 0 then (if j = 0 then 2 else if j = 3 ∨ j = 4 then -1 else 0) else 0
def parP (o : Nat) (j : Int) : Int := if o = 0 then (if j = 1 then -1 else 0) else 0
def finP (o : Nat) (j : Int) : Int := if o = 0 then (if j = 6 then -1 else 0) else if o = 1 then mP 26 j else 0
def leadP (o : Nat) (j : Int) : Int := if o = 1 then mP 100 j else 0
section Cc
variable {sc : Scr} {d : Nat} {σ : St} {L : List Sh} {Q : Rs → HS → Prop}
theorem wn_z {a len : Nat} (h : ∀ id, a ≤ id → id < a + len → σ id = z0) : wn σ a len zP = σ := by
  funext id
  unfold wn
  by_cases q : a ≤ id ∧ id < a + len
  · rw [if_pos q, h id q.1 q.2]; rfl
  · rw [if_neg q]
theorem l_fillB {a n : Nat} {v : Int} {qs : List Sh} (hq : qs.getD a (9, 0, 0, []) = (0, 0, n, [])) (ha : a < qs.length) (hn : n < 2147483648) : ∀ (k : Nat) (i : Int), 0 ≤ i → i + k = n → (Ex sc d 4 5 [some (vR a), some (vI v), some (vI i), some (vI n)] [] (bH qs (fl σ a 0 i v)) Q ↔ Q (.inl none) (bH qs (fl σ a 0 n v))) := by
  intro k
  induction k with
  | zero =>
    intro i i0 ik
    have hi : i = n := by omega
    subst hi
    rw [x4_5]
    simp (disch := first | assumption | omega | exact notL_I | exact notL_N | exact notL_R | exact catS_le (Nat.le_of_ble_eq_true rfl) | exact Nat.le_of_ble_eq_true rfl | exact ooRo (by assumption) | exact ooAt (by assumption) | exact ooRu (by assumption) | exact ooLo (by assumption) | exact ooHa (by assumption) | exact ooLe (by assumption) | exact ooFn | exact ooAn | exact ooPa | exact ooTo | exact ooWa | exact ooCh | rfl) only [x4_0, x4_1, x4_2, x4_3, x4_4, x4_6, x4_7, x4_10, x4_11, x4_12, x4_13, x4_14, x4_17, x4_20, if_pos, if_neg, ↓reduceIte, not_true_eq_false, not_false_eq_true]
  | succ k ih =>
    intro i i0 ik
    have wb := fun σ f => Wa_b (qs := qs) (σ := σ) (ty := 0) (n := n) (a := a) (i := i) (x := v) (f := f) hq ha hn i0 (by omega)
    rw [x4_5]
    simp (disch := first | assumption | omega | exact notL_I | exact notL_N | exact notL_R | exact catS_le (Nat.le_of_ble_eq_true rfl) | exact Nat.le_of_ble_eq_true rfl | exact ooRo (by assumption) | exact ooAt (by assumption) | exact ooRu (by assumption) | exact ooLo (by assumption) | exact ooHa (by assumption) | exact ooLe (by assumption) | exact ooFn | exact ooAn | exact ooPa | exact ooTo | exact ooWa | exact ooCh | rfl) only [x4_0, x4_1, x4_2, x4_3, x4_4, x4_6, x4_7, x4_10, x4_11, x4_12, x4_13, x4_14, x4_17, x4_20, wb, fl_su, if_pos, if_neg, ↓reduceIte, not_true_eq_false, not_false_eq_true]
    exact ih (i + 1) (by omega) (by omega)
theorem k_fill {a n : Nat} {v : Int} {qs : List Sh} (hq : qs.getD a (9, 0, 0, []) = (0, 0, n, [])) (ha : a < qs.length) (hn : n < 2147483648) : Ex sc d 4 0 [some (vR a), some (vI v), none, none] [] (bH qs σ) Q ↔ Q (.inl none) (bH qs (fl σ a 0 n v)) := by
  have h := l_fillB (sc := sc) (d := d) (σ := σ) (Q := Q) (v := v) hq ha hn n 0 (by omega) (by omega)
  rw [fl_0] at h
  refine Iff.trans ?_ h
  have lb := fun f => La_b (qs := qs) (σ := σ) (ty := 0) (n := n) (a := a) (f := f) hq ha (by omega) hn
  simp (disch := first | assumption | omega | exact notL_I | exact notL_N | exact notL_R | exact catS_le (Nat.le_of_ble_eq_true rfl) | exact Nat.le_of_ble_eq_true rfl | exact ooRo (by assumption) | exact ooAt (by assumption) | exact ooRu (by assumption) | exact ooLo (by assumption) | exact ooHa (by assumption) | exact ooLe (by assumption) | exact ooFn | exact ooAn | exact ooPa | exact ooTo | exact ooWa | exact ooCh | rfl) only [x4_0, x4_1, x4_2, x4_3, x4_4, x4_6, x4_7, x4_10, x4_11, x4_12, x4_13, x4_14, x4_17, x4_20, lb]
theorem k_atoms : Ct sc d 5 1 [] 3 atomsS zP := by
  refine ⟨fun _ => rfl, fun L σ Q hz => ?_⟩
  rw [wn_z (fun id h _ => hz id h)]
  simp (disch := first | decide | rfl | assumption | exact hz _ (by omega) | omega | exact hz1 _ (by omega) | (rw [su_ne (by omega)]; exact hz1 _ (by omega)) | (intro id hid; exact hz id (by omega)) | (intro id hid; exact hz1 id (by omega)) | (intro id hid; rw [su_ne (by omega)]; exact hz1 id (by omega)) | (intro id hid hid2; exact hz id (by omega)) | (intro id hid hid2; exact hz1 id (by omega)) | (intro id hid hid2; rw [su_ne (by omega)]; exact hz1 id (by omega)) | exact ho _ | exact oBn | exact oB | exact notL_I | exact notL_N | exact notL_R | exact catS_le (Nat.le_of_ble_eq_true rfl) | exact Nat.le_of_ble_eq_true rfl | (refine id ?_; simp only [lk2, List.nil_append, List.cons_append, Option.isSome]; done)) only [x5_0, x5_1, x5_4, x5_5, x5_6, x5_9, x5_10, x5_11, x5_13, x5_16, x5_17, x5_19, x5_21, x5_24, Pf_bi, su_z, Nw_a, Pf_br]
  exact Iff.rfl
theorem k_rows : Ct sc d 2 7 [] 5 rowsS zP := by
  refine ⟨fun _ => rfl, fun L σ Q hz => ?_⟩
  rw [wn_z (fun id h _ => hz id h)]
  simp (disch := first | decide | rfl | assumption | exact hz _ (by omega) | omega | exact hz1 _ (by omega) | (rw [su_ne (by omega)]; exact hz1 _ (by omega)) | (intro id hid; exact hz id (by omega)) | (intro id hid; exact hz1 id (by omega)) | (intro id hid; rw [su_ne (by omega)]; exact hz1 id (by omega)) | (intro id hid hid2; exact hz id (by omega)) | (intro id hid hid2; exact hz1 id (by omega)) | (intro id hid hid2; rw [su_ne (by omega)]; exact hz1 id (by omega)) | exact ho _ | exact oBn | exact oB | exact notL_I | exact notL_N | exact notL_R | exact catS_le (Nat.le_of_ble_eq_true rfl) | exact Nat.le_of_ble_eq_true rfl | (refine id ?_; simp only [lk2, List.nil_append, List.cons_append, Option.isSome]; done)) only [x2_0, x2_1, x2_4, x2_5, x2_6, x2_9, x2_10, x2_11, x2_14, x2_15, x2_17, x2_19, x2_22, x2_23, x2_25, x2_27, x2_30, x2_31, x2_33, x2_35, x2_38, x2_39, x2_41, x2_43, x2_46, Pf_bi, su_z, Nw_a, Pf_br]
  exact Iff.rfl
theorem k_tok : Ct sc d 8 9 [] 4 tokS zP := by
  refine ⟨fun _ => rfl, fun L σ Q hz => ?_⟩
  rw [wn_z (fun id h _ => hz id h)]
  simp (disch := first | decide | rfl | assumption | exact hz _ (by omega) | omega | exact hz1 _ (by omega) | (rw [su_ne (by omega)]; exact hz1 _ (by omega)) | (intro id hid; exact hz id (by omega)) | (intro id hid; exact hz1 id (by omega)) | (intro id hid; rw [su_ne (by omega)]; exact hz1 id (by omega)) | (intro id hid hid2; exact hz id (by omega)) | (intro id hid hid2; exact hz1 id (by omega)) | (intro id hid hid2; rw [su_ne (by omega)]; exact hz1 id (by omega)) | exact ho _ | exact oBn | exact oB | exact notL_I | exact notL_N | exact notL_R | exact catS_le (Nat.le_of_ble_eq_true rfl) | exact Nat.le_of_ble_eq_true rfl | (refine id ?_; simp only [lk2, List.nil_append, List.cons_append, Option.isSome]; done)) only [x8_0, x8_1, x8_4, x8_5, x8_6, x8_9, x8_10, x8_11, x8_14, x8_15, x8_18, x8_20, x8_23, x8_24, x8_27, x8_29, x8_32, x8_33, x8_36, x8_38, x8_41, Pf_bi, su_z, Nw_a, Pf_br]
  exact Iff.rfl
theorem k_ways : Ct sc d 11 10 [] 2 waysS zP := by
  refine ⟨fun _ => rfl, fun L σ Q hz => ?_⟩
  rw [wn_z (fun id h _ => hz id h)]
  simp (disch := first | decide | rfl | assumption | exact hz _ (by omega) | omega | exact hz1 _ (by omega) | (rw [su_ne (by omega)]; exact hz1 _ (by omega)) | (intro id hid; exact hz id (by omega)) | (intro id hid; exact hz1 id (by omega)) | (intro id hid; rw [su_ne (by omega)]; exact hz1 id (by omega)) | (intro id hid hid2; exact hz id (by omega)) | (intro id hid hid2; exact hz1 id (by omega)) | (intro id hid hid2; rw [su_ne (by omega)]; exact hz1 id (by omega)) | exact ho _ | exact oBn | exact oB | exact notL_I | exact notL_N | exact notL_R | exact catS_le (Nat.le_of_ble_eq_true rfl) | exact Nat.le_of_ble_eq_true rfl | (refine id ?_; simp only [lk2, List.nil_append, List.cons_append, Option.isSome]; done)) only [x11_0, x11_1, x11_4, x11_5, x11_7, x11_9, x11_12, x11_13, x11_14, x11_17, x11_18, x11_19, x11_22, Pf_bi, su_z, Nw_a, Pf_br]
  exact Iff.rfl
theorem k_ans : Ct sc d 12 0 [] 2 ansS zP := by
  refine ⟨fun _ => rfl, fun L σ Q hz => ?_⟩
  rw [wn_z (fun id h _ => hz id h)]
  simp (disch := first | decide | rfl | assumption | exact hz _ (by omega) | omega | exact hz1 _ (by omega) | (rw [su_ne (by omega)]; exact hz1 _ (by omega)) | (intro id hid; exact hz id (by omega)) | (intro id hid; exact hz1 id (by omega)) | (intro id hid; rw [su_ne (by omega)]; exact hz1 id (by omega)) | (intro id hid hid2; exact hz id (by omega)) | (intro id hid hid2; exact hz1 id (by omega)) | (intro id hid hid2; rw [su_ne (by omega)]; exact hz1 id (by omega)) | exact ho _ | exact oBn | exact oB | exact notL_I | exact notL_N | exact notL_R | exact catS_le (Nat.le_of_ble_eq_true rfl) | exact Nat.le_of_ble_eq_true rfl | (refine id ?_; simp only [lk2, List.nil_append, List.cons_append, Option.isSome]; done)) only [x12_0, x12_1, x12_4, x12_5, x12_6, x12_9, x12_10, x12_11, x12_14, x12_15, x12_18, x12_20, x12_23, Pf_bi, su_z, Nw_a, Pf_br]
  exact Iff.rfl
theorem k_log (hd : 1 ≤ d) : Ct sc d 3 5 [] 3 logS logP := by
  refine ⟨fun _ => rfl, fun L σ Q hz => ?_⟩
  have e : wn σ L.length 3 logP = fl σ (L.length + 2) 0 200 (-1) := by
    funext id j
    unfold wn
    by_cases h2 : id = L.length + 2
    · subst h2
      rw [if_pos (by omega), fl_at, show L.length + 2 - L.length = 2 by omega, hz _ (by omega)]
      rfl
    · rw [fl_ne h2]
      by_cases h1 : L.length ≤ id ∧ id < L.length + 3
      · rw [if_pos h1, hz id h1.1]
        show (if id - L.length = 2 then _ else (0 : Int)) = 0
        rw [if_neg (by omega)]
      · rw [if_neg h1]
  have kf := k_fill (sc := sc) (d := d - 1) (σ := σ) (a := L.length + 2) (n := 200) (v := -1) (qs := L ++ logS L.length) (Q := Kc sc d 3 37 40 [some (vR L.length)] [] Q) (by unfold logS; simp [List.getD]) (by unfold logS; simp) (by decide)
  have kg : Kc sc d 3 37 40 [some (vR L.length)] [] Q (Sum.inl none) (bH (L ++ logS L.length) (fl σ (L.length + 2) 0 200 (-1))) ↔ Q (.inl none) (bH (L ++ logS L.length) (fl σ (L.length + 2) 0 200 (-1))) := by
    simp (disch := first | decide | rfl | assumption | exact hz _ (by omega) | omega | exact hz1 _ (by omega) | (rw [su_ne (by omega)]; exact hz1 _ (by omega)) | (intro id hid; exact hz id (by omega)) | (intro id hid; exact hz1 id (by omega)) | (intro id hid; rw [su_ne (by omega)]; exact hz1 id (by omega)) | (intro id hid hid2; exact hz id (by omega)) | (intro id hid hid2; exact hz1 id (by omega)) | (intro id hid hid2; rw [su_ne (by omega)]; exact hz1 id (by omega)) | exact ho _ | exact oBn | exact oB | exact notL_I | exact notL_N | exact notL_R | exact catS_le (Nat.le_of_ble_eq_true rfl) | exact Nat.le_of_ble_eq_true rfl | (refine id ?_; simp only [lk2, List.nil_append, List.cons_append, Option.isSome]; done)) only [x3_0, x3_1, x3_4, x3_5, x3_6, x3_9, x3_10, x3_11, x3_14, x3_15, x3_18, x3_20, x3_23, x3_24, x3_27, x3_29, x3_32, x3_33, x3_36, x3_37, x3_40, Kc_none]
  rw [e]
  refine Iff.trans ?_ (Iff.trans kf kg)
  simp (disch := first | decide | rfl | assumption | exact hz _ (by omega) | omega | exact hz1 _ (by omega) | (rw [su_ne (by omega)]; exact hz1 _ (by omega)) | (intro id hid; exact hz id (by omega)) | (intro id hid; exact hz1 id (by omega)) | (intro id hid; rw [su_ne (by omega)]; exact hz1 id (by omega)) | (intro id hid hid2; exact hz id (by omega)) | (intro id hid hid2; exact hz1 id (by omega)) | (intro id hid hid2; rw [su_ne (by omega)]; exact hz1 id (by omega)) | exact ho _ | exact oBn | exact oB | exact notL_I | exact notL_N | exact notL_R | exact catS_le (Nat.le_of_ble_eq_true rfl) | exact Nat.le_of_ble_eq_true rfl | (refine id ?_; simp only [lk2, List.nil_append, List.cons_append, Option.isSome]; done)) only [x3_0, x3_1, x3_4, x3_5, x3_6, x3_9, x3_10, x3_11, x3_14, x3_15, x3_18, x3_20, x3_23, x3_24, x3_27, x3_29, x3_32, x3_33, x3_36, x3_37, x3_40, Pf_bi, su_z, Nw_a, Pf_br, Gf_br]
  exact Iff.rfl
end Cc
