/-! the constructors of the class's pieces, and of a hall -/
section Cd
variable {sc : Scr} {d : Nat}
theorem k_rule (hd : 1 ≤ d) : Ct sc d 6 8 [] 7 ruleS ruleP := by
  refine ⟨fun _ => rfl, fun L σ Q hz => ?_⟩
  have hz1 : ∀ id, L.length + 1 ≤ id → ∀ {k x : Int}, su σ L.length k x id = z0 := fun id h {k x} => by rw [su_ne (by omega)]; exact hz id (by omega)
  have n1 := fun (L R : List Sh) (o : Sh) (σ : St) (Q : Rs → HS → Prop) hz => (k_atoms (sc := sc) (d := d - 1)).nest (L := L) (R := R) (o := o) (σ := σ) (Q := Q) hz
  have e : wn σ L.length 7 ruleP = su (su (su σ L.length 0 2) L.length 3 (-1)) L.length 4 (-1) := by
    funext id j
    unfold wn
    by_cases h1 : id = L.length
    · subst h1
      rw [if_pos (by omega), Nat.sub_self, su_at, su_at, su_at, hz _ (Nat.le_refl _)]
      show (if j = 0 then (2 : Int) else if j = 3 ∨ j = 4 then -1 else 0) = if j = 4 then -1 else if j = 3 then -1 else if j = 0 then 2 else 0
      by_cases j0 : j = 0
      · rw [if_pos j0, if_neg (by omega), if_neg (by omega), if_pos j0]
      · rw [if_neg j0]
        by_cases j4 : j = 4
        · rw [if_pos (Or.inr j4), if_pos j4]
        · by_cases j3 : j = 3
          · rw [if_pos (Or.inl j3), if_neg j4, if_pos j3]
          · rw [if_neg (by omega), if_neg j4, if_neg j3, if_neg j0]
    · rw [su_ne h1, su_ne h1, su_ne h1]
      by_cases h2 : L.length ≤ id ∧ id < L.length + 7
      · rw [if_pos h2, hz id h2.1]
        show (if id - L.length = 0 then _ else (0 : Int)) = 0
        rw [if_neg (by omega)]
      · rw [if_neg h2]
  rw [e]
  simp (disch := first | decide | rfl | assumption | exact hz _ (by omega) | omega | exact hz1 _ (by omega) | (rw [su_ne (by omega)]; exact hz1 _ (by omega)) | (intro id hid; exact hz id (by omega)) | (intro id hid; exact hz1 id (by omega)) | (intro id hid; rw [su_ne (by omega)]; exact hz1 id (by omega)) | (intro id hid hid2; exact hz id (by omega)) | (intro id hid hid2; exact hz1 id (by omega)) | (intro id hid hid2; rw [su_ne (by omega)]; exact hz1 id (by omega)) | exact ho _ | exact oBn | exact oB | exact notL_I | exact notL_N | exact notL_R | exact catS_le (Nat.le_of_ble_eq_true rfl) | exact Nat.le_of_ble_eq_true rfl | (refine id ?_; simp only [lk2, List.nil_append, List.cons_append, Option.isSome]; done)) only [x6_0, x6_1, x6_4, x6_5, x6_6, x6_9, x6_10, x6_13I, x6_13, x6_14, x6_17, x6_20, x6_21, x6_24I, x6_24, x6_25, x6_28, x6_31, x6_32, x6_33, x6_36, x6_37, x6_38, x6_41, Pf_bi, Nw_o, n1, wn_z, Pf_br, Kc_none]
  exact Iff.rfl
theorem k_par (hd : 1 ≤ d) : Ct sc d 7 6 [] 7 parS parP := by
  refine ⟨fun _ => rfl, fun L σ Q hz => ?_⟩
  have hz1 : ∀ id, L.length + 1 ≤ id → ∀ {k x : Int}, su σ L.length k x id = z0 := fun id h {k x} => by rw [su_ne (by omega)]; exact hz id (by omega)
  have n1 := fun (L R : List Sh) (o : Sh) (σ : St) (Q : Rs → HS → Prop) hz => (k_tok (sc := sc) (d := d - 1)).nest (L := L) (R := R) (o := o) (σ := σ) (Q := Q) hz
  have e : wn σ L.length 7 parP = su (su σ L.length 1 (-1)) L.length 3 0 := by
    funext id j
    unfold wn
    by_cases h1 : id = L.length
    · subst h1
      rw [if_pos (by omega), Nat.sub_self, su_at, su_at, hz _ (Nat.le_refl _)]
      show (if j = 1 then (-1 : Int) else 0) = if j = 3 then 0 else if j = 1 then -1 else 0
      by_cases j3 : j = 3
      · rw [if_neg (by omega), if_pos j3]
      · rw [if_neg j3]
    · rw [su_ne h1, su_ne h1]
      by_cases h2 : L.length ≤ id ∧ id < L.length + 7
      · rw [if_pos h2, hz id h2.1]
        show (if id - L.length = 0 then _ else (0 : Int)) = 0
        rw [if_neg (by omega)]
      · rw [if_neg h2]
  rw [e]
  simp (disch := first | decide | rfl | assumption | exact hz _ (by omega) | omega | exact hz1 _ (by omega) | (rw [su_ne (by omega)]; exact hz1 _ (by omega)) | (intro id hid; exact hz id (by omega)) | (intro id hid; exact hz1 id (by omega)) | (intro id hid; rw [su_ne (by omega)]; exact hz1 id (by omega)) | (intro id hid hid2; exact hz id (by omega)) | (intro id hid hid2; exact hz1 id (by omega)) | (intro id hid hid2; rw [su_ne (by omega)]; exact hz1 id (by omega)) | exact ho _ | exact oBn | exact oB | exact notL_I | exact notL_N | exact notL_R | exact catS_le (Nat.le_of_ble_eq_true rfl) | exact Nat.le_of_ble_eq_true rfl | (refine id ?_; simp only [lk2, List.nil_append, List.cons_append, Option.isSome]; done)) only [x7_0, x7_1, x7_4, x7_5, x7_6, x7_9, x7_10, x7_11, x7_14, x7_15, x7_16, x7_18, x7_21, x7_22, x7_23, x7_26, x7_27, x7_30I, x7_30, x7_31, x7_34, x7_37, x7_38, x7_39, x7_41, x7_44, Pf_bi, su_z, Nw_a, Nw_o, n1, wn_z, Pf_br, Kc_none]
  exact Iff.rfl
theorem k_lead (hd : 1 ≤ d) : Ct sc d 10 4 [] 5 leadS leadP := by
  refine ⟨fun _ => rfl, fun L σ Q hz => ?_⟩
  have e : wn σ L.length 5 leadP = fl σ (L.length + 1) 0 100 (-1) := by
    funext id j
    unfold wn
    by_cases h2 : id = L.length + 1
    · subst h2
      rw [if_pos (by omega), fl_at, show L.length + 1 - L.length = 1 by omega, hz _ (by omega)]
      rfl
    · rw [fl_ne h2]
      by_cases h1 : L.length ≤ id ∧ id < L.length + 5
      · rw [if_pos h1, hz id h1.1]
        show (if id - L.length = 1 then _ else (0 : Int)) = 0
        rw [if_neg (by omega)]
      · rw [if_neg h1]
  have kf := k_fill (sc := sc) (d := d - 1) (σ := σ) (a := L.length + 1) (n := 100) (v := -1) (qs := L ++ leadS L.length) (Q := Kc sc d 10 51 54 [some (vR L.length)] [] Q) (by unfold leadS; simp [List.getD]) (by unfold leadS; simp) (by decide)
  have kg : Kc sc d 10 51 54 [some (vR L.length)] [] Q (Sum.inl none) (bH (L ++ leadS L.length) (fl σ (L.length + 1) 0 100 (-1))) ↔ Q (.inl none) (bH (L ++ leadS L.length) (fl σ (L.length + 1) 0 100 (-1))) := by
    simp (disch := first | decide | rfl | assumption | exact hz _ (by omega) | omega | exact hz1 _ (by omega) | (rw [su_ne (by omega)]; exact hz1 _ (by omega)) | (intro id hid; exact hz id (by omega)) | (intro id hid; exact hz1 id (by omega)) | (intro id hid; rw [su_ne (by omega)]; exact hz1 id (by omega)) | (intro id hid hid2; exact hz id (by omega)) | (intro id hid hid2; exact hz1 id (by omega)) | (intro id hid hid2; rw [su_ne (by omega)]; exact hz1 id (by omega)) | exact ho _ | exact oBn | exact oB | exact notL_I | exact notL_N | exact notL_R | exact catS_le (Nat.le_of_ble_eq_true rfl) | exact Nat.le_of_ble_eq_true rfl | (refine id ?_; simp only [lk2, List.nil_append, List.cons_append, Option.isSome]; done)) only [x10_0, x10_1, x10_4, x10_5, x10_7, x10_9, x10_12, x10_13, x10_15, x10_17, x10_20, x10_21, x10_22, x10_25, x10_26, x10_28, x10_30, x10_33, x10_34, x10_36, x10_38, x10_41, x10_42, x10_43, x10_46, x10_47, x10_50, x10_51, x10_54, Kc_none]
  rw [e]
  refine Iff.trans ?_ (Iff.trans kf kg)
  simp (disch := first | decide | rfl | assumption | exact hz _ (by omega) | omega | exact hz1 _ (by omega) | (rw [su_ne (by omega)]; exact hz1 _ (by omega)) | (intro id hid; exact hz id (by omega)) | (intro id hid; exact hz1 id (by omega)) | (intro id hid; rw [su_ne (by omega)]; exact hz1 id (by omega)) | (intro id hid hid2; exact hz id (by omega)) | (intro id hid hid2; exact hz1 id (by omega)) | (intro id hid hid2; rw [su_ne (by omega)]; exact hz1 id (by omega)) | exact ho _ | exact oBn | exact oB | exact notL_I | exact notL_N | exact notL_R | exact catS_le (Nat.le_of_ble_eq_true rfl) | exact Nat.le_of_ble_eq_true rfl | (refine id ?_; simp only [lk2, List.nil_append, List.cons_append, Option.isSome]; done)) only [x10_0, x10_1, x10_4, x10_5, x10_7, x10_9, x10_12, x10_13, x10_15, x10_17, x10_20, x10_21, x10_22, x10_25, x10_26, x10_28, x10_30, x10_33, x10_34, x10_36, x10_38, x10_41, x10_42, x10_43, x10_46, x10_47, x10_50, x10_51, x10_54, Pf_bi, su_z, Nw_a, Pf_br, Gf_br]
  exact Iff.rfl
theorem k_fin (hd : 1 ≤ d) : Ct sc d 9 2 [] 6 finS finP := by
  refine ⟨fun _ => rfl, fun L σ Q hz => ?_⟩
  have e : wn σ L.length 6 finP = fl (su (su σ L.length 6 (-1)) L.length 7 0) (L.length + 1) 0 26 (-1) := by
    funext id j
    unfold wn
    by_cases h2 : id = L.length + 1
    · subst h2
      rw [if_pos (by omega), fl_at, show L.length + 1 - L.length = 1 by omega, su_ne (by omega), su_ne (by omega), hz _ (by omega)]
      rfl
    · rw [fl_ne h2]
      by_cases h1 : id = L.length
      · subst h1
        rw [if_pos (by omega), Nat.sub_self, su_at, su_at, hz _ (Nat.le_refl _)]
        show (if j = 6 then (-1 : Int) else 0) = if j = 7 then 0 else if j = 6 then -1 else 0
        by_cases j3 : j = 7
        · rw [if_neg (by omega), if_pos j3]
        · rw [if_neg j3]
      · rw [su_ne h1, su_ne h1]
        by_cases h3 : L.length ≤ id ∧ id < L.length + 6
        · rw [if_pos h3, hz id h3.1]
          show (if id - L.length = 0 then _ else if id - L.length = 1 then _ else (0 : Int)) = 0
          rw [if_neg (by omega), if_neg (by omega)]
        · rw [if_neg h3]
  have kf := k_fill (sc := sc) (d := d - 1) (σ := su (su σ L.length 6 (-1)) L.length 7 0) (a := L.length + 1) (n := 26) (v := -1) (qs := L ++ finS L.length) (Q := Kc sc d 9 61 64 [some (vR L.length)] [] Q) (by unfold finS; simp [List.getD]) (by unfold finS; simp) (by decide)
  have kg : ∀ τ, Kc sc d 9 61 64 [some (vR L.length)] [] Q (Sum.inl none) (bH (L ++ finS L.length) τ) ↔ Q (.inl none) (bH (L ++ finS L.length) τ) := by
    intro τ
    simp (disch := first | decide | rfl | assumption | exact hz _ (by omega) | omega | exact hz1 _ (by omega) | (rw [su_ne (by omega)]; exact hz1 _ (by omega)) | (intro id hid; exact hz id (by omega)) | (intro id hid; exact hz1 id (by omega)) | (intro id hid; rw [su_ne (by omega)]; exact hz1 id (by omega)) | (intro id hid hid2; exact hz id (by omega)) | (intro id hid hid2; exact hz1 id (by omega)) | (intro id hid hid2; rw [su_ne (by omega)]; exact hz1 id (by omega)) | exact ho _ | exact oBn | exact oB | exact notL_I | exact notL_N | exact notL_R | exact catS_le (Nat.le_of_ble_eq_true rfl) | exact Nat.le_of_ble_eq_true rfl | (refine id ?_; simp only [lk2, List.nil_append, List.cons_append, Option.isSome]; done)) only [x9_0, x9_1, x9_4, x9_5, x9_7, x9_9, x9_12, x9_13, x9_15, x9_17, x9_20, x9_21, x9_22, x9_25, x9_26, x9_27, x9_29, x9_32, x9_33, x9_34, x9_36, x9_39, x9_40, x9_41, x9_43, x9_46, x9_47, x9_48, x9_51, x9_52, x9_53, x9_56, x9_57, x9_60, x9_61, x9_64, Kc_none]
  rw [e]
  refine Iff.trans ?_ (Iff.trans kf (kg _))
  simp (disch := first | decide | rfl | assumption | exact hz _ (by omega) | omega | exact hz1 _ (by omega) | (rw [su_ne (by omega)]; exact hz1 _ (by omega)) | (intro id hid; exact hz id (by omega)) | (intro id hid; exact hz1 id (by omega)) | (intro id hid; rw [su_ne (by omega)]; exact hz1 id (by omega)) | (intro id hid hid2; exact hz id (by omega)) | (intro id hid hid2; exact hz1 id (by omega)) | (intro id hid hid2; rw [su_ne (by omega)]; exact hz1 id (by omega)) | exact ho _ | exact oBn | exact oB | exact notL_I | exact notL_N | exact notL_R | exact catS_le (Nat.le_of_ble_eq_true rfl) | exact Nat.le_of_ble_eq_true rfl | (refine id ?_; simp only [lk2, List.nil_append, List.cons_append, Option.isSome]; done)) only [x9_0, x9_1, x9_4, x9_5, x9_7, x9_9, x9_12, x9_13, x9_15, x9_17, x9_20, x9_21, x9_22, x9_25, x9_26, x9_27, x9_29, x9_32, x9_33, x9_34, x9_36, x9_39, x9_40, x9_41, x9_43, x9_46, x9_47, x9_48, x9_51, x9_52, x9_53, x9_56, x9_57, x9_60, x9_61, x9_64, Pf_bi, su_z, Nw_a, Pf_br, Gf_br]
  exact Iff.rfl
end Cd
/-- a hall -/
def wr (b : Nat) : Nat → List (Nat × Nat)
  | 0 => []
  | i + 1 => wr b i ++ [(i, b + 14 + 7 * i)]
def ruls (b : Nat) : Nat → List Sh
  | 0 => []
  | i + 1 => ruls b i ++ ruleS (b + 14 + 7 * i)
def hallO (b : Nat) : Sh := (2, 3, 0, [(2, b + 1), (3, b + 2), (4, b + 3), (5, b + 8), (6, b + 11)])
def hallR (b i : Nat) : List Sh := rowsS (b + 3) ++ (logS (b + 8) ++ (atomsS (b + 11) ++ ruls b i))
def hallT (b i : Nat) : List Sh := (0, 0, 26, []) :: (1, 8, 10, wr b i) :: hallR b i
def hallS (b : Nat) : List Sh := hallO b :: hallT b 10
def hallP (o : Nat) (j : Int) : Int := if o = 10 then mP 200 j else if 14 ≤ o ∧ o < 84 then ruleP ((o - 14) % 7) j else 0
theorem ruls_len {b : Nat} : ∀ i, (ruls b i).length = 7 * i := by
  intro i
  induction i with
  | zero => rfl
  | succ i ih =>
    rw [ruls, List.length_append, ih]
    show 7 * i + 7 = _
    omega
theorem hallR_len {b i : Nat} : (hallR b i).length = 11 + 7 * i := by
  unfold hallR
  rw [List.length_append, List.length_append, List.length_append, ruls_len]
  show 5 + (3 + (3 + 7 * i)) = _
  omega
theorem hallT_len {b i : Nat} : (hallT b i).length = 13 + 7 * i := by
  unfold hallT
  rw [List.length_cons, List.length_cons, hallR_len]
  omega
theorem wr_none {b : Nat} : ∀ i k, i ≤ k → lk2 (wr b i) k = none := by
  intro i
  induction i with
  | zero => intro k _; rfl
  | succ i ih =>
    intro k h
    rw [wr, lk2_app _ _ (ih i (Nat.le_refl _)), if_neg (by omega)]
    exact ih k (by omega)
section Ce
variable {sc : Scr} {d : Nat}
theorem l_hallB (hd : 2 ≤ d) {L : List Sh} {σ : St} {Q : Rs → HS → Prop} (hz0 : ∀ id, L.length ≤ id → σ id = z0) : ∀ (k i : Nat), i + k = 10 →
    (Ex sc d 1 66 [some (vR L.length), some (vI (i : Int))] [] (bH (L ++ hallO L.length :: hallT L.length i) (wn σ L.length (14 + 7 * i) hallP)) Q ↔ Q (.inl none) (bH (L ++ hallS L.length) (wn σ L.length 84 hallP))) := by
  intro k
  induction k with
  | zero =>
    intro i ik
    have hi : i = 10 := by omega
    subst hi
    rw [x1_66]
    simp (disch := first | decide | rfl | assumption | exact hz _ (by omega) | omega | exact hz1 _ (by omega) | (rw [su_ne (by omega)]; exact hz1 _ (by omega)) | (intro id hid; exact hz id (by omega)) | (intro id hid; exact hz1 id (by omega)) | (intro id hid; rw [su_ne (by omega)]; exact hz1 id (by omega)) | (intro id hid hid2; exact hz id (by omega)) | (intro id hid hid2; exact hz1 id (by omega)) | (intro id hid hid2; rw [su_ne (by omega)]; exact hz1 id (by omega)) | exact ho _ | exact oBn | exact oB | exact notL_I | exact notL_N | exact notL_R | exact catS_le (Nat.le_of_ble_eq_true rfl) | exact Nat.le_of_ble_eq_true rfl | (refine id ?_; simp only [lk2, List.nil_append, List.cons_append, Option.isSome]; done)) only [x1_0, x1_1, x1_4, x1_5, x1_6, x1_9, x1_10, x1_11, x1_14, x1_15, x1_17, x1_19, x1_22, x1_23, x1_25, x1_28, x1_31, x1_32, x1_35I, x1_35, x1_36, x1_39, x1_42, x1_43, x1_46I, x1_46, x1_47, x1_50, x1_53, x1_54, x1_57I, x1_57, x1_58, x1_61, x1_64, x1_65, x1_67, x1_69, x1_72, x1_73, x1_76, x1_77, x1_80I, x1_80, x1_81, x1_84, x1_85, x1_88, x1_91, if_pos, if_neg, ↓reduceIte, not_true_eq_false, not_false_eq_true]
    exact Iff.rfl
  | succ k ih =>
    intro i ik
    have h := ih (i + 1) (by omega)
    rw [show ((i + 1 : Nat) : Int) = (i : Int) + 1 by omega] at h
    generalize hS : wn σ L.length (14 + 7 * i) hallP = S at *
    have aid : L.length + ((((0, 0, 26, []) : Sh) :: ((1, 8, 10, wr L.length i) : Sh) :: hallR L.length i).length + 1) = L.length + 14 + 7 * i := by
      rw [List.length_cons, List.length_cons, hallR_len]
      omega
    have hz1 : ∀ id, L.length + ((((0, 0, 26, []) : Sh) :: ((1, 8, 10, wr L.length i) : Sh) :: hallR L.length i).length + 1) ≤ id → S id = z0 := fun id h => by
      rw [aid] at h
      rw [← hS, wn_out (by omega)]
      exact hz0 id (by omega)
    have n1 := fun (L R : List Sh) (o : Sh) (σ : St) (Q : Rs → HS → Prop) hz => (k_rule (sc := sc) (d := d - 1) (by omega)).nest (L := L) (R := R) (o := o) (σ := σ) (Q := Q) hz
    have hw : lk2 (wr L.length i) ((i : Int)).toNat = none := wr_none _ _ (by omega)
    have ho : ∀ τ : St, isObj (bH (L ++ hallO L.length :: ((((0, 0, 26, []) : Sh) :: ((1, 8, 10, wr L.length i) : Sh) :: hallR L.length i) ++ ruleS (L.length + ((((0, 0, 26, []) : Sh) :: ((1, 8, 10, wr L.length i) : Sh) :: hallR L.length i).length + 1)))) τ) 8 (vR (L.length + ((((0, 0, 26, []) : Sh) :: ((1, 8, 10, wr L.length i) : Sh) :: hallR L.length i).length + 1))) = true := fun τ => oBn (c := 8) (m := 0) (R := ((0, 0, 26, []) : Sh) :: ((1, 8, 10, wr L.length i) : Sh) :: hallR L.length i)
    have gl : ∀ f, Gf (bH (L ++ hallO L.length :: (((0, 0, 26, []) : Sh) :: ((1, 8, 10, wr L.length i) : Sh) :: hallR L.length i)) S) 3 L.length 3 f = f (vR (L.length + 2)) := fun f => Gf_br (c := 3) (k := 3) rfl
    have st : ∀ f, Sr (bH (L ++ hallO L.length :: ((((0, 0, 26, []) : Sh) :: ((1, 8, 10, wr L.length i) : Sh) :: hallR L.length i) ++ ruleS (L.length + ((((0, 0, 26, []) : Sh) :: ((1, 8, 10, wr L.length i) : Sh) :: hallR L.length i).length + 1)))) (wn S (L.length + ((((0, 0, 26, []) : Sh) :: ((1, 8, 10, wr L.length i) : Sh) :: hallR L.length i).length + 1)) 7 ruleP)) (L.length + 2) (i : Int) (L.length + ((((0, 0, 26, []) : Sh) :: ((1, 8, 10, wr L.length i) : Sh) :: hallR L.length i).length + 1)) f = f (bH (L ++ hallO L.length :: hallT L.length (i + 1)) (wn σ L.length (14 + 7 * (i + 1)) hallP)) := by
      intro f
      rw [Sr_2 (Or.inr rfl) (by omega) (by omega) (by decide) hw (ho _)]
      congr 2
      · unfold hallT
        rw [List.cons_append, List.cons_append, wr, aid]
        have e1 : hallR L.length i ++ ruleS (L.length + 14 + 7 * i) = hallR L.length (i + 1) := by
          unfold hallR
          rw [ruls]
          simp only [List.append_assoc]
        rw [e1]
        rfl
      · rw [aid, ← hS]
        funext id j
        unfold wn
        by_cases h1 : L.length + 14 + 7 * i ≤ id ∧ id < L.length + 14 + 7 * i + 7
        · rw [if_pos h1, if_pos (by omega)]
          unfold hallP
          rw [if_neg (by omega), if_pos (by omega), show (id - L.length - 14) % 7 = id - (L.length + 14 + 7 * i) by omega]
        · rw [if_neg h1]
          by_cases h2 : L.length ≤ id ∧ id < L.length + (14 + 7 * i)
          · rw [if_pos h2, if_pos (by omega)]
          · rw [if_neg h2, if_neg (by omega)]
    rw [x1_66]
    have e0 : bH (L ++ hallO L.length :: hallT L.length i) S = bH (L ++ hallO L.length :: (((0, 0, 26, []) : Sh) :: ((1, 8, 10, wr L.length i) : Sh) :: hallR L.length i)) S := rfl
    simp (disch := first | decide | rfl | assumption | exact hz _ (by omega) | omega | exact hz1 _ (by omega) | (rw [su_ne (by omega)]; exact hz1 _ (by omega)) | (intro id hid; exact hz id (by omega)) | (intro id hid; exact hz1 id (by omega)) | (intro id hid; rw [su_ne (by omega)]; exact hz1 id (by omega)) | (intro id hid hid2; exact hz id (by omega)) | (intro id hid hid2; exact hz1 id (by omega)) | (intro id hid hid2; rw [su_ne (by omega)]; exact hz1 id (by omega)) | exact ho _ | exact oBn | exact oB | exact notL_I | exact notL_N | exact notL_R | exact catS_le (Nat.le_of_ble_eq_true rfl) | exact Nat.le_of_ble_eq_true rfl | (refine id ?_; simp only [lk2, List.nil_append, List.cons_append, Option.isSome]; done)) only [x1_0, x1_1, x1_4, x1_5, x1_6, x1_9, x1_10, x1_11, x1_14, x1_15, x1_17, x1_19, x1_22, x1_23, x1_25, x1_28, x1_31, x1_32, x1_35I, x1_35, x1_36, x1_39, x1_42, x1_43, x1_46I, x1_46, x1_47, x1_50, x1_53, x1_54, x1_57I, x1_57, x1_58, x1_61, x1_64, x1_65, x1_67, x1_69, x1_72, x1_73, x1_76, x1_77, x1_80I, x1_80, x1_81, x1_84, x1_85, x1_88, x1_91, gl, e0, Nw_o, n1, st, Kc_none, if_pos, if_neg, ↓reduceIte, not_true_eq_false, not_false_eq_true]
    exact h
/-- one piece of a hall made: new, its constructor, its field -/
theorem k_hall (hd : 2 ≤ d) : Ct sc d 1 3 [none] 84 hallS hallP := by
  refine ⟨fun b => by unfold hallS; rw [List.length_cons, hallT_len], fun L σ Q hz => ?_⟩
  have n1 := fun (L R : List Sh) (o : Sh) (σ : St) (Q : Rs → HS → Prop) hz => (k_rows (sc := sc) (d := d - 1)).nest (L := L) (R := R) (o := o) (σ := σ) (Q := Q) hz
  have n2 := fun (L R : List Sh) (o : Sh) (σ : St) (Q : Rs → HS → Prop) hz => (k_log (sc := sc) (d := d - 1) (by omega)).nest (L := L) (R := R) (o := o) (σ := σ) (Q := Q) hz
  have n3 := fun (L R : List Sh) (o : Sh) (σ : St) (Q : Rs → HS → Prop) hz => (k_atoms (sc := sc) (d := d - 1)).nest (L := L) (R := R) (o := o) (σ := σ) (Q := Q) hz
  have p1 : Ex sc d 1 0 [some (vR L.length), none] [] (bH (L ++ [(2, 3, 0, [])]) σ) Q ↔ Ex sc d 1 42 [some (vR L.length), none] [] (bH (L ++ (2, 3, 0, [(2, L.length + 1), (3, L.length + 2), (4, L.length + 3)]) :: (0, 0, 26, []) :: (1, 8, 10, []) :: rowsS (L.length + 3)) σ) Q := by
    simp (disch := first | decide | rfl | assumption | exact hz _ (by omega) | omega | exact hz1 _ (by omega) | (rw [su_ne (by omega)]; exact hz1 _ (by omega)) | (intro id hid; exact hz id (by omega)) | (intro id hid; exact hz1 id (by omega)) | (intro id hid; rw [su_ne (by omega)]; exact hz1 id (by omega)) | (intro id hid hid2; exact hz id (by omega)) | (intro id hid hid2; exact hz1 id (by omega)) | (intro id hid hid2; rw [su_ne (by omega)]; exact hz1 id (by omega)) | exact ho _ | exact oBn | exact oB | exact notL_I | exact notL_N | exact notL_R | exact catS_le (Nat.le_of_ble_eq_true rfl) | exact Nat.le_of_ble_eq_true rfl | (refine id ?_; simp only [lk2, List.nil_append, List.cons_append, Option.isSome]; done)) only [x1_0, x1_1, x1_4, x1_5, x1_6, x1_9, x1_10, x1_11, x1_14, x1_15, x1_17, x1_19, x1_22, x1_23, x1_25, x1_28, x1_31, x1_32, x1_35I, x1_35, x1_36, x1_39, x1_43, x1_46I, x1_46, x1_47, x1_50, x1_53, x1_54, x1_57I, x1_57, x1_58, x1_61, x1_64, x1_65, x1_67, x1_69, x1_72, x1_73, x1_76, x1_77, x1_80I, x1_80, x1_81, x1_84, x1_85, x1_88, x1_91, Pf_bi, su_z, Nw_a, Nw_r, Nw_o, n1, wn_z, Pf_br, Kc_none]
    exact Iff.rfl
  have p2 : Ex sc d 1 42 [some (vR L.length), none] [] (bH (L ++ (2, 3, 0, [(2, L.length + 1), (3, L.length + 2), (4, L.length + 3)]) :: (0, 0, 26, []) :: (1, 8, 10, []) :: rowsS (L.length + 3)) σ) Q ↔ Ex sc d 1 53 [some (vR L.length), none] [] (bH (L ++ (2, 3, 0, [(2, L.length + 1), (3, L.length + 2), (4, L.length + 3), (5, L.length + 8)]) :: (0, 0, 26, []) :: (1, 8, 10, []) :: (rowsS (L.length + 3) ++ logS (L.length + 8))) (wn σ L.length 14 hallP)) Q := by
    have e : wn σ (L.length + 8) 3 logP = wn σ L.length 14 hallP := by
      funext id j
      unfold wn
      by_cases h1 : L.length + 8 ≤ id ∧ id < L.length + 8 + 3
      · rw [if_pos h1, if_pos (by omega)]
        unfold logP hallP
        by_cases h2 : id = L.length + 10
        · rw [if_pos (by omega), if_pos (by omega)]
        · rw [if_neg (by omega), if_neg (by omega), if_neg (by omega)]
      · rw [if_neg h1]
        by_cases h2 : L.length ≤ id ∧ id < L.length + 14
        · rw [if_pos h2, hz id h2.1]
          unfold hallP
          rw [if_neg (by omega), if_neg (by omega)]
          rfl
        · rw [if_neg h2]
    rw [x1_42, ← e]
    simp (disch := first | decide | rfl | assumption | exact hz _ (by omega) | omega | exact hz1 _ (by omega) | (rw [su_ne (by omega)]; exact hz1 _ (by omega)) | (intro id hid; exact hz id (by omega)) | (intro id hid; exact hz1 id (by omega)) | (intro id hid; rw [su_ne (by omega)]; exact hz1 id (by omega)) | (intro id hid hid2; exact hz id (by omega)) | (intro id hid hid2; exact hz1 id (by omega)) | (intro id hid hid2; rw [su_ne (by omega)]; exact hz1 id (by omega)) | exact ho _ | exact oBn | exact oB | exact notL_I | exact notL_N | exact notL_R | exact catS_le (Nat.le_of_ble_eq_true rfl) | exact Nat.le_of_ble_eq_true rfl | (refine id ?_; simp only [lk2, List.nil_append, List.cons_append, Option.isSome]; done)) only [x1_0, x1_1, x1_4, x1_5, x1_6, x1_9, x1_10, x1_11, x1_14, x1_15, x1_17, x1_19, x1_22, x1_23, x1_25, x1_28, x1_31, x1_32, x1_35I, x1_35, x1_36, x1_39, x1_43, x1_46I, x1_46, x1_47, x1_50, x1_54, x1_57I, x1_57, x1_58, x1_61, x1_64, x1_65, x1_67, x1_69, x1_72, x1_73, x1_76, x1_77, x1_80I, x1_80, x1_81, x1_84, x1_85, x1_88, x1_91, Nw_o, n2, Pf_br, Kc_none]
    exact Iff.rfl
  have hz1 : ∀ id, L.length + 14 ≤ id → wn σ L.length 14 hallP id = z0 := fun id h => by rw [wn_out (by omega)]; exact hz id (by omega)
  have hz2 : ∀ id, L.length + 11 ≤ id → wn σ L.length 14 hallP id = z0 := fun id h => by
    by_cases h1 : id < L.length + 14
    · unfold wn
      rw [if_pos (by omega)]
      funext j
      unfold hallP
      rw [if_neg (by omega), if_neg (by omega)]
      rfl
    · exact hz1 id (by omega)
  have p3 : Ex sc d 1 53 [some (vR L.length), none] [] (bH (L ++ (2, 3, 0, [(2, L.length + 1), (3, L.length + 2), (4, L.length + 3), (5, L.length + 8)]) :: (0, 0, 26, []) :: (1, 8, 10, []) :: (rowsS (L.length + 3) ++ logS (L.length + 8))) (wn σ L.length 14 hallP)) Q ↔ Ex sc d 1 66 [some (vR L.length), some (vI 0)] [] (bH (L ++ hallO L.length :: hallT L.length 0) (wn σ L.length 14 hallP)) Q := by
    generalize wn σ L.length 14 hallP = S at *
    have hz3 : ∀ id, L.length + ((((0, 0, 26, []) : Sh) :: ((1, 8, 10, []) : Sh) :: (rowsS (L.length + 3) ++ logS (L.length + 8))).length + 1) ≤ id → S id = z0 := hz2
    rw [x1_53]
    simp (disch := first | decide | rfl | assumption | exact hz3 _ (Nat.le_refl _) | omega | (intro id hid hid2; exact hz3 id hid) | exact oBn | exact oB | exact notL_R | exact catS_le (Nat.le_of_ble_eq_true rfl) | exact Nat.le_of_ble_eq_true rfl | (refine id ?_; simp only [lk2, List.nil_append, List.cons_append, Option.isSome]; done)) only [x1_0, x1_1, x1_4, x1_5, x1_6, x1_9, x1_10, x1_11, x1_14, x1_15, x1_17, x1_19, x1_22, x1_23, x1_25, x1_28, x1_31, x1_32, x1_35I, x1_35, x1_36, x1_39, x1_43, x1_46I, x1_46, x1_47, x1_50, x1_54, x1_57I, x1_57, x1_58, x1_61, x1_64, x1_65, x1_67, x1_69, x1_72, x1_73, x1_76, x1_77, x1_80I, x1_80, x1_81, x1_84, x1_85, x1_88, x1_91, Nw_o, n3, wn_z, Pf_br, Kc_none]
    exact Iff.rfl
  have p4 := l_hallB (sc := sc) (d := d) hd (L := L) (σ := σ) (Q := Q) hz 10 0 (by omega)
  rw [p1, p2, p3]
  exact p4
end Ce
