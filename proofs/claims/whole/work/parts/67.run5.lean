/-! the whole run of the class -/
theorem rkF_len {σ : St} {b : Nat} : ∀ (k i : Nat), (rkF σ b k i).length = k := by
  intro k
  induction k with
  | zero => intro i; rfl
  | succ k ih => intro i; rw [rkF, List.length_cons, ih]
theorem rkF_get {σ : St} {b : Nat} : ∀ (k i j : Nat), j < k → (rkF σ b k i)[j]? = some (ruC σ (b + 14 + 7 * (i + j))) := by
  intro k
  induction k with
  | zero => intro i j hj; omega
  | succ k ih =>
    intro i j hj
    rw [rkF]
    cases j with
    | zero => rfl
    | succ j =>
      rw [List.getElem?_cons_succ, ih (i + 1) j (by omega)]
      congr 3
      omega
theorem rlC_len {σ : St} {b : Nat} (h : 0 ≤ σ b 1) : ((rlC σ b).length : Int) = σ b 1 := by
  unfold rlC
  rw [rkF_len]
  omega
theorem rlC_get {σ : St} {b j : Nat} (h : (j : Int) < σ b 1) : (rlC σ b)[j]? = some (ruC σ (b + 14 + 7 * j)) := by
  unfold rlC
  rw [rkF_get _ _ _ (by omega), Nat.zero_add]
section N5
variable {sc : Scr}
theorem RI.c {C : Int → Int} {b : Nat} {σ τ : St} (h : RI C b σ) (e : ∀ c, b ≤ c → c < b + 84 → τ c = σ c) : RI C b τ := by
  obtain ⟨W, hs, hr⟩ := h
  have w1 := W.2.1
  refine ⟨W.c e, by rw [rnC_c (fun c c0 c1 => e c (by omega) (by omega))]; exact hs, fun k hk => ?_⟩
  rw [e b (by omega) (by omega)] at hk
  rw [ruC_c (fun c c0 c1 => e c (by omega) (by omega))]
  exact hr k hk
theorem l_openRule {C : Int → Int} {b d turn : Nat} (o : oHa b) (hd : 10 ≤ d) : ∀ (m k : Nat) (σ : St), RI C b σ → (k : Int) + m = σ b 1 → (turn : Int) ≤ σ b 1 →
    ∃ τ, FnH σ τ ∧ ((pickF (rlC σ b) (rsC σ (b + 3)) turn m k = none ∧ ∀ (u : Bool × Nat × Nat × Int) (Q : Rs → HS → Prop) (l4 : Option V), Ex sc d 94 2 [some (vR b), some (vR 101), some (vI ((turn : Int))), some (vI ((k : Int))), l4] [] (wH σ u) Q ↔ Q (.inl (some (vI (-1)))) (wH τ u)) ∨ (∃ i r q, pickF (rlC σ b) (rsC σ (b + 3)) turn m k = some (i, r, q) ∧ opI τ (rsC σ (b + 3)) (some q) ∧ ∀ (u : Bool × Nat × Nat × Int) (Q : Rs → HS → Prop) (l4 : Option V), Ex sc d 94 2 [some (vR b), some (vR 101), some (vI ((turn : Int))), some (vI ((k : Int))), l4] [] (wH σ u) Q ↔ Q (.inl (some (vI ((i : Int))))) (wH τ u))) := by
  have hfar := oHa_far o
  intro m
  induction m with
  | zero =>
    intro k σ h hk ht
    have w1 := h.1.2.1
    refine ⟨σ, FnH.refl, Or.inl ⟨rfl, fun u Q l4 => ?_⟩⟩
    rw [x94_2]
    simp (disch := first | assumption | omega | exact notL_I | exact notL_N | exact notL_R | exact catS_le (Nat.le_of_ble_eq_true rfl) | exact Nat.le_of_ble_eq_true rfl | exact ooRo (by assumption) | exact ooAt (by assumption) | exact ooRu (by assumption) | exact ooLo (by assumption) | exact ooHa (by assumption) | exact ooLe (by assumption) | exact ooFn | exact ooAn | exact ooPa | exact ooTo | exact ooWa | exact ooCh | rfl) only [x94_0, x94_1, x94_3, x94_4, x94_7, x94_10, x94_11, x94_12, x94_13, x94_15, x94_17, x94_18, x94_21, x94_24, x94_26, x94_27, x94_30, x94_31, x94_33, x94_34, x94_36, x94_39, x94_42, x94_43, x94_44, x94_47, x94_49, x94_50, x94_51, x94_54, x94_57, x94_60, x94_62, x94_63, x94_66, x94_69, x94_70, gHa_ruleCount, if_pos, if_neg, ↓reduceIte, not_true_eq_false, not_false_eq_true]
  | succ m ih =>
    intro k σ h hk ht
    have w1 := h.1.2.1
    have lr := rlC_len (σ := σ) (b := b) w1.1
    have hmod : (turn + k) % (rlC σ b).length = if (turn : Int) + k < σ b 1 then turn + k else turn + k - (rlC σ b).length := by
      split
      · exact Nat.mod_eq_of_lt (by omega)
      · rw [Nat.mod_eq_sub_mod (by omega), Nat.mod_eq_of_lt (by omega)]
    generalize hj : (turn + k) % (rlC σ b).length = j at hmod
    have hjl : (j : Int) < σ b 1 := by rw [hmod]; split <;> omega
    have hjv : (if (turn : Int) + k < σ b 1 then (turn : Int) + k else (turn : Int) + k - σ b 1) = (j : Int) := by rw [hmod]; split <;> omega
    have hg := rlC_get (σ := σ) (b := b) (j := j) hjl
    have ou := o.ru (k := j) (by omega)
    have or := o.rows
    obtain ⟨f1, f2⟩ := h.fit hjl
    have Wu := h.1.2.2.2.2.2.2 j (by omega)
    have hr := h.2.2 j hjl
    have la := asC_len (σ := σ) (r := b + 14 + 7 * j + 1) Wu.2.2.2.1.1.1
    have hal : 1 ≤ (asC σ (b + 14 + 7 * j + 1)).length := hr.2.2.2.1.1
    obtain ⟨τ1, F1, op1, r1⟩ := s_findOpen (sc := sc) (d := d - 1) ou or (by omega) Wu h.1.2.2.2.1 (by omega) f1 f2 h.2.1.2.1 (fun w hw => (h.2.1.2.2.1 w hw).1)
    have F1o : ∀ c, b ≤ c → c < b + 84 → τ1 c = σ c := fun c c0 c1 => F1 c (by omega)
    have ers : rsC τ1 (b + 3) = rsC σ (b + 3) := F1.rs or
    have erl : rlC τ1 b = rlC σ b := by
      unfold rlC
      rw [F1o b (by omega) (by omega)]
      exact rkF_c _ _ (fun j j0 j1 => ruC_c (fun c c0 c1 => F1o c (by omega) (by omega)))
    have hxt : (j : Int).toNat = j := Int.toNat_natCast j
    rw [pickF, hj, hg]
    dsimp only
    cases ho : openL (ruC σ (b + 14 + 7 * j)) (rsC σ (b + 3)) with
    | none =>
      rw [ho] at r1
      have r1' : ∀ (u : Bool × Nat × Nat × Int) (Q : Rs → HS → Prop), _ := r1
      obtain ⟨τ, G1, G2⟩ := ih (k + 1) τ1 (h.c F1o) (by rw [F1o b (by omega) (by omega)]; omega) (by rw [F1o b (by omega) (by omega)]; exact ht)
      rw [erl, ers] at G2
      have step : ∀ (u : Bool × Nat × Nat × Int) (Q : Rs → HS → Prop) (l4 : Option V), Ex sc d 94 2 [some (vR b), some (vR 101), some (vI ((turn : Int))), some (vI ((k : Int))), l4] [] (wH σ u) Q ↔ Ex sc d 94 2 [some (vR b), some (vR 101), some (vI ((turn : Int))), some (vI (((k + 1 : Nat) : Int))), some (vI ((j : Int)))] [] (wH τ1 u) Q := by
        intro u Q l4
        have hb0 : bI (none : Option (List Rw)).isSome = 0 := rfl
        have ek : (k : Int) + 1 = ((k + 1 : Nat) : Int) := by omega
        have hr0 : 0 ≤ (j : Int) ∧ (j : Int) < σ b 1 := by omega
        rw [x94_2]
        by_cases hlt : (turn : Int) + k < σ b 1
        · rw [if_pos hlt] at hjv
          simp (disch := first | assumption | omega | exact notL_I | exact notL_N | exact notL_R | exact catS_le (Nat.le_of_ble_eq_true rfl) | exact Nat.le_of_ble_eq_true rfl | exact ooRo (by assumption) | exact ooAt (by assumption) | exact ooRu (by assumption) | exact ooLo (by assumption) | exact ooHa (by assumption) | exact ooLe (by assumption) | exact ooFn | exact ooAn | exact ooPa | exact ooTo | exact ooWa | exact ooCh | rfl) only [x94_0, x94_1, x94_3, x94_4, x94_7, x94_10, x94_11, x94_12, x94_13, x94_15, x94_17, x94_18, x94_21, x94_24, x94_26, x94_27, x94_30, x94_31, x94_33, x94_34, x94_36, x94_39, x94_42, x94_43, x94_44, x94_47, x94_49, x94_50, x94_51, x94_54, x94_57, x94_60, x94_62, x94_63, x94_66, x94_69, x94_70, gHa_ruleCount, gHa_rules, gHa_rows, hjv, s_hasRule, if_pos hr0, Rr_rules, hxt, r1' u, hb0, ek, Kc_some, if_pos, if_neg, ↓reduceIte, not_true_eq_false, not_false_eq_true]
        · rw [if_neg hlt] at hjv
          simp (disch := first | assumption | omega | exact notL_I | exact notL_N | exact notL_R | exact catS_le (Nat.le_of_ble_eq_true rfl) | exact Nat.le_of_ble_eq_true rfl | exact ooRo (by assumption) | exact ooAt (by assumption) | exact ooRu (by assumption) | exact ooLo (by assumption) | exact ooHa (by assumption) | exact ooLe (by assumption) | exact ooFn | exact ooAn | exact ooPa | exact ooTo | exact ooWa | exact ooCh | rfl) only [x94_0, x94_1, x94_3, x94_4, x94_7, x94_10, x94_11, x94_12, x94_13, x94_15, x94_17, x94_18, x94_21, x94_24, x94_26, x94_27, x94_30, x94_31, x94_33, x94_34, x94_36, x94_39, x94_42, x94_43, x94_44, x94_47, x94_49, x94_50, x94_51, x94_54, x94_57, x94_60, x94_62, x94_63, x94_66, x94_69, x94_70, gHa_ruleCount, gHa_rules, gHa_rows, hjv, s_hasRule, if_pos hr0, Rr_rules, hxt, r1' u, hb0, ek, Kc_some, if_pos, if_neg, ↓reduceIte, not_true_eq_false, not_false_eq_true]
      refine ⟨τ, F1.trans G1, ?_⟩
      rcases G2 with ⟨g1, g2⟩ | ⟨i, r, q, g1, g2, g3⟩
      · exact Or.inl ⟨g1, fun u Q l4 => (step u Q l4).trans (g2 u Q _)⟩
      · exact Or.inr ⟨i, r, q, g1, g2, fun u Q l4 => (step u Q l4).trans (g3 u Q _)⟩
    | some q =>
      rw [ho] at r1 op1
      have r1' : ∀ (u : Bool × Nat × Nat × Int) (Q : Rs → HS → Prop), _ := r1
      refine ⟨τ1, F1, Or.inr ⟨j, _, q, rfl, op1, fun u Q l4 => ?_⟩⟩
      have hb1 : bI (some q : Option (List Rw)).isSome = 1 := rfl
      have hr0 : 0 ≤ (j : Int) ∧ (j : Int) < σ b 1 := by omega
      rw [x94_2]
      by_cases hlt : (turn : Int) + k < σ b 1
      · rw [if_pos hlt] at hjv
        simp (disch := first | assumption | omega | exact notL_I | exact notL_N | exact notL_R | exact catS_le (Nat.le_of_ble_eq_true rfl) | exact Nat.le_of_ble_eq_true rfl | exact ooRo (by assumption) | exact ooAt (by assumption) | exact ooRu (by assumption) | exact ooLo (by assumption) | exact ooHa (by assumption) | exact ooLe (by assumption) | exact ooFn | exact ooAn | exact ooPa | exact ooTo | exact ooWa | exact ooCh | rfl) only [x94_0, x94_1, x94_3, x94_4, x94_7, x94_10, x94_11, x94_12, x94_13, x94_15, x94_17, x94_18, x94_21, x94_24, x94_26, x94_27, x94_30, x94_31, x94_33, x94_34, x94_36, x94_39, x94_42, x94_43, x94_44, x94_47, x94_49, x94_50, x94_51, x94_54, x94_57, x94_60, x94_62, x94_63, x94_66, x94_69, x94_70, gHa_ruleCount, gHa_rules, gHa_rows, hjv, s_hasRule, if_pos hr0, Rr_rules, hxt, r1' u, hb1, Kc_some, if_pos, if_neg, ↓reduceIte, not_true_eq_false, not_false_eq_true]
      · rw [if_neg hlt] at hjv
        simp (disch := first | assumption | omega | exact notL_I | exact notL_N | exact notL_R | exact catS_le (Nat.le_of_ble_eq_true rfl) | exact Nat.le_of_ble_eq_true rfl | exact ooRo (by assumption) | exact ooAt (by assumption) | exact ooRu (by assumption) | exact ooLo (by assumption) | exact ooHa (by assumption) | exact ooLe (by assumption) | exact ooFn | exact ooAn | exact ooPa | exact ooTo | exact ooWa | exact ooCh | rfl) only [x94_0, x94_1, x94_3, x94_4, x94_7, x94_10, x94_11, x94_12, x94_13, x94_15, x94_17, x94_18, x94_21, x94_24, x94_26, x94_27, x94_30, x94_31, x94_33, x94_34, x94_36, x94_39, x94_42, x94_43, x94_44, x94_47, x94_49, x94_50, x94_51, x94_54, x94_57, x94_60, x94_62, x94_63, x94_66, x94_69, x94_70, gHa_ruleCount, gHa_rules, gHa_rows, hjv, s_hasRule, if_pos hr0, Rr_rules, hxt, r1' u, hb1, Kc_some, if_pos, if_neg, ↓reduceIte, not_true_eq_false, not_false_eq_true]
theorem stepA_len {ri : Int} {r : Ru} {q : List Rw} {s : Rn} : (stepA ri r q s).2 = 0 ∧ (stepA ri r q s).1.2.2.2.1.length = s.2.2.2.1.length + 1 ∨ (stepA ri r q s).2 = 2 ∧ (stepA ri r q s).1.2.2.2.1.length = s.2.2.2.1.length + 1 ∨ (stepA ri r q s).2 = 3 := by
  unfold stepA makeA meltA
  dsimp only
  split
  · split
    · exact Or.inr (Or.inr rfl)
    · split
      · exact Or.inr (Or.inr rfl)
      · exact Or.inl ⟨rfl, by simp⟩
  · split
    · split
      · exact Or.inr (Or.inl ⟨rfl, by simp⟩)
      · exact Or.inl ⟨rfl, by simp⟩
    · exact Or.inr (Or.inl ⟨rfl, by simp⟩)
theorem l_chase {C : Int → Int} {b d : Nat} {most : Nat} (o : oHa b) (hd : 11 ≤ d) (hm : most ≤ 100) : ∀ (k f turn made : Nat) (σ : St), made + k = most → k < f → (turn : Int) ≤ σ b 1 → RI C b σ → σ (b + 8) 1 = (made : Int) →
    ∃ τ, FrH b σ τ ∧ WfHa τ b ∧ rnC τ b = (runF (rlC σ b) most f turn (rnC σ b)).1 ∧ τ (b + 8) 0 = (runF (rlC σ b) most f turn (rnC σ b)).2 ∧ ∀ (u : Bool × Nat × Nat × Int) (Q : Rs → HS → Prop) (l6 : Option V), Ex sc d 93 15 [some (vR b), some (vR 101), some (vI ((most : Int))), some (vI 0), some (vI ((turn : Int))), some (vI ((made : Int))), l6] [] (wH σ u) Q ↔ Q (.inl (some (vI ((runF (rlC σ b) most f turn (rnC σ b)).2)))) (wH τ u) := by
  have hfar := oHa_far o
  have ol := o.log
  intro k
  induction k with
  | zero =>
    intro f turn made σ hmk hkf ht h hmade
    cases f with
    | zero => omega
    | succ f =>
      have w1 := h.1.2.1
      have wl := h.1.2.2.2.2.1
      have lr := rlC_len (σ := σ) (b := b) w1.1
      have ls := stC_len (σ := σ) (l := b + 8) wl.2.1.1
      obtain ⟨τ1, F1, G⟩ := l_openRule (sc := sc) (d := d - 1) (turn := turn) o (by omega) (rlC σ b).length 0 σ h (by omega) ht
      have F1o : ∀ c, b ≤ c → c < b + 84 → τ1 c = σ c := fun c c0 c1 => F1 c (by omega)
      have er : rnC τ1 b = rnC σ b := rnC_c (fun c c0 c1 => F1o c (by omega) (by omega))
      have W1 := h.1.c F1o
      have fin : ∀ x : Int, 0 ≤ x → x ≤ 3 → FrH b σ (su τ1 (b + 8) 0 x) ∧ WfHa (su τ1 (b + 8) 0 x) b ∧ rnC (su τ1 (b + 8) 0 x) b = rnC σ b ∧ su τ1 (b + 8) 0 x (b + 8) 0 = x := by
        intro x x0 x3
        have FH : FrH b σ (su τ1 (b + 8) 0 x) := F1.fh.trans (fun c _ e => su_ne (by omega))
        refine ⟨FH, WfHa.run o h.1 FH (W1.2.2.2.1.c (fun c c0 c1 => su_ne (by omega))) ?_ (W1.2.2.2.2.2.1.c (by rw [su_ne (by omega)]) (su_ne (by omega)) (su_ne (by omega))), ?_, su_eq⟩
        · obtain ⟨q0, q1, q2, q3⟩ := W1.2.2.2.2.1
          exact ⟨by rw [su_eq]; omega, by rw [su_off (by omega)]; exact q1, by rw [su_ne (by omega)]; exact q2, by rw [su_ne (by omega)]; exact q3⟩
        · rw [← er]
          unfold rnC stC naC byC
          rw [rsC_c (σ := τ1) (r := b + 3) (fun c c0 c1 => su_ne (by omega)), su_ne (by omega), su_ne (by omega), su_off (by omega), skF_c (su_ne (by omega)), su_ne (by omega)]
      have hst : (rnC σ b).2.2.2.1.length = most := by show (stC σ (b + 8)).length = most; omega
      have rsL : (rnC σ b).1 = rsC σ (b + 3) := rfl
      rcases G with ⟨g1, g2⟩ | ⟨i, r, q, g1, g2, g3⟩
      · have e : runF (rlC σ b) most (f + 1) turn (rnC σ b) = (rnC σ b, 1) := by rw [runF, rsL, g1]
        rw [e]
        obtain ⟨y1, y2, y3, y4⟩ := fin 1 (by omega) (by omega)
        refine ⟨su τ1 (b + 8) 0 1, y1, y2, y3, y4, fun u Q l6 => ?_⟩
        have g2' := fun Q => g2 u Q none
        rw [Int.natCast_zero] at g2'
        have en : ∀ Q, Ex sc (d - 1) 94 0 [some (vR b), some (vR 101), some (vI ((turn : Int))), none, none] [] (wH σ u) Q ↔ Q (.inl (some (vI (-1)))) (wH τ1 u) := fun Q => by
          refine Iff.trans ?_ (g2' Q)
          simp (disch := first | assumption | omega | exact notL_I | exact notL_N | exact notL_R | exact catS_le (Nat.le_of_ble_eq_true rfl) | exact Nat.le_of_ble_eq_true rfl | exact ooRo (by assumption) | exact ooAt (by assumption) | exact ooRu (by assumption) | exact ooLo (by assumption) | exact ooHa (by assumption) | exact ooLe (by assumption) | exact ooFn | exact ooAn | exact ooPa | exact ooTo | exact ooWa | exact ooCh | rfl) only [x94_0, x94_1]
        rw [x93_15]
        simp (disch := first | assumption | omega | exact notL_I | exact notL_N | exact notL_R | exact catS_le (Nat.le_of_ble_eq_true rfl) | exact Nat.le_of_ble_eq_true rfl | exact ooRo (by assumption) | exact ooAt (by assumption) | exact ooRu (by assumption) | exact ooLo (by assumption) | exact ooHa (by assumption) | exact ooLe (by assumption) | exact ooFn | exact ooAn | exact ooPa | exact ooTo | exact ooWa | exact ooCh | rfl) only [x93_0, x93_1, x93_4, x93_7, x93_8, x93_9, x93_10, x93_12, x93_13, x93_17, x93_18, x93_21, x93_22, x93_25, x93_26, x93_27, x93_29, x93_32, x93_34, x93_36, x93_37, x93_40, x93_41, x93_42, x93_45, x93_47, x93_48, x93_51, x93_52, x93_53, x93_56, x93_57, x93_58, x93_60, x93_63, x93_64, x93_66, x93_67, x93_68, x93_70, x93_73, x93_76, x93_77, x93_80, x93_81, x93_84, x93_85, en, Kc_some, gHa_log, pLo_state, x93_15, if_pos, if_neg, ↓reduceIte, not_true_eq_false, not_false_eq_true]
      · have e : runF (rlC σ b) most (f + 1) turn (rnC σ b) = (rnC σ b, 3) := by
          rw [runF, rsL, g1]
          dsimp only
          rw [if_pos hst]
        rw [e]
        obtain ⟨y1, y2, y3, y4⟩ := fin 3 (by omega) (by omega)
        refine ⟨su τ1 (b + 8) 0 3, y1, y2, y3, y4, fun u Q l6 => ?_⟩
        have g3' := fun Q => g3 u Q none
        rw [Int.natCast_zero] at g3'
        have hi : (i : Int) < σ b 1 := by
          have := (List.getElem?_eq_some_iff.mp (pick_mem _ _ _ _ _ g1).1).1
          omega
        have en : ∀ Q, Ex sc (d - 1) 94 0 [some (vR b), some (vR 101), some (vI ((turn : Int))), none, none] [] (wH σ u) Q ↔ Q (.inl (some (vI (i : Int)))) (wH τ1 u) := fun Q => by
          refine Iff.trans ?_ (g3' Q)
          simp (disch := first | assumption | omega | exact notL_I | exact notL_N | exact notL_R | exact catS_le (Nat.le_of_ble_eq_true rfl) | exact Nat.le_of_ble_eq_true rfl | exact ooRo (by assumption) | exact ooAt (by assumption) | exact ooRu (by assumption) | exact ooLo (by assumption) | exact ooHa (by assumption) | exact ooLe (by assumption) | exact ooFn | exact ooAn | exact ooPa | exact ooTo | exact ooWa | exact ooCh | rfl) only [x94_0, x94_1]
        rw [x93_15]
        simp (disch := first | assumption | omega | exact notL_I | exact notL_N | exact notL_R | exact catS_le (Nat.le_of_ble_eq_true rfl) | exact Nat.le_of_ble_eq_true rfl | exact ooRo (by assumption) | exact ooAt (by assumption) | exact ooRu (by assumption) | exact ooLo (by assumption) | exact ooHa (by assumption) | exact ooLe (by assumption) | exact ooFn | exact ooAn | exact ooPa | exact ooTo | exact ooWa | exact ooCh | rfl) only [x93_0, x93_1, x93_4, x93_7, x93_8, x93_9, x93_10, x93_12, x93_13, x93_17, x93_18, x93_21, x93_22, x93_25, x93_26, x93_27, x93_29, x93_32, x93_34, x93_36, x93_37, x93_40, x93_41, x93_42, x93_45, x93_47, x93_48, x93_51, x93_52, x93_53, x93_56, x93_57, x93_58, x93_60, x93_63, x93_64, x93_66, x93_67, x93_68, x93_70, x93_73, x93_76, x93_77, x93_80, x93_81, x93_84, x93_85, en, Kc_some, gHa_log, pLo_state, x93_15, if_pos, if_neg, ↓reduceIte, not_true_eq_false, not_false_eq_true]
  | succ k ih =>
    intro f turn made σ hmk hkf ht h hmade
    cases f with
    | zero => omega
    | succ f =>
      have w1 := h.1.2.1
      have wl := h.1.2.2.2.2.1
      have lr := rlC_len (σ := σ) (b := b) w1.1
      have ls := stC_len (σ := σ) (l := b + 8) wl.2.1.1
      obtain ⟨τ1, F1, G⟩ := l_openRule (sc := sc) (d := d - 1) (turn := turn) o (by omega) (rlC σ b).length 0 σ h (by omega) ht
      have F1o : ∀ c, b ≤ c → c < b + 84 → τ1 c = σ c := fun c c0 c1 => F1 c (by omega)
      have er : rnC τ1 b = rnC σ b := rnC_c (fun c c0 c1 => F1o c (by omega) (by omega))
      have W1 := h.1.c F1o
      have fin : ∀ (ρ : St) (x : Int), FrH b σ ρ → WfHa ρ b → 0 ≤ x → x ≤ 3 → FrH b σ (su ρ (b + 8) 0 x) ∧ WfHa (su ρ (b + 8) 0 x) b ∧ rnC (su ρ (b + 8) 0 x) b = rnC ρ b ∧ su ρ (b + 8) 0 x (b + 8) 0 = x := by
        intro ρ x FR WR x0 x3
        have FH : FrH b σ (su ρ (b + 8) 0 x) := FR.trans (fun c _ e => su_ne (by omega))
        refine ⟨FH, WfHa.run o h.1 FH (WR.2.2.2.1.c (fun c c0 c1 => su_ne (by omega))) ?_ (WR.2.2.2.2.2.1.c (by rw [su_ne (by omega)]) (su_ne (by omega)) (su_ne (by omega))), ?_, su_eq⟩
        · obtain ⟨q0, q1, q2, q3⟩ := WR.2.2.2.2.1
          exact ⟨by rw [su_eq]; omega, by rw [su_off (by omega)]; exact q1, by rw [su_ne (by omega)]; exact q2, by rw [su_ne (by omega)]; exact q3⟩
        · unfold rnC stC naC byC
          rw [rsC_c (σ := ρ) (r := b + 3) (fun c c0 c1 => su_ne (by omega)), su_ne (by omega), su_ne (by omega), su_off (by omega), skF_c (su_ne (by omega)), su_ne (by omega)]
      have hst : ¬ (rnC σ b).2.2.2.1.length = most := by show ¬ (stC σ (b + 8)).length = most; omega
      have rsL : (rnC σ b).1 = rsC σ (b + 3) := rfl
      rcases G with ⟨g1, g2⟩ | ⟨i, r, q, g1, g2, g3⟩
      · have e : runF (rlC σ b) most (f + 1) turn (rnC σ b) = (rnC σ b, 1) := by rw [runF, rsL, g1]
        rw [e]
        obtain ⟨y1, y2, y3, y4⟩ := fin τ1 1 F1.fh W1 (by omega) (by omega)
        refine ⟨su τ1 (b + 8) 0 1, y1, y2, y3.trans er, y4, fun u Q l6 => ?_⟩
        have g2' := fun Q => g2 u Q none
        rw [Int.natCast_zero] at g2'
        have en : ∀ Q, Ex sc (d - 1) 94 0 [some (vR b), some (vR 101), some (vI ((turn : Int))), none, none] [] (wH σ u) Q ↔ Q (.inl (some (vI (-1)))) (wH τ1 u) := fun Q => by
          refine Iff.trans ?_ (g2' Q)
          simp (disch := first | assumption | omega | exact notL_I | exact notL_N | exact notL_R | exact catS_le (Nat.le_of_ble_eq_true rfl) | exact Nat.le_of_ble_eq_true rfl | exact ooRo (by assumption) | exact ooAt (by assumption) | exact ooRu (by assumption) | exact ooLo (by assumption) | exact ooHa (by assumption) | exact ooLe (by assumption) | exact ooFn | exact ooAn | exact ooPa | exact ooTo | exact ooWa | exact ooCh | rfl) only [x94_0, x94_1]
        rw [x93_15]
        simp (disch := first | assumption | omega | exact notL_I | exact notL_N | exact notL_R | exact catS_le (Nat.le_of_ble_eq_true rfl) | exact Nat.le_of_ble_eq_true rfl | exact ooRo (by assumption) | exact ooAt (by assumption) | exact ooRu (by assumption) | exact ooLo (by assumption) | exact ooHa (by assumption) | exact ooLe (by assumption) | exact ooFn | exact ooAn | exact ooPa | exact ooTo | exact ooWa | exact ooCh | rfl) only [x93_0, x93_1, x93_4, x93_7, x93_8, x93_9, x93_10, x93_12, x93_13, x93_17, x93_18, x93_21, x93_22, x93_25, x93_26, x93_27, x93_29, x93_32, x93_34, x93_36, x93_37, x93_40, x93_41, x93_42, x93_45, x93_47, x93_48, x93_51, x93_52, x93_53, x93_56, x93_57, x93_58, x93_60, x93_63, x93_64, x93_66, x93_67, x93_68, x93_70, x93_73, x93_76, x93_77, x93_80, x93_81, x93_84, x93_85, en, Kc_some, gHa_log, pLo_state, x93_15, if_pos, if_neg, ↓reduceIte, not_true_eq_false, not_false_eq_true]
      · obtain ⟨pm1, pm2⟩ := pick_mem _ _ _ _ _ g1
        have hi : (i : Int) < σ b 1 := by
          have := (List.getElem?_eq_some_iff.mp pm1).1
          omega
        have hri : r = ruC σ (b + 14 + 7 * i) := by
          rw [rlC_get hi] at pm1
          exact (Option.some.inj pm1).symm
        subst hri
        have eu1 : ruC τ1 (b + 14 + 7 * i) = ruC σ (b + 14 + 7 * i) := ruC_c (fun c c0 c1 => F1o c (by omega) (by omega))
        have ers : rsC τ1 (b + 3) = rsC σ (b + 3) := congrArg Prod.fst er
        have hRI1 := h.c F1o
        have hit : (i : Int).toNat = i := Int.toNat_natCast i
        obtain ⟨τ2, kk, F2, W2, e2, s2, r2⟩ := s_takeStep (sc := sc) (d := d - 1) (σ := τ1) (x := (i : Int)) (q := q) (C := C) o (by omega) hRI1 (by omega) (by rw [F1o b (by omega) (by omega)]; exact hi) (by rw [F1o _ (by omega) (by omega)]; omega) (by rw [ers]; exact g2) (by rw [hit, eu1, ers]; exact pm2)
        rw [hit, eu1, er] at e2
        have ek : (stepA (i : Int) (ruC σ (b + 14 + 7 * i)) q (rnC σ b)).2 = kk := (congrArg Prod.snd e2).symm
        have en2 : rnC τ2 b = (stepA (i : Int) (ruC σ (b + 14 + 7 * i)) q (rnC σ b)).1 := congrArg Prod.fst e2
        obtain ⟨β, hβ, _⟩ := openL_mem pm2
        have hok2 : okS C (rnC τ2 b) := by rw [en2]; exact stepA_ok (h.2.2 i hi) h.2.1 hβ
        have FH2 : FrH b σ τ2 := F1.fh.trans F2
        have g3' := fun u Q => g3 u Q none
        rw [Int.natCast_zero] at g3'
        have en : ∀ u Q, Ex sc (d - 1) 94 0 [some (vR b), some (vR 101), some (vI ((turn : Int))), none, none] [] (wH σ u) Q ↔ Q (.inl (some (vI (i : Int)))) (wH τ1 u) := fun u Q => by
          refine Iff.trans ?_ (g3' u Q)
          simp (disch := first | assumption | omega | exact notL_I | exact notL_N | exact notL_R | exact catS_le (Nat.le_of_ble_eq_true rfl) | exact Nat.le_of_ble_eq_true rfl | exact ooRo (by assumption) | exact ooAt (by assumption) | exact ooRu (by assumption) | exact ooLo (by assumption) | exact ooHa (by assumption) | exact ooLe (by assumption) | exact ooFn | exact ooAn | exact ooPa | exact ooTo | exact ooWa | exact ooCh | rfl) only [x94_0, x94_1]
        have rrun : runF (rlC σ b) most (f + 1) turn (rnC σ b) = if kk = 0 then runF (rlC σ b) most f (i + 1) (rnC τ2 b) else (rnC τ2 b, kk) := by
          rw [runF, rsL, g1]
          dsimp only
          rw [if_neg hst, ek, en2]
        rw [rrun]
        rcases stepA_len (ri := (i : Int)) (r := ruC σ (b + 14 + 7 * i)) (q := q) (s := rnC σ b) with ⟨z1, z2⟩ | ⟨z1, z2⟩ | z1
        · rw [ek] at z1
          subst z1
          rw [if_pos rfl]
          have lm : τ2 (b + 8) 1 = ((made + 1 : Nat) : Int) := by
            have l2 := stC_len (σ := τ2) (l := b + 8) W2.2.2.2.2.1.2.1.1
            have : (stC τ2 (b + 8)).length = (stC σ (b + 8)).length + 1 := by
              show (rnC τ2 b).2.2.2.1.length = _
              rw [en2]
              exact z2
            omega
          have hRI2 : RI C b τ2 := ⟨W2, hok2, fun k hk => by
            rw [FH2.hd o b (by omega)] at hk
            rw [FH2.ru o (by omega)]
            exact h.2.2 k hk⟩
          obtain ⟨τ, y1, y2, y3, y4, y5⟩ := ih f (i + 1) (made + 1) τ2 (by omega) (by omega) (by rw [FH2.hd o b (by omega)]; omega) hRI2 lm
          rw [FH2.rl o h.1] at y3 y4 y5
          refine ⟨τ, FH2.trans y1, y2, y3, y4, fun u Q l6 => ?_⟩
          have y6 := y5 u Q (some (vI (i : Int)))
          have c1 : (i : Int) + 1 = ((i + 1 : Nat) : Int) := by omega
          have c2 : (made : Int) + 1 = ((made + 1 : Nat) : Int) := by omega
          rw [x93_15]
          simp (disch := first | assumption | omega | exact notL_I | exact notL_N | exact notL_R | exact catS_le (Nat.le_of_ble_eq_true rfl) | exact Nat.le_of_ble_eq_true rfl | exact ooRo (by assumption) | exact ooAt (by assumption) | exact ooRu (by assumption) | exact ooLo (by assumption) | exact ooHa (by assumption) | exact ooLe (by assumption) | exact ooFn | exact ooAn | exact ooPa | exact ooTo | exact ooWa | exact ooCh | rfl) only [x93_0, x93_1, x93_4, x93_7, x93_8, x93_9, x93_10, x93_12, x93_13, x93_17, x93_18, x93_21, x93_22, x93_25, x93_26, x93_27, x93_29, x93_32, x93_34, x93_36, x93_37, x93_40, x93_41, x93_42, x93_45, x93_47, x93_48, x93_51, x93_52, x93_53, x93_56, x93_57, x93_58, x93_60, x93_63, x93_64, x93_66, x93_67, x93_68, x93_70, x93_73, x93_76, x93_77, x93_80, x93_81, x93_84, x93_85, en u, r2 u, Kc_some, c1, c2, if_pos, if_neg, ↓reduceIte, not_true_eq_false, not_false_eq_true]
          exact y6
        · rw [ek] at z1
          subst z1
          rw [if_neg (by omega)]
          obtain ⟨y1, y2, y3, y4⟩ := fin τ2 2 FH2 W2 (by omega) (by omega)
          refine ⟨su τ2 (b + 8) 0 2, y1, y2, y3, y4, fun u Q l6 => ?_⟩
          rw [x93_15]
          simp (disch := first | assumption | omega | exact notL_I | exact notL_N | exact notL_R | exact catS_le (Nat.le_of_ble_eq_true rfl) | exact Nat.le_of_ble_eq_true rfl | exact ooRo (by assumption) | exact ooAt (by assumption) | exact ooRu (by assumption) | exact ooLo (by assumption) | exact ooHa (by assumption) | exact ooLe (by assumption) | exact ooFn | exact ooAn | exact ooPa | exact ooTo | exact ooWa | exact ooCh | rfl) only [x93_0, x93_1, x93_4, x93_7, x93_8, x93_9, x93_10, x93_12, x93_13, x93_17, x93_18, x93_21, x93_22, x93_25, x93_26, x93_27, x93_29, x93_32, x93_34, x93_36, x93_37, x93_40, x93_41, x93_42, x93_45, x93_47, x93_48, x93_51, x93_52, x93_53, x93_56, x93_57, x93_58, x93_60, x93_63, x93_64, x93_66, x93_67, x93_68, x93_70, x93_73, x93_76, x93_77, x93_80, x93_81, x93_84, x93_85, en u, r2 u, Kc_some, gHa_log, pLo_state, x93_15, if_pos, if_neg, ↓reduceIte, not_true_eq_false, not_false_eq_true]
        · rw [ek] at z1
          subst z1
          rw [if_neg (by omega)]
          obtain ⟨y1, y2, y3, y4⟩ := fin τ2 3 FH2 W2 (by omega) (by omega)
          refine ⟨su τ2 (b + 8) 0 3, y1, y2, y3, y4, fun u Q l6 => ?_⟩
          rw [x93_15]
          simp (disch := first | assumption | omega | exact notL_I | exact notL_N | exact notL_R | exact catS_le (Nat.le_of_ble_eq_true rfl) | exact Nat.le_of_ble_eq_true rfl | exact ooRo (by assumption) | exact ooAt (by assumption) | exact ooRu (by assumption) | exact ooLo (by assumption) | exact ooHa (by assumption) | exact ooLe (by assumption) | exact ooFn | exact ooAn | exact ooPa | exact ooTo | exact ooWa | exact ooCh | rfl) only [x93_0, x93_1, x93_4, x93_7, x93_8, x93_9, x93_10, x93_12, x93_13, x93_17, x93_18, x93_21, x93_22, x93_25, x93_26, x93_27, x93_29, x93_32, x93_34, x93_36, x93_37, x93_40, x93_41, x93_42, x93_45, x93_47, x93_48, x93_51, x93_52, x93_53, x93_56, x93_57, x93_58, x93_60, x93_63, x93_64, x93_66, x93_67, x93_68, x93_70, x93_73, x93_76, x93_77, x93_80, x93_81, x93_84, x93_85, en u, r2 u, Kc_some, gHa_log, pLo_state, x93_15, if_pos, if_neg, ↓reduceIte, not_true_eq_false, not_false_eq_true]
/-- a run of hall b, from a cleared log -/
theorem s_chase {C : Int → Int} {b d most : Nat} {σ : St} (o : oHa b) (hd : 11 ≤ d) (hm : most ≤ 100) (h : RI C b σ) :
    ∃ τ, FrH b σ τ ∧ WfHa τ b ∧ rnC τ b = (runF (rlC σ b) most 101 0 (rsC σ (b + 3), σ (b + 3) 1, naC σ (b + 3), [], fun _ => -1)).1 ∧ τ (b + 8) 0 = (runF (rlC σ b) most 101 0 (rsC σ (b + 3), σ (b + 3) 1, naC σ (b + 3), [], fun _ => -1)).2 ∧ RnA sc d 93 0 [some (vR b), some (vR 101), some (vI ((most : Int))), none, none, none, none] σ (some (vI (runF (rlC σ b) most 101 0 (rsC σ (b + 3), σ (b + 3) 1, naC σ (b + 3), [], fun _ => -1)).2)) τ := by
  have hfar := oHa_far o
  have ol := o.log
  have w1 := h.1.2.1
  obtain ⟨l1, l2, l3, l4, l5, l6⟩ := clL_v h.1.2.2.2.2.1
  have FH : FrH b σ (clL σ (b + 8)) := l1.fh (n := 8) (by omega) (by omega)
  have Wr : WfRo (clL σ (b + 8)) (b + 3) := h.1.2.2.2.1.c (fun c c0 c1 => l1 c (by omega))
  have Wp : WfAt (clL σ (b + 8)) (b + 11) := h.1.2.2.2.2.2.1.c (by rw [l1 _ (by omega)]) (l1 _ (by omega)) (l1 _ (by omega))
  have W := WfHa.run o h.1 FH Wr l2 Wp
  have en : naC (clL σ (b + 8)) (b + 3) = naC σ (b + 3) := by unfold naC; rw [l1 _ (by omega)]
  have er : rnC (clL σ (b + 8)) b = (rsC σ (b + 3), σ (b + 3) 1, naC σ (b + 3), [], fun _ => -1) := by
    unfold rnC
    rw [rsC_c (σ := σ) (fun c c0 c1 => l1 c (by omega)), l1 (b + 3) (by omega), en, l5, l6]
  have hRI : RI C b (clL σ (b + 8)) := by
    refine ⟨W, ?_, fun k hk => ?_⟩
    · rw [er]
      obtain ⟨s1, s2, s3, s4, s5, s6, s7⟩ := h.2.1
      exact ⟨s1, s2, s3, s4, s5, s6, s7⟩
    · rw [FH.hd o b (by omega)] at hk
      rw [FH.ru o (by omega)]
      exact h.2.2 k hk
  obtain ⟨τ, y1, y2, y3, y4, y5⟩ := l_chase (sc := sc) (d := d) (C := C) o hd hm most 101 0 0 (clL σ (b + 8)) (by omega) (by omega) (by rw [FH.hd o b (by omega)]; omega) hRI l4
  rw [FH.rl o h.1, er] at y3 y4 y5
  refine ⟨τ, FH.trans y1, y2, y3, y4, fun u Q => ?_⟩
  refine Iff.trans ?_ (y5 u Q none)
  simp (disch := first | assumption | omega | exact notL_I | exact notL_N | exact notL_R | exact catS_le (Nat.le_of_ble_eq_true rfl) | exact Nat.le_of_ble_eq_true rfl | exact ooRo (by assumption) | exact ooAt (by assumption) | exact ooRu (by assumption) | exact ooLo (by assumption) | exact ooHa (by assumption) | exact ooLe (by assumption) | exact ooFn | exact ooAn | exact ooPa | exact ooTo | exact ooWa | exact ooCh | rfl) only [x93_0, x93_1, x93_4, x93_7, x93_8, x93_9, x93_10, x93_12, x93_13, x93_17, x93_18, x93_21, x93_22, x93_25, x93_26, x93_27, x93_29, x93_32, x93_34, x93_36, x93_37, x93_40, x93_41, x93_42, x93_45, x93_47, x93_48, x93_51, x93_52, x93_53, x93_56, x93_57, x93_58, x93_60, x93_63, x93_64, x93_66, x93_67, x93_68, x93_70, x93_73, x93_76, x93_77, x93_80, x93_81, x93_84, x93_85, gHa_log, s_clrL, Kc_none]
  rfl
end N5
