/-! nameNew, nameEach, meltBound of the class's finder -/
def plF (f : Int → Int) : Nat → Int → List Int
  | 0, _ => []
  | k + 1, i => f i :: plF f k (i + 1)
theorem plc_flat {σ : St} {a : Nat} : ∀ (k : Nat) (p : Int), plcL (akF σ a k p) = plF (σ (a + 2)) (k * 3) (p * 3) := by
  intro k
  induction k with
  | zero => intro p; rfl
  | succ k ih =>
    intro p
    have e := ih (p + 1)
    rw [akF]
    unfold plcL at *
    rw [List.flatMap_cons, e, show (k + 1) * 3 = k * 3 + 1 + 1 + 1 by omega, plF, plF, plF, show p * 3 + 1 + 1 + 1 = (p + 1) * 3 by omega, show p * 3 + 1 + 1 = p * 3 + 2 by omega]
    rfl
theorem leF_ge {f : Int → Int} : ∀ (n : Nat) (k : Int), k ≤ leF f n k ∧ leF f n k ≤ k + n := by
  intro n
  induction n with
  | zero => intro k; rw [leF]; omega
  | succ n ih =>
    intro k
    rw [leF]
    split
    · omega
    · have := ih (k + 1)
      omega
/-- each free one gets a nameless one, in order -/
def nameE : List Int → Nat → Bd → Bd
  | [], _, β => β
  | p :: ps, n, β => if 2000 ≤ p ∧ β (p - 2000) = -1 then nameE ps (n + 1) (bup β (p - 2000) (1000 + n)) else nameE ps n β
def mbB (w b : Int) (β : Bd) : Bd := fun v => if β v ≠ -1 ∧ β v = w then b else β v
theorem TrF.free {σ : St} {n : Nat} (T : TrF σ n) {v : Int} (v0 : 0 ≤ v) (v1 : v ≤ 25) : bF σ n v = σ 102 v := T.2.1.at_ v0 (by omega)
section F7
variable {sc : Scr}
theorem l_nameNew {a r d : Nat} (oa : oAt a) (or : oRo r) (hd : 1 ≤ d) : ∀ (k : Nat) (i : Int) (σ : St) (n : Nat) (fr : Int), WfAt σ a → WfRo σ r → TrF σ n → 0 ≤ i → i + k = σ a 0 * 3 → 0 ≤ fr → fr ≤ 100 →
    (∃ β τ n', nameA (naC σ r) (plF (σ (a + 2)) k i) fr (bF σ n) = some β ∧ FnF σ τ ∧ TrF τ n' ∧ bF τ n' = β ∧ ∀ (u : Bool × Nat × Nat × Int) (Q : Rs → HS → Prop) (l5 l6 : Option V), notL l5 = true → (Ex sc d 110 5 [some (vR 101), some (vR a), some (vR r), some (vI fr), some (vI i), l5, l6] [] (wH σ u) Q ↔ Q (.inl (some (vI (1)))) (wH τ u))) ∨
    (nameA (naC σ r) (plF (σ (a + 2)) k i) fr (bF σ n) = none ∧ ∃ τ, FnF σ τ ∧ ∀ (u : Bool × Nat × Nat × Int) (Q : Rs → HS → Prop) (l5 l6 : Option V), notL l5 = true → (Ex sc d 110 5 [some (vR 101), some (vR a), some (vR r), some (vI fr), some (vI i), l5, l6] [] (wH σ u) Q ↔ Q (.inl (some (vI (0)))) (wH τ u))) := by
  intro k
  induction k with
  | zero =>
    intro i σ n fr Wa Wr T i0 ik f0 f1
    have wa := Wa.1
    refine Or.inl ⟨bF σ n, σ, n, rfl, FnF.refl, T, rfl, fun u Q l5 l6 n5 => ?_⟩
    rw [x110_5]
    simp (disch := first | assumption | omega | exact notL_I | exact notL_N | exact notL_R | exact catS_le (Nat.le_of_ble_eq_true rfl) | exact ooRo (by assumption) | exact ooAt (by assumption) | exact ooRu (by assumption) | exact ooLo (by assumption) | exact ooHa (by assumption) | exact ooLe (by assumption) | exact ooFn | exact ooAn | exact ooPa | exact ooTo | exact ooWa | exact ooCh | rfl) only [x110_0, x110_1, x110_2, x110_3, x110_7, x110_8, x110_11, x110_12, x110_13, x110_16, x110_17, x110_20, x110_22, x110_23, x110_26, x110_27, x110_29, x110_31, x110_34, x110_36, x110_38, x110_41, x110_42, x110_45, x110_47, x110_48, x110_49, x110_52, x110_53, x110_54, x110_57, x110_59, x110_61, x110_63, x110_66, x110_67, x110_68, x110_69, x110_71, x110_74, x110_76, x110_77, x110_80, x110_82, x110_83, x110_84, x110_85, x110_88, x110_91, x110_92, gAt_count, if_pos, if_neg, ↓reduceIte, not_true_eq_false, not_false_eq_true]
  | succ k ih =>
    intro i σ n fr Wa Wr T i0 ik f0 f1
    have wa := Wa.1
    have wp := Wa.2.2 i i0 (by omega)
    rw [plF, nameA]
    by_cases hf : 2000 ≤ σ (a + 2) i ∧ bF σ n (σ (a + 2) i - 2000) = -1
    · rw [if_pos hf]
      have hv : σ 102 (σ (a + 2) i - 2000) = -1 := by rw [← T.free (by omega) (by omega)]; exact hf.2
      have hle := leF_ge (f := naC σ r) (100 - fr).toNat fr
      generalize hlv : leF (naC σ r) (100 - fr).toNat fr = lv at hle
      by_cases h100 : 100 ≤ lv
      · rw [if_pos h100]
        refine Or.inr ⟨rfl, σ, FnF.refl, fun u Q l5 l6 n5 => ?_⟩
        rw [x110_5]
        simp (disch := first | assumption | omega | exact notL_I | exact notL_N | exact notL_R | exact catS_le (Nat.le_of_ble_eq_true rfl) | exact ooRo (by assumption) | exact ooAt (by assumption) | exact ooRu (by assumption) | exact ooLo (by assumption) | exact ooHa (by assumption) | exact ooLe (by assumption) | exact ooFn | exact ooAn | exact ooPa | exact ooTo | exact ooWa | exact ooCh | rfl) only [x110_0, x110_1, x110_2, x110_3, x110_7, x110_8, x110_11, x110_12, x110_13, x110_16, x110_17, x110_20, x110_22, x110_23, x110_26, x110_27, x110_29, x110_31, x110_34, x110_36, x110_38, x110_41, x110_42, x110_45, x110_47, x110_48, x110_49, x110_52, x110_53, x110_54, x110_57, x110_59, x110_61, x110_63, x110_66, x110_67, x110_68, x110_69, x110_71, x110_74, x110_76, x110_77, x110_80, x110_82, x110_83, x110_84, x110_85, x110_88, x110_91, x110_92, gAt_count, gAt_place, RAt_place, gFn_bound, RFn_bound, hv, s_leastU, hlv, Kc_some, if_pos, if_neg, ↓reduceIte, not_true_eq_false, not_false_eq_true]
      · rw [if_neg h100]
        obtain ⟨b1, b2, b3, b4⟩ := bind_v (x := 1000 + lv) T (v := σ (a + 2) i - 2000) (by omega) (by omega) hv (by omega)
        have ea : bdS σ n (σ (a + 2) i - 2000) (1000 + lv) (a + 2) = σ (a + 2) := (b1.at_ oa).2.2
        have en : naC (bdS σ n (σ (a + 2) i - 2000) (1000 + lv)) r = naC σ r := by unfold naC; rw [b1.ro or (r + 4) (by omega) (by omega)]
        rcases ih (i + 1) (bdS σ n (σ (a + 2) i - 2000) (1000 + lv)) (n + 1) (lv + 1) (b1.wa oa Wa) (b1.wr or Wr) b2 (by omega) (by rw [(b1.at_ oa).1]; omega) (by omega) (by omega) with ⟨β, τ, n', q1, q2, q3, q4, q5⟩ | ⟨q1, τ, q2, q5⟩
        · rw [ea, en, b4] at q1
          refine Or.inl ⟨β, τ, n', q1, b1.trans q2, q3, q4, fun u Q l5 l6 n5 => ?_⟩
          have q6 := q5 u Q (some (vI (σ (a + 2) i - 2000))) (some (vI lv)) notL_I
          rw [x110_5]
          simp (disch := first | assumption | omega | exact notL_I | exact notL_N | exact notL_R | exact catS_le (Nat.le_of_ble_eq_true rfl) | exact ooRo (by assumption) | exact ooAt (by assumption) | exact ooRu (by assumption) | exact ooLo (by assumption) | exact ooHa (by assumption) | exact ooLe (by assumption) | exact ooFn | exact ooAn | exact ooPa | exact ooTo | exact ooWa | exact ooCh | rfl) only [x110_0, x110_1, x110_2, x110_3, x110_7, x110_8, x110_11, x110_12, x110_13, x110_16, x110_17, x110_20, x110_22, x110_23, x110_26, x110_27, x110_29, x110_31, x110_34, x110_36, x110_38, x110_41, x110_42, x110_45, x110_47, x110_48, x110_49, x110_52, x110_53, x110_54, x110_57, x110_59, x110_61, x110_63, x110_66, x110_67, x110_68, x110_69, x110_71, x110_74, x110_76, x110_77, x110_80, x110_82, x110_83, x110_84, x110_85, x110_88, x110_91, x110_92, gAt_count, gAt_place, RAt_place, gFn_bound, RFn_bound, hv, s_leastU, hlv, Kc_some, Kc_none, s_bind T, if_pos, if_neg, ↓reduceIte, not_true_eq_false, not_false_eq_true]
          exact q6
        · rw [ea, en, b4] at q1
          refine Or.inr ⟨q1, τ, b1.trans q2, fun u Q l5 l6 n5 => ?_⟩
          have q6 := q5 u Q (some (vI (σ (a + 2) i - 2000))) (some (vI lv)) notL_I
          rw [x110_5]
          simp (disch := first | assumption | omega | exact notL_I | exact notL_N | exact notL_R | exact catS_le (Nat.le_of_ble_eq_true rfl) | exact ooRo (by assumption) | exact ooAt (by assumption) | exact ooRu (by assumption) | exact ooLo (by assumption) | exact ooHa (by assumption) | exact ooLe (by assumption) | exact ooFn | exact ooAn | exact ooPa | exact ooTo | exact ooWa | exact ooCh | rfl) only [x110_0, x110_1, x110_2, x110_3, x110_7, x110_8, x110_11, x110_12, x110_13, x110_16, x110_17, x110_20, x110_22, x110_23, x110_26, x110_27, x110_29, x110_31, x110_34, x110_36, x110_38, x110_41, x110_42, x110_45, x110_47, x110_48, x110_49, x110_52, x110_53, x110_54, x110_57, x110_59, x110_61, x110_63, x110_66, x110_67, x110_68, x110_69, x110_71, x110_74, x110_76, x110_77, x110_80, x110_82, x110_83, x110_84, x110_85, x110_88, x110_91, x110_92, gAt_count, gAt_place, RAt_place, gFn_bound, RFn_bound, hv, s_leastU, hlv, Kc_some, Kc_none, s_bind T, if_pos, if_neg, ↓reduceIte, not_true_eq_false, not_false_eq_true]
          exact q6
    · rw [if_neg hf]
      have step : ∀ (u : Bool × Nat × Nat × Int) (Q : Rs → HS → Prop) (l5 l6 : Option V), notL l5 = true → (Ex sc d 110 5 [some (vR 101), some (vR a), some (vR r), some (vI fr), some (vI i), l5, l6] [] (wH σ u) Q ↔ Ex sc d 110 5 [some (vR 101), some (vR a), some (vR r), some (vI fr), some (vI (i + 1)), some (vI (σ (a + 2) i - 2000)), l6] [] (wH σ u) Q) := by
        intro u Q l5 l6 n5
        rw [x110_5]
        by_cases h2 : 2000 ≤ σ (a + 2) i
        · have hv : ¬ σ 102 (σ (a + 2) i - 2000) = -1 := fun z => hf ⟨h2, by rw [T.free (by omega) (by omega)]; exact z⟩
          have hin := T.2.2 (σ (a + 2) i - 2000) (by omega) (by omega)
          simp (disch := first | assumption | omega | exact notL_I | exact notL_N | exact notL_R | exact catS_le (Nat.le_of_ble_eq_true rfl) | exact ooRo (by assumption) | exact ooAt (by assumption) | exact ooRu (by assumption) | exact ooLo (by assumption) | exact ooHa (by assumption) | exact ooLe (by assumption) | exact ooFn | exact ooAn | exact ooPa | exact ooTo | exact ooWa | exact ooCh | rfl) only [x110_0, x110_1, x110_2, x110_3, x110_7, x110_8, x110_11, x110_12, x110_13, x110_16, x110_17, x110_20, x110_22, x110_23, x110_26, x110_27, x110_29, x110_31, x110_34, x110_36, x110_38, x110_41, x110_42, x110_45, x110_47, x110_48, x110_49, x110_52, x110_53, x110_54, x110_57, x110_59, x110_61, x110_63, x110_66, x110_67, x110_68, x110_69, x110_71, x110_74, x110_76, x110_77, x110_80, x110_82, x110_83, x110_84, x110_85, x110_88, x110_91, x110_92, gAt_count, gAt_place, RAt_place, gFn_bound, RFn_bound, if_pos, if_neg, ↓reduceIte, not_true_eq_false, not_false_eq_true]
        · simp (disch := first | assumption | omega | exact notL_I | exact notL_N | exact notL_R | exact catS_le (Nat.le_of_ble_eq_true rfl) | exact ooRo (by assumption) | exact ooAt (by assumption) | exact ooRu (by assumption) | exact ooLo (by assumption) | exact ooHa (by assumption) | exact ooLe (by assumption) | exact ooFn | exact ooAn | exact ooPa | exact ooTo | exact ooWa | exact ooCh | rfl) only [x110_0, x110_1, x110_2, x110_3, x110_7, x110_8, x110_11, x110_12, x110_13, x110_16, x110_17, x110_20, x110_22, x110_23, x110_26, x110_27, x110_29, x110_31, x110_34, x110_36, x110_38, x110_41, x110_42, x110_45, x110_47, x110_48, x110_49, x110_52, x110_53, x110_54, x110_57, x110_59, x110_61, x110_63, x110_66, x110_67, x110_68, x110_69, x110_71, x110_74, x110_76, x110_77, x110_80, x110_82, x110_83, x110_84, x110_85, x110_88, x110_91, x110_92, gAt_count, gAt_place, RAt_place, if_pos, if_neg, ↓reduceIte, not_true_eq_false, not_false_eq_true]
      rcases ih (i + 1) σ n fr Wa Wr T (by omega) (by omega) f0 f1 with ⟨β, τ, n', q1, q2, q3, q4, q5⟩ | ⟨q1, τ, q2, q5⟩
      · exact Or.inl ⟨β, τ, n', q1, q2, q3, q4, fun u Q l5 l6 n5 => (step u Q l5 l6 n5).trans (q5 u Q _ l6 notL_I)⟩
      · exact Or.inr ⟨q1, τ, q2, fun u Q l5 l6 n5 => (step u Q l5 l6 n5).trans (q5 u Q _ l6 notL_I)⟩
theorem s_nameNew {a r d : Nat} {σ : St} {n : Nat} (oa : oAt a) (or : oRo r) (hd : 1 ≤ d) (Wa : WfAt σ a) (Wr : WfRo σ r) (T : TrF σ n) :
    (∃ β τ n', nameA (naC σ r) (plcL (asC σ a)) 0 (bF σ n) = some β ∧ FnF σ τ ∧ TrF τ n' ∧ bF τ n' = β ∧ RnA sc d 110 0 [some (vR 101), some (vR a), some (vR r), none, none, none, none] σ (some (vI 1)) τ) ∨
    (nameA (naC σ r) (plcL (asC σ a)) 0 (bF σ n) = none ∧ ∃ τ, FnF σ τ ∧ RnA sc d 110 0 [some (vR 101), some (vR a), some (vR r), none, none, none, none] σ (some (vI 0)) τ) := by
  have wa := Wa.1
  have ep : plcL (asC σ a) = plF (σ (a + 2)) ((σ a 0).toNat * 3) 0 := plc_flat (σ := σ) (a := a) (σ a 0).toNat 0
  rw [ep]
  rcases l_nameNew (sc := sc) (d := d) oa or hd ((σ a 0).toNat * 3) 0 σ n 0 Wa Wr T (by omega) (by omega) (by omega) (by omega) with ⟨β, τ, n', q1, q2, q3, q4, q5⟩ | ⟨q1, τ, q2, q5⟩
  · refine Or.inl ⟨β, τ, n', q1, q2, q3, q4, fun u Q => ?_⟩
    refine Iff.trans ?_ (q5 u Q none none notL_N)
    simp (disch := first | assumption | omega | exact notL_I | exact notL_N | exact notL_R | exact catS_le (Nat.le_of_ble_eq_true rfl) | exact ooRo (by assumption) | exact ooAt (by assumption) | exact ooRu (by assumption) | exact ooLo (by assumption) | exact ooHa (by assumption) | exact ooLe (by assumption) | exact ooFn | exact ooAn | exact ooPa | exact ooTo | exact ooWa | exact ooCh | rfl) only [x110_0, x110_1, x110_2, x110_3]
  · refine Or.inr ⟨q1, τ, q2, fun u Q => ?_⟩
    refine Iff.trans ?_ (q5 u Q none none notL_N)
    simp (disch := first | assumption | omega | exact notL_I | exact notL_N | exact notL_R | exact catS_le (Nat.le_of_ble_eq_true rfl) | exact ooRo (by assumption) | exact ooAt (by assumption) | exact ooRu (by assumption) | exact ooLo (by assumption) | exact ooHa (by assumption) | exact ooLe (by assumption) | exact ooFn | exact ooAn | exact ooPa | exact ooTo | exact ooWa | exact ooCh | rfl) only [x110_0, x110_1, x110_2, x110_3]
theorem l_nameEach {a d : Nat} (oa : oAt a) (hd : 1 ≤ d) : ∀ (k : Nat) (i : Int) (σ : St) (n : Nat), WfAt σ a → TrF σ n → 0 ≤ i → i + k = σ a 0 * 3 →
    ∃ τ n', FnF σ τ ∧ TrF τ n' ∧ bF τ n' = nameE (plF (σ (a + 2)) k i) n (bF σ n) ∧ ∀ (u : Bool × Nat × Nat × Int) (Q : Rs → HS → Prop) (l3 : Option V), (Ex sc d 158 6 [some (vR 101), some (vR a), some (vI i), l3] [] (wH σ u) Q ↔ Q (.inl none) (wH τ u)) := by
  intro k
  induction k with
  | zero =>
    intro i σ n Wa T i0 ik
    have wa := Wa.1
    refine ⟨σ, n, FnF.refl, T, rfl, fun u Q l3 => ?_⟩
    rw [x158_6]
    simp (disch := first | assumption | omega | exact notL_I | exact notL_N | exact notL_R | exact catS_le (Nat.le_of_ble_eq_true rfl) | exact ooRo (by assumption) | exact ooAt (by assumption) | exact ooRu (by assumption) | exact ooLo (by assumption) | exact ooHa (by assumption) | exact ooLe (by assumption) | exact ooFn | exact ooAn | exact ooPa | exact ooTo | exact ooWa | exact ooCh | rfl) only [x158_0, x158_1, x158_4, x158_5, x158_7, x158_8, x158_11, x158_12, x158_13, x158_16, x158_17, x158_20, x158_21, x158_22, x158_25, x158_26, x158_27, x158_28, x158_31, x158_32, x158_34, x158_37, x158_38, x158_41, x158_42, x158_43, x158_44, x158_47, x158_48, x158_49, x158_52, x158_53, x158_56, x158_57, x158_60, x158_63, x158_66, gAt_count, if_pos, if_neg, ↓reduceIte, not_true_eq_false, not_false_eq_true]
  | succ k ih =>
    intro i σ n Wa T i0 ik
    have wa := Wa.1
    have wp := Wa.2.2 i i0 (by omega)
    have tl := T.2.1.le26
    have ts : σ 101 2 = (n : Int) := T.1
    rw [plF, nameE]
    by_cases hf : 2000 ≤ σ (a + 2) i ∧ bF σ n (σ (a + 2) i - 2000) = -1
    · rw [if_pos hf]
      have hv : σ 102 (σ (a + 2) i - 2000) = -1 := by rw [← T.free (by omega) (by omega)]; exact hf.2
      obtain ⟨b1, b2, b3, b4⟩ := bind_v (x := 1000 + (n : Int)) T (v := σ (a + 2) i - 2000) (by omega) (by omega) hv (by omega)
      have ea : bdS σ n (σ (a + 2) i - 2000) (1000 + (n : Int)) (a + 2) = σ (a + 2) := (b1.at_ oa).2.2
      obtain ⟨τ, n', q1, q2, q3, q4⟩ := ih (i + 1) (bdS σ n (σ (a + 2) i - 2000) (1000 + (n : Int))) (n + 1) (b1.wa oa Wa) b2 (by omega) (by rw [(b1.at_ oa).1]; omega)
      rw [ea, b4] at q3
      refine ⟨τ, n', b1.trans q1, q2, q3, fun u Q l3 => ?_⟩
      have q6 := q4 u Q (some (vI (σ (a + 2) i - 2000)))
      rw [x158_6]
      simp (disch := first | assumption | omega | exact notL_I | exact notL_N | exact notL_R | exact catS_le (Nat.le_of_ble_eq_true rfl) | exact ooRo (by assumption) | exact ooAt (by assumption) | exact ooRu (by assumption) | exact ooLo (by assumption) | exact ooHa (by assumption) | exact ooLe (by assumption) | exact ooFn | exact ooAn | exact ooPa | exact ooTo | exact ooWa | exact ooCh | rfl) only [x158_0, x158_1, x158_4, x158_5, x158_7, x158_8, x158_11, x158_12, x158_13, x158_16, x158_17, x158_20, x158_21, x158_22, x158_25, x158_26, x158_27, x158_28, x158_31, x158_32, x158_34, x158_37, x158_38, x158_41, x158_42, x158_43, x158_44, x158_47, x158_48, x158_49, x158_52, x158_53, x158_56, x158_57, x158_60, x158_63, x158_66, gAt_count, gAt_place, RAt_place, gFn_bound, gFn_trailSize, RFn_bound, hv, ts, Kc_none, s_bind T, if_pos, if_neg, ↓reduceIte, not_true_eq_false, not_false_eq_true]
      exact q6
    · rw [if_neg hf]
      obtain ⟨τ, n', q1, q2, q3, q4⟩ := ih (i + 1) σ n Wa T (by omega) (by omega)
      refine ⟨τ, n', q1, q2, q3, fun u Q l3 => ?_⟩
      have q6 := q4 u Q (some (vI (σ (a + 2) i - 2000)))
      rw [x158_6]
      by_cases h2 : 2000 ≤ σ (a + 2) i
      · have hv : ¬ σ 102 (σ (a + 2) i - 2000) = -1 := fun z => hf ⟨h2, by rw [T.free (by omega) (by omega)]; exact z⟩
        have hin := T.2.2 (σ (a + 2) i - 2000) (by omega) (by omega)
        simp (disch := first | assumption | omega | exact notL_I | exact notL_N | exact notL_R | exact catS_le (Nat.le_of_ble_eq_true rfl) | exact ooRo (by assumption) | exact ooAt (by assumption) | exact ooRu (by assumption) | exact ooLo (by assumption) | exact ooHa (by assumption) | exact ooLe (by assumption) | exact ooFn | exact ooAn | exact ooPa | exact ooTo | exact ooWa | exact ooCh | rfl) only [x158_0, x158_1, x158_4, x158_5, x158_7, x158_8, x158_11, x158_12, x158_13, x158_16, x158_17, x158_20, x158_21, x158_22, x158_25, x158_26, x158_27, x158_28, x158_31, x158_32, x158_34, x158_37, x158_38, x158_41, x158_42, x158_43, x158_44, x158_47, x158_48, x158_49, x158_52, x158_53, x158_56, x158_57, x158_60, x158_63, x158_66, gAt_count, gAt_place, RAt_place, gFn_bound, RFn_bound, if_pos, if_neg, ↓reduceIte, not_true_eq_false, not_false_eq_true]
        exact q6
      · simp (disch := first | assumption | omega | exact notL_I | exact notL_N | exact notL_R | exact catS_le (Nat.le_of_ble_eq_true rfl) | exact ooRo (by assumption) | exact ooAt (by assumption) | exact ooRu (by assumption) | exact ooLo (by assumption) | exact ooHa (by assumption) | exact ooLe (by assumption) | exact ooFn | exact ooAn | exact ooPa | exact ooTo | exact ooWa | exact ooCh | rfl) only [x158_0, x158_1, x158_4, x158_5, x158_7, x158_8, x158_11, x158_12, x158_13, x158_16, x158_17, x158_20, x158_21, x158_22, x158_25, x158_26, x158_27, x158_28, x158_31, x158_32, x158_34, x158_37, x158_38, x158_41, x158_42, x158_43, x158_44, x158_47, x158_48, x158_49, x158_52, x158_53, x158_56, x158_57, x158_60, x158_63, x158_66, gAt_count, gAt_place, RAt_place, if_pos, if_neg, ↓reduceIte, not_true_eq_false, not_false_eq_true]
        exact q6
theorem s_nameEach {a d : Nat} {σ : St} (oa : oAt a) (hd : 2 ≤ d) (Wa : WfAt σ a) :
    ∃ τ n', FnF σ τ ∧ TrF τ n' ∧ bF τ n' = nameE (plcL (asC σ a)) 0 bd0 ∧ RnA sc d 158 0 [some (vR 101), some (vR a), none, none] σ none τ := by
  have wa := Wa.1
  have ep : plcL (asC σ a) = plF (σ (a + 2)) ((σ a 0).toNat * 3) 0 := plc_flat (σ := σ) (a := a) (σ a 0).toNat 0
  obtain ⟨u1, u2, u3⟩ := unbind_v (σ := σ)
  obtain ⟨τ, n', q1, q2, q3, q4⟩ := l_nameEach (sc := sc) (d := d) oa (by omega) ((σ a 0).toNat * 3) 0 _ 0 (u1.wa oa Wa) u2 (by omega) (by rw [(u1.at_ oa).1]; omega)
  rw [(u1.at_ oa).2.2, u3] at q3
  refine ⟨τ, n', u1.trans q1, q2, by rw [ep]; exact q3, fun u Q => ?_⟩
  refine Iff.trans ?_ (q4 u Q none)
  simp (disch := first | assumption | omega | exact notL_I | exact notL_N | exact notL_R | exact catS_le (Nat.le_of_ble_eq_true rfl) | exact ooRo (by assumption) | exact ooAt (by assumption) | exact ooRu (by assumption) | exact ooLo (by assumption) | exact ooHa (by assumption) | exact ooLe (by assumption) | exact ooFn | exact ooAn | exact ooPa | exact ooTo | exact ooWa | exact ooCh | rfl) only [x158_0, x158_1, x158_4, x158_5, x158_7, x158_8, x158_11, x158_12, x158_13, x158_16, x158_17, x158_20, x158_21, x158_22, x158_25, x158_26, x158_27, x158_28, x158_31, x158_32, x158_34, x158_37, x158_38, x158_41, x158_42, x158_43, x158_44, x158_47, x158_48, x158_49, x158_52, x158_53, x158_56, x158_57, x158_60, x158_63, x158_66, s_unbind, Kc_none]
/-- bindings melted -/
def mbS (σ : St) (w b k : Int) : St := fun c => if c = 102 then (fun j => if 0 ≤ j ∧ j < k ∧ σ 102 j ≠ -1 ∧ σ 102 j = w then b else σ 102 j) else σ c
theorem mbS_ne {σ : St} {w b k : Int} {c : Nat} (h : c ≠ 102) : mbS σ w b k c = σ c := by unfold mbS; rw [if_neg h]
theorem mbS_at {σ : St} {w b k j : Int} : mbS σ w b k 102 j = if 0 ≤ j ∧ j < k ∧ σ 102 j ≠ -1 ∧ σ 102 j = w then b else σ 102 j := by unfold mbS; rw [if_pos rfl]
theorem l_meltB {d : Nat} {σ : St} {w b : Int} {u : Bool × Nat × Nat × Int} {Q : Rs → HS → Prop} (hw : inR w) (hr : ∀ v, 0 ≤ v → v ≤ 25 → -1 ≤ σ 102 v ∧ σ 102 v ≤ 1099) : ∀ (k : Nat) (i : Int), 0 ≤ i → i + k = 26 → (Ex sc d 161 2 [some (vR 101), some (vI w), some (vI b), some (vI i)] [] (wH (mbS σ w b i) u) Q ↔ Q (.inl none) (wH (mbS σ w b 26) u)) := by
  obtain ⟨w1, w2⟩ := hw
  intro k
  induction k with
  | zero =>
    intro i i0 ik
    obtain rfl : i = 26 := by omega
    rw [x161_2]
    simp (disch := first | assumption | omega | exact notL_I | exact notL_N | exact notL_R | exact catS_le (Nat.le_of_ble_eq_true rfl) | exact ooRo (by assumption) | exact ooAt (by assumption) | exact ooRu (by assumption) | exact ooLo (by assumption) | exact ooHa (by assumption) | exact ooLe (by assumption) | exact ooFn | exact ooAn | exact ooPa | exact ooTo | exact ooWa | exact ooCh | rfl) only [x161_0, x161_1, x161_3, x161_5, x161_8, x161_9, x161_12, x161_13, x161_14, x161_15, x161_18, x161_19, x161_22, x161_23, x161_24, x161_25, x161_28, x161_29, x161_32, x161_33, x161_34, x161_35, x161_38, x161_41, if_pos, if_neg, ↓reduceIte, not_true_eq_false, not_false_eq_true]
  | succ k ih =>
    intro i i0 ik
    have r1 := hr i i0 (by omega)
    have e : mbS σ w b i 102 i = σ 102 i := by rw [mbS_at, if_neg (by omega)]
    have i1 := ih (i + 1) (by omega) (by omega)
    rw [x161_2]
    by_cases h1 : σ 102 i = -1
    · have es : mbS σ w b i = mbS σ w b (i + 1) := by
        apply st_ext (a := 102)
        · intro c hc; rw [mbS_ne hc, mbS_ne hc]
        · intro j
          rw [mbS_at, mbS_at]
          by_cases hj : j = i
          · subst hj; rw [if_neg (by omega), if_neg (by omega)]
          · by_cases q : 0 ≤ j ∧ j < i ∧ σ 102 j ≠ -1 ∧ σ 102 j = w
            · rw [if_pos q, if_pos (by omega)]
            · rw [if_neg q, if_neg (by omega)]
      simp (disch := first | assumption | omega | exact notL_I | exact notL_N | exact notL_R | exact catS_le (Nat.le_of_ble_eq_true rfl) | exact ooRo (by assumption) | exact ooAt (by assumption) | exact ooRu (by assumption) | exact ooLo (by assumption) | exact ooHa (by assumption) | exact ooLe (by assumption) | exact ooFn | exact ooAn | exact ooPa | exact ooTo | exact ooWa | exact ooCh | rfl) only [x161_0, x161_1, x161_3, x161_5, x161_8, x161_9, x161_12, x161_13, x161_14, x161_15, x161_18, x161_19, x161_22, x161_23, x161_24, x161_25, x161_28, x161_29, x161_32, x161_33, x161_34, x161_35, x161_38, x161_41, gFn_bound, RFn_bound, e, h1, if_pos, if_neg, ↓reduceIte, not_true_eq_false, not_false_eq_true]
      rw [es]
      exact i1
    · by_cases h2 : σ 102 i = w
      · have es : su (mbS σ w b i) 102 i b = mbS σ w b (i + 1) := by
          apply st_ext (a := 102)
          · intro c hc; rw [su_ne hc, mbS_ne hc, mbS_ne hc]
          · intro j
            rw [su_at, mbS_at, mbS_at]
            by_cases hj : j = i
            · subst hj; rw [if_pos rfl, if_pos ⟨i0, by omega, h1, h2⟩]
            · rw [if_neg hj]
              by_cases q : 0 ≤ j ∧ j < i ∧ σ 102 j ≠ -1 ∧ σ 102 j = w
              · rw [if_pos q, if_pos (by omega)]
              · rw [if_neg q, if_neg (by omega)]
        simp (disch := first | assumption | omega | exact notL_I | exact notL_N | exact notL_R | exact catS_le (Nat.le_of_ble_eq_true rfl) | exact ooRo (by assumption) | exact ooAt (by assumption) | exact ooRu (by assumption) | exact ooLo (by assumption) | exact ooHa (by assumption) | exact ooLe (by assumption) | exact ooFn | exact ooAn | exact ooPa | exact ooTo | exact ooWa | exact ooCh | rfl) only [x161_0, x161_1, x161_3, x161_5, x161_8, x161_9, x161_12, x161_13, x161_14, x161_15, x161_18, x161_19, x161_22, x161_23, x161_24, x161_25, x161_28, x161_29, x161_32, x161_33, x161_34, x161_35, x161_38, x161_41, gFn_bound, RFn_bound, WFn_bound, e, es, if_pos, if_neg, ↓reduceIte, not_true_eq_false, not_false_eq_true]
        exact i1
      · have es : mbS σ w b i = mbS σ w b (i + 1) := by
          apply st_ext (a := 102)
          · intro c hc; rw [mbS_ne hc, mbS_ne hc]
          · intro j
            rw [mbS_at, mbS_at]
            by_cases hj : j = i
            · subst hj; rw [if_neg (by omega), if_neg (by omega)]
            · by_cases q : 0 ≤ j ∧ j < i ∧ σ 102 j ≠ -1 ∧ σ 102 j = w
              · rw [if_pos q, if_pos (by omega)]
              · rw [if_neg q, if_neg (by omega)]
        simp (disch := first | assumption | omega | exact notL_I | exact notL_N | exact notL_R | exact catS_le (Nat.le_of_ble_eq_true rfl) | exact ooRo (by assumption) | exact ooAt (by assumption) | exact ooRu (by assumption) | exact ooLo (by assumption) | exact ooHa (by assumption) | exact ooLe (by assumption) | exact ooFn | exact ooAn | exact ooPa | exact ooTo | exact ooWa | exact ooCh | rfl) only [x161_0, x161_1, x161_3, x161_5, x161_8, x161_9, x161_12, x161_13, x161_14, x161_15, x161_18, x161_19, x161_22, x161_23, x161_24, x161_25, x161_28, x161_29, x161_32, x161_33, x161_34, x161_35, x161_38, x161_41, gFn_bound, RFn_bound, e, if_pos, if_neg, ↓reduceIte, not_true_eq_false, not_false_eq_true]
        rw [es]
        exact i1
theorem s_meltB {d : Nat} {σ : St} {n : Nat} {w b : Int} (hw : inR w) (hb : 0 ≤ b ∧ b ≤ 1099 ∨ w = -1) (T : TrF σ n) : ∃ τ, FnF σ τ ∧ TrF τ n ∧ bF τ n = mbB w b (bF σ n) ∧ RnA sc d 161 0 [some (vR 101), some (vI w), some (vI b), none] σ none τ := by
  obtain ⟨t1, t2, t3⟩ := T
  have e3 : mbS σ w b 26 103 = σ 103 := mbS_ne (by omega)
  have key : ∀ v, mbS σ w b 26 102 v ≠ -1 ↔ σ 102 v ≠ -1 ∨ (0 ≤ v ∧ v < 26 ∧ σ 102 v ≠ -1 ∧ σ 102 v = w) := by
    intro v
    rw [mbS_at]
    split
    · rename_i h
      rcases hb with q | q
      · exact ⟨fun _ => Or.inr h, fun _ => by omega⟩
      · omega
    · exact ⟨Or.inl, fun z => z.elim id (fun y => y.2.2.1)⟩
  refine ⟨mbS σ w b 26, ⟨fun c a x y => mbS_ne x, fun j _ => by rw [mbS_ne (by omega)]⟩, ⟨by rw [mbS_ne (by omega)]; exact t1, ?_, ?_⟩, ?_, fun u Q => ?_⟩
  · rw [e3]
    refine ⟨t2.1, fun v hv => ?_, fun v v0 v1 hv => ?_⟩
    · obtain ⟨y1, y2, y3⟩ := t2.2.1 v hv
      exact ⟨y1, y2, (key v).mpr (Or.inl y3)⟩
    · refine t2.2.2 v v0 v1 ?_
      rcases (key v).mp hv with z | z
      · exact z
      · exact z.2.2.1
  · intro v v0 v1
    rw [mbS_at]
    split
    · rcases hb with q | q
      · omega
      · omega
    · exact t3 v v0 v1
  · funext v
    unfold bF mbB bT
    rw [e3]
    by_cases hv : v ∈ trL (σ 103) n
    · obtain ⟨y1, y2, y3⟩ := t2.2.1 v hv
      rw [if_pos hv, if_pos hv, mbS_at]
      by_cases q : σ 102 v ≠ -1 ∧ σ 102 v = w
      · rw [if_pos ⟨y1, y2, q.1, q.2⟩, if_pos q]
      · rw [if_neg (fun z => q z.2.2), if_neg q]
    · rw [if_neg hv, if_neg hv, if_neg (by omega)]
  · have e := l_meltB (sc := sc) (d := d) (σ := σ) (w := w) (b := b) (u := u) (Q := Q) hw t3 26 0 (by omega) (by omega)
    rw [show mbS σ w b 0 = σ by
      apply st_ext (a := 102)
      · intro c hc; exact mbS_ne hc
      · intro j; rw [mbS_at, if_neg (by omega)]] at e
    refine Iff.trans ?_ e
    simp (disch := first | assumption | omega | exact notL_I | exact notL_N | exact notL_R | exact catS_le (Nat.le_of_ble_eq_true rfl) | exact ooRo (by assumption) | exact ooAt (by assumption) | exact ooRu (by assumption) | exact ooLo (by assumption) | exact ooHa (by assumption) | exact ooLe (by assumption) | exact ooFn | exact ooAn | exact ooPa | exact ooTo | exact ooWa | exact ooCh | rfl) only [x161_0, x161_1]
end F7
