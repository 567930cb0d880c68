/-! rows of the class: the small methods -/
section C1
variable {sc : Scr} {σ : St} {u : Bool × Nat × Nat × Int} {Q : Rs → HS → Prop} {d : Nat} {r : Nat}
theorem l_fill {a n : Nat} {v : Int} (hs : shp a = (0, 0, n, [])) (ha : a < NW) (hn : n < 2147483648) : ∀ (k : Nat) (i : Int), 0 ≤ i → i + k = n → (Ex sc d 4 5 [some (vR a), some (vI v), some (vI i), some (vI ((n : Int)))] [] (wH (fl σ a 0 i v) u) Q ↔ Q (.inl none) (wH (fl σ a 0 n v) u)) := by
  intro k
  induction k with
  | zero =>
    intro i h0 hk
    obtain rfl : i = n := by omega
    rw [x4_5]
    simp (disch := first | assumption | omega | exact notL_I | exact notL_N | exact notL_R | exact catS_le (Nat.le_of_ble_eq_true rfl) | exact ooRo (by assumption) | exact ooAt (by assumption) | exact ooRu (by assumption) | exact ooLo (by assumption) | exact ooHa (by assumption) | exact ooLe (by assumption) | exact ooFn | exact ooAn | exact ooPa | exact ooTo | exact ooWa | exact ooCh | rfl) only [x4_0, x4_1, x4_2, x4_3, x4_4, x4_6, x4_7, x4_10, x4_11, x4_12, x4_13, x4_14, x4_17, x4_20, if_pos, if_neg, ↓reduceIte, not_true_eq_false, not_false_eq_true]
  | succ k ih =>
    intro i h0 hk
    rw [x4_5]
    simp (disch := first | assumption | omega | exact notL_I | exact notL_N | exact notL_R | exact catS_le (Nat.le_of_ble_eq_true rfl) | exact ooRo (by assumption) | exact ooAt (by assumption) | exact ooRu (by assumption) | exact ooLo (by assumption) | exact ooHa (by assumption) | exact ooLe (by assumption) | exact ooFn | exact ooAn | exact ooPa | exact ooTo | exact ooWa | exact ooCh | rfl) only [x4_0, x4_1, x4_2, x4_3, x4_4, x4_6, x4_7, x4_10, x4_11, x4_12, x4_13, x4_14, x4_17, x4_20, Wa_s hs ha hn, fl_su, if_pos, if_neg, ↓reduceIte, not_true_eq_false, not_false_eq_true]
    exact ih (i + 1) (by omega) (by omega)
theorem s_fill {a n : Nat} {v : Int} (hs : shp a = (0, 0, n, [])) (ha : a < NW) (hn : n < 2147483648) : Ex sc d 4 0 [some (vR a), some (vI v), none, none] [] (wH σ u) Q ↔ Q (.inl none) (wH (fl σ a 0 n v) u) := by
  have e := l_fill (sc := sc) (σ := σ) (u := u) (Q := Q) (d := d) (v := v) hs ha hn n 0 (by omega) (by omega)
  rw [fl_0] at e
  refine Iff.trans ?_ e
  simp (disch := first | assumption | omega | exact notL_I | exact notL_N | exact notL_R | exact catS_le (Nat.le_of_ble_eq_true rfl) | exact ooRo (by assumption) | exact ooAt (by assumption) | exact ooRu (by assumption) | exact ooLo (by assumption) | exact ooHa (by assumption) | exact ooLe (by assumption) | exact ooFn | exact ooAn | exact ooPa | exact ooTo | exact ooWa | exact ooCh | rfl) only [x4_0, x4_1, x4_2, x4_3, x4_4, La_w hs ha (by decide) hn]
theorem s_isNl {t : Int} (ht : inR t) : Ex sc d 58 0 [some (vI t)] [] (wH σ u) Q ↔ Q (.inl (some (vI (if 1000 ≤ t ∧ t ≤ 1099 then 1 else 0)))) (wH σ u) := by
  obtain ⟨t1, t2⟩ := ht
  by_cases h : 1000 ≤ t ∧ t ≤ 1099
  · simp (disch := first | assumption | omega | exact notL_I | exact notL_N | exact notL_R | exact catS_le (Nat.le_of_ble_eq_true rfl) | exact ooRo (by assumption) | exact ooAt (by assumption) | exact ooRu (by assumption) | exact ooLo (by assumption) | exact ooHa (by assumption) | exact ooLe (by assumption) | exact ooFn | exact ooAn | exact ooPa | exact ooTo | exact ooWa | exact ooCh | rfl) only [x58_0, x58_1, x58_4, x58_7, x58_8, x58_11, x58_14, x58_15, x58_18, x58_19, if_pos, if_neg, ↓reduceIte, not_true_eq_false, not_false_eq_true]
  · by_cases h2 : t < 1000
    · simp (disch := first | assumption | omega | exact notL_I | exact notL_N | exact notL_R | exact catS_le (Nat.le_of_ble_eq_true rfl) | exact ooRo (by assumption) | exact ooAt (by assumption) | exact ooRu (by assumption) | exact ooLo (by assumption) | exact ooHa (by assumption) | exact ooLe (by assumption) | exact ooFn | exact ooAn | exact ooPa | exact ooTo | exact ooWa | exact ooCh | rfl) only [x58_0, x58_1, x58_4, x58_7, x58_8, x58_11, x58_14, x58_15, x58_18, x58_19, if_pos, if_neg, ↓reduceIte, not_true_eq_false, not_false_eq_true]
    · simp (disch := first | assumption | omega | exact notL_I | exact notL_N | exact notL_R | exact catS_le (Nat.le_of_ble_eq_true rfl) | exact ooRo (by assumption) | exact ooAt (by assumption) | exact ooRu (by assumption) | exact ooLo (by assumption) | exact ooHa (by assumption) | exact ooLe (by assumption) | exact ooFn | exact ooAn | exact ooPa | exact ooTo | exact ooWa | exact ooCh | rfl) only [x58_0, x58_1, x58_4, x58_7, x58_8, x58_11, x58_14, x58_15, x58_18, x58_19, if_pos, if_neg, ↓reduceIte, not_true_eq_false, not_false_eq_true]
theorem s_colsC {b : Nat} {t : Int} (o : oHa b) (ht : inR t) : Ex sc d 46 0 [some (vR b), some (vI t)] [] (wH σ u) Q ↔ Q (.inl (some (vI (coC σ b t)))) (wH σ u) := by
  obtain ⟨t1, t2⟩ := ht
  unfold coC
  by_cases h : 0 ≤ t ∧ t ≤ 25
  · simp (disch := first | assumption | omega | exact notL_I | exact notL_N | exact notL_R | exact catS_le (Nat.le_of_ble_eq_true rfl) | exact ooRo (by assumption) | exact ooAt (by assumption) | exact ooRu (by assumption) | exact ooLo (by assumption) | exact ooHa (by assumption) | exact ooLe (by assumption) | exact ooFn | exact ooAn | exact ooPa | exact ooTo | exact ooWa | exact ooCh | rfl) only [x46_0, x46_1, x46_4, x46_5, x46_7, x46_10, x46_11, x46_14, x46_15, x46_18, x46_19, x46_20, gHa_columns, RHa_columns, if_pos, if_neg, ↓reduceIte, not_true_eq_false, not_false_eq_true]
  · by_cases h2 : t < 0
    · simp (disch := first | assumption | omega | exact notL_I | exact notL_N | exact notL_R | exact catS_le (Nat.le_of_ble_eq_true rfl) | exact ooRo (by assumption) | exact ooAt (by assumption) | exact ooRu (by assumption) | exact ooLo (by assumption) | exact ooHa (by assumption) | exact ooLe (by assumption) | exact ooFn | exact ooAn | exact ooPa | exact ooTo | exact ooWa | exact ooCh | rfl) only [x46_0, x46_1, x46_4, x46_5, x46_7, x46_10, x46_11, x46_14, x46_15, x46_18, x46_19, x46_20, if_pos, if_neg, ↓reduceIte, not_true_eq_false, not_false_eq_true]
    · simp (disch := first | assumption | omega | exact notL_I | exact notL_N | exact notL_R | exact catS_le (Nat.le_of_ble_eq_true rfl) | exact ooRo (by assumption) | exact ooAt (by assumption) | exact ooRu (by assumption) | exact ooLo (by assumption) | exact ooHa (by assumption) | exact ooLe (by assumption) | exact ooFn | exact ooAn | exact ooPa | exact ooTo | exact ooWa | exact ooCh | rfl) only [x46_0, x46_1, x46_4, x46_5, x46_7, x46_10, x46_11, x46_14, x46_15, x46_18, x46_19, x46_20, if_pos, if_neg, ↓reduceIte, not_true_eq_false, not_false_eq_true]
theorem s_termAt {p c : Int} (o : oRo r) (hp : inR p) (hc : inR c) (W : WfRo σ r) : Ex sc d 82 0 [some (vR r), some (vI p), some (vI c)] [] (wH σ u) Q ↔ Q (.inl (some (vI (if 0 ≤ p ∧ p < σ r 0 ∧ 0 ≤ c ∧ c < 3 then σ (r + 3) (p * 3 + c) else -1)))) (wH σ u) := by
  obtain ⟨p1, p2⟩ := hp
  obtain ⟨c1, c2⟩ := hc
  have w := W.1
  by_cases h1 : p < 0
  · simp (disch := first | assumption | omega | exact notL_I | exact notL_N | exact notL_R | exact catS_le (Nat.le_of_ble_eq_true rfl) | exact ooRo (by assumption) | exact ooAt (by assumption) | exact ooRu (by assumption) | exact ooLo (by assumption) | exact ooHa (by assumption) | exact ooLe (by assumption) | exact ooFn | exact ooAn | exact ooPa | exact ooTo | exact ooWa | exact ooCh | rfl) only [x82_0, x82_1, x82_4, x82_5, x82_6, x82_9, x82_12, x82_13, x82_16, x82_17, x82_18, x82_21, x82_22, x82_23, x82_24, x82_27, x82_28, x82_29, x82_30, x82_31, x82_32, x82_33, if_pos, if_neg, ↓reduceIte, not_true_eq_false, not_false_eq_true]
  · by_cases h2 : p < σ r 0
    · by_cases h3 : c < 0
      · simp (disch := first | assumption | omega | exact notL_I | exact notL_N | exact notL_R | exact catS_le (Nat.le_of_ble_eq_true rfl) | exact ooRo (by assumption) | exact ooAt (by assumption) | exact ooRu (by assumption) | exact ooLo (by assumption) | exact ooHa (by assumption) | exact ooLe (by assumption) | exact ooFn | exact ooAn | exact ooPa | exact ooTo | exact ooWa | exact ooCh | rfl) only [x82_0, x82_1, x82_4, x82_5, x82_6, x82_9, x82_12, x82_13, x82_16, x82_17, x82_18, x82_21, x82_22, x82_23, x82_24, x82_27, x82_28, x82_29, x82_30, x82_31, x82_32, x82_33, gRo_count, if_pos, if_neg, ↓reduceIte, not_true_eq_false, not_false_eq_true]
      · by_cases h4 : c < 3
        · simp (disch := first | assumption | omega | exact notL_I | exact notL_N | exact notL_R | exact catS_le (Nat.le_of_ble_eq_true rfl) | exact ooRo (by assumption) | exact ooAt (by assumption) | exact ooRu (by assumption) | exact ooLo (by assumption) | exact ooHa (by assumption) | exact ooLe (by assumption) | exact ooFn | exact ooAn | exact ooPa | exact ooTo | exact ooWa | exact ooCh | rfl) only [x82_0, x82_1, x82_4, x82_5, x82_6, x82_9, x82_12, x82_13, x82_16, x82_17, x82_18, x82_21, x82_22, x82_23, x82_24, x82_27, x82_28, x82_29, x82_30, x82_31, x82_32, x82_33, gRo_count, gRo_term, RRo_term, if_pos, if_neg, ↓reduceIte, not_true_eq_false, not_false_eq_true]
        · simp (disch := first | assumption | omega | exact notL_I | exact notL_N | exact notL_R | exact catS_le (Nat.le_of_ble_eq_true rfl) | exact ooRo (by assumption) | exact ooAt (by assumption) | exact ooRu (by assumption) | exact ooLo (by assumption) | exact ooHa (by assumption) | exact ooLe (by assumption) | exact ooFn | exact ooAn | exact ooPa | exact ooTo | exact ooWa | exact ooCh | rfl) only [x82_0, x82_1, x82_4, x82_5, x82_6, x82_9, x82_12, x82_13, x82_16, x82_17, x82_18, x82_21, x82_22, x82_23, x82_24, x82_27, x82_28, x82_29, x82_30, x82_31, x82_32, x82_33, gRo_count, if_pos, if_neg, ↓reduceIte, not_true_eq_false, not_false_eq_true]
    · simp (disch := first | assumption | omega | exact notL_I | exact notL_N | exact notL_R | exact catS_le (Nat.le_of_ble_eq_true rfl) | exact ooRo (by assumption) | exact ooAt (by assumption) | exact ooRu (by assumption) | exact ooLo (by assumption) | exact ooHa (by assumption) | exact ooLe (by assumption) | exact ooFn | exact ooAn | exact ooPa | exact ooTo | exact ooWa | exact ooCh | rfl) only [x82_0, x82_1, x82_4, x82_5, x82_6, x82_9, x82_12, x82_13, x82_16, x82_17, x82_18, x82_21, x82_22, x82_23, x82_24, x82_27, x82_28, x82_29, x82_30, x82_31, x82_32, x82_33, gRo_count, if_pos, if_neg, ↓reduceIte, not_true_eq_false, not_false_eq_true]
theorem s_numAt {p : Int} (o : oRo r) (hp : inR p) (W : WfRo σ r) : Ex sc d 86 0 [some (vR r), some (vI p)] [] (wH σ u) Q ↔ Q (.inl (some (vI (if 0 ≤ p ∧ p < σ r 0 then σ (r + 1) p else -1)))) (wH σ u) := by
  obtain ⟨p1, p2⟩ := hp
  have w := W.1
  by_cases h1 : p < 0
  · simp (disch := first | assumption | omega | exact notL_I | exact notL_N | exact notL_R | exact catS_le (Nat.le_of_ble_eq_true rfl) | exact ooRo (by assumption) | exact ooAt (by assumption) | exact ooRu (by assumption) | exact ooLo (by assumption) | exact ooHa (by assumption) | exact ooLe (by assumption) | exact ooFn | exact ooAn | exact ooPa | exact ooTo | exact ooWa | exact ooCh | rfl) only [x86_0, x86_1, x86_4, x86_5, x86_6, x86_9, x86_12, x86_13, x86_16, x86_17, x86_20, x86_21, x86_22, if_pos, if_neg, ↓reduceIte, not_true_eq_false, not_false_eq_true]
  · by_cases h2 : p < σ r 0
    · simp (disch := first | assumption | omega | exact notL_I | exact notL_N | exact notL_R | exact catS_le (Nat.le_of_ble_eq_true rfl) | exact ooRo (by assumption) | exact ooAt (by assumption) | exact ooRu (by assumption) | exact ooLo (by assumption) | exact ooHa (by assumption) | exact ooLe (by assumption) | exact ooFn | exact ooAn | exact ooPa | exact ooTo | exact ooWa | exact ooCh | rfl) only [x86_0, x86_1, x86_4, x86_5, x86_6, x86_9, x86_12, x86_13, x86_16, x86_17, x86_20, x86_21, x86_22, gRo_count, gRo_number, RRo_number, if_pos, if_neg, ↓reduceIte, not_true_eq_false, not_false_eq_true]
    · simp (disch := first | assumption | omega | exact notL_I | exact notL_N | exact notL_R | exact catS_le (Nat.le_of_ble_eq_true rfl) | exact ooRo (by assumption) | exact ooAt (by assumption) | exact ooRu (by assumption) | exact ooLo (by assumption) | exact ooHa (by assumption) | exact ooLe (by assumption) | exact ooFn | exact ooAn | exact ooPa | exact ooTo | exact ooWa | exact ooCh | rfl) only [x86_0, x86_1, x86_4, x86_5, x86_6, x86_9, x86_12, x86_13, x86_16, x86_17, x86_20, x86_21, x86_22, gRo_count, if_pos, if_neg, ↓reduceIte, not_true_eq_false, not_false_eq_true]
theorem l_posOf {n : Int} (o : oRo r) (hn : inR n) (W : WfRo σ r) : ∀ (k : Nat) (p : Int), 0 ≤ p → p + k = σ r 0 → (Ex sc d 89 2 [some (vR r), some (vI n), some (vI p)] [] (wH σ u) Q ↔ Q (.inl (some (vI (posF (fun w => decide (w.1 = n)) (rcF σ r k p) p)))) (wH σ u)) := by
  obtain ⟨n1, n2⟩ := hn
  have w := W.1
  intro k
  induction k with
  | zero =>
    intro p h0 hk
    rw [x89_2]
    simp (disch := first | assumption | omega | exact notL_I | exact notL_N | exact notL_R | exact catS_le (Nat.le_of_ble_eq_true rfl) | exact ooRo (by assumption) | exact ooAt (by assumption) | exact ooRu (by assumption) | exact ooLo (by assumption) | exact ooHa (by assumption) | exact ooLe (by assumption) | exact ooFn | exact ooAn | exact ooPa | exact ooTo | exact ooWa | exact ooCh | rfl) only [x89_0, x89_1, x89_3, x89_4, x89_7, x89_10, x89_11, x89_14, x89_15, x89_16, x89_17, x89_20, x89_21, x89_22, x89_25, x89_28, x89_29, gRo_count, if_pos, if_neg, ↓reduceIte, not_true_eq_false, not_false_eq_true]
    rfl
  | succ k ih =>
    intro p h0 hk
    have w2 := (W.2.2.1 p h0 (by omega)).1
    rw [x89_2, rcF, posF]
    by_cases h : σ (r + 1) p = n
    · rw [if_pos (decide_eq_true (show (rwC σ r p).1 = n from h))]
      simp (disch := first | assumption | omega | exact notL_I | exact notL_N | exact notL_R | exact catS_le (Nat.le_of_ble_eq_true rfl) | exact ooRo (by assumption) | exact ooAt (by assumption) | exact ooRu (by assumption) | exact ooLo (by assumption) | exact ooHa (by assumption) | exact ooLe (by assumption) | exact ooFn | exact ooAn | exact ooPa | exact ooTo | exact ooWa | exact ooCh | rfl) only [x89_0, x89_1, x89_3, x89_4, x89_7, x89_10, x89_11, x89_14, x89_15, x89_16, x89_17, x89_20, x89_21, x89_22, x89_25, x89_28, x89_29, gRo_count, gRo_number, RRo_number, if_pos, if_neg, ↓reduceIte, not_true_eq_false, not_false_eq_true]
    · rw [if_neg (c := decide ((rwC σ r p).1 = n) = true) (fun z => h (of_decide_eq_true z))]
      simp (disch := first | assumption | omega | exact notL_I | exact notL_N | exact notL_R | exact catS_le (Nat.le_of_ble_eq_true rfl) | exact ooRo (by assumption) | exact ooAt (by assumption) | exact ooRu (by assumption) | exact ooLo (by assumption) | exact ooHa (by assumption) | exact ooLe (by assumption) | exact ooFn | exact ooAn | exact ooPa | exact ooTo | exact ooWa | exact ooCh | rfl) only [x89_0, x89_1, x89_3, x89_4, x89_7, x89_10, x89_11, x89_14, x89_15, x89_16, x89_17, x89_20, x89_21, x89_22, x89_25, x89_28, x89_29, gRo_count, gRo_number, RRo_number, if_pos, if_neg, ↓reduceIte, not_true_eq_false, not_false_eq_true]
      exact ih (p + 1) (by omega) (by omega)
theorem s_posOf {n : Int} (o : oRo r) (hn : inR n) (W : WfRo σ r) : Ex sc d 89 0 [some (vR r), some (vI n), none] [] (wH σ u) Q ↔ Q (.inl (some (vI (posF (fun w => decide (w.1 = n)) (rsC σ r) 0)))) (wH σ u) := by
  have w := W.1
  have e := l_posOf (sc := sc) (u := u) (Q := Q) (d := d) o hn W (σ r 0).toNat 0 (by omega) (by omega)
  refine Iff.trans ?_ e
  simp (disch := first | assumption | omega | exact notL_I | exact notL_N | exact notL_R | exact catS_le (Nat.le_of_ble_eq_true rfl) | exact ooRo (by assumption) | exact ooAt (by assumption) | exact ooRu (by assumption) | exact ooLo (by assumption) | exact ooHa (by assumption) | exact ooLe (by assumption) | exact ooFn | exact ooAn | exact ooPa | exact ooTo | exact ooWa | exact ooCh | rfl) only [x89_0, x89_1]
theorem rwC_eq {p t x y z : Int} : (rwC σ r p).2 = (t, x, y, z) ↔ σ (r + 2) p = t ∧ σ (r + 3) (p * 3) = x ∧ σ (r + 3) (p * 3 + 1) = y ∧ σ (r + 3) (p * 3 + 2) = z := by
  unfold rwC
  rw [Prod.mk.injEq, Prod.mk.injEq, Prod.mk.injEq]
theorem l_findC {t x y z : Int} (o : oRo r) (ht : inR t) (hx : inR x) (hy : inR y) (hz : inR z) (W : WfRo σ r) : ∀ (k : Nat) (p : Int), 0 ≤ p → p + k = σ r 0 → ∀ l6, (Ex sc d 54 3 [some (vR r), some (vI t), some (vI x), some (vI y), some (vI z), some (vI p), l6] [] (wH σ u) Q ↔ Q (.inl (some (vI (posF (fun w => decide (w.2 = (t, x, y, z))) (rcF σ r k p) p)))) (wH σ u)) := by
  obtain ⟨t1, t2⟩ := ht
  obtain ⟨x1, x2⟩ := hx
  obtain ⟨y1, y2⟩ := hy
  obtain ⟨z1, z2⟩ := hz
  have w := W.1
  intro k
  induction k with
  | zero =>
    intro p h0 hk l6
    rw [x54_3]
    simp (disch := first | assumption | omega | exact notL_I | exact notL_N | exact notL_R | exact catS_le (Nat.le_of_ble_eq_true rfl) | exact ooRo (by assumption) | exact ooAt (by assumption) | exact ooRu (by assumption) | exact ooLo (by assumption) | exact ooHa (by assumption) | exact ooLe (by assumption) | exact ooFn | exact ooAn | exact ooPa | exact ooTo | exact ooWa | exact ooCh | rfl) only [x54_0, x54_1, x54_5, x54_6, x54_9, x54_12, x54_14, x54_15, x54_16, x54_18, x54_19, x54_22, x54_24, x54_25, x54_26, x54_29, x54_30, x54_33, x54_35, x54_36, x54_37, x54_40, x54_41, x54_44, x54_46, x54_47, x54_48, x54_49, x54_50, x54_53, x54_54, x54_57, x54_59, x54_60, x54_61, x54_62, x54_64, x54_67, x54_69, x54_70, x54_73, x54_76, x54_77, gRo_count, if_pos, if_neg, ↓reduceIte, not_true_eq_false, not_false_eq_true]
    rfl
  | succ k ih =>
    intro p h0 hk l6
    have w2 := (W.2.2.1 p h0 (by omega)).2
    have w3 := W.2.2.2.1 (p * 3) (by omega) (by omega)
    have w4 := W.2.2.2.1 (p * 3 + 1) (by omega) (by omega)
    have w5 := W.2.2.2.1 (p * 3 + 2) (by omega) (by omega)
    have i1 := fun l6 => ih (p + 1) (by omega) (by omega) l6
    rw [x54_3, rcF, posF]
    simp (disch := first | assumption | omega | exact notL_I | exact notL_N | exact notL_R | exact catS_le (Nat.le_of_ble_eq_true rfl) | exact ooRo (by assumption) | exact ooAt (by assumption) | exact ooRu (by assumption) | exact ooLo (by assumption) | exact ooHa (by assumption) | exact ooLe (by assumption) | exact ooFn | exact ooAn | exact ooPa | exact ooTo | exact ooWa | exact ooCh | rfl) only [x54_0, x54_1, x54_5, x54_6, x54_9, x54_12, x54_14, x54_15, x54_16, x54_18, x54_19, x54_22, x54_24, x54_25, x54_26, x54_29, x54_30, x54_33, x54_35, x54_36, x54_37, x54_40, x54_41, x54_44, x54_46, x54_47, x54_48, x54_49, x54_50, x54_53, x54_54, x54_57, x54_59, x54_60, x54_61, x54_62, x54_64, x54_67, x54_69, x54_70, x54_73, x54_76, x54_77, gRo_count, gRo_table, gRo_term, RRo_table, RRo_term, if_pos, if_neg, ↓reduceIte, not_true_eq_false, not_false_eq_true, i1]
    by_cases h : (rwC σ r p).2 = (t, x, y, z)
    · rw [if_pos (c := decide _ = true) (by simpa using h)]
      rw [rwC_eq] at h
      repeat' split
      all_goals first | (exfalso; omega) | rfl
    · rw [if_neg (c := decide _ = true) (by simpa using h)]
      rw [rwC_eq] at h
      repeat' split
      all_goals first | (exfalso; omega) | rfl
theorem s_findC {t x y z : Int} (o : oRo r) (ht : inR t) (hx : inR x) (hy : inR y) (hz : inR z) (W : WfRo σ r) : Ex sc d 54 0 [some (vR r), some (vI t), some (vI x), some (vI y), some (vI z), none, none] [] (wH σ u) Q ↔ Q (.inl (some (vI (posF (fun w => decide (w.2 = (t, x, y, z))) (rsC σ r) 0)))) (wH σ u) := by
  have w := W.1
  have e := l_findC (sc := sc) (u := u) (Q := Q) (d := d) o ht hx hy hz W (σ r 0).toNat 0 (by omega) (by omega) none
  refine Iff.trans ?_ e
  simp (disch := first | assumption | omega | exact notL_I | exact notL_N | exact notL_R | exact catS_le (Nat.le_of_ble_eq_true rfl) | exact ooRo (by assumption) | exact ooAt (by assumption) | exact ooRu (by assumption) | exact ooLo (by assumption) | exact ooHa (by assumption) | exact ooLe (by assumption) | exact ooFn | exact ooAn | exact ooPa | exact ooTo | exact ooWa | exact ooCh | rfl) only [x54_0, x54_1]
theorem s_room {k : Int} (o : oRo r) (k0 : 0 ≤ k) (k1 : k ≤ 100) (W : WfRo σ r) : Ex sc d 56 0 [some (vR r), some (vI k)] [] (wH σ u) Q ↔ Q (.inl (some (vI (if σ r 0 + k ≤ 40 ∧ σ r 1 + k ≤ 200 then 1 else 0)))) (wH σ u) := by
  have w := W.1
  have w2 := W.2.1
  by_cases h : σ r 0 + k ≤ 40
  · by_cases h2 : σ r 1 + k ≤ 200
    · simp (disch := first | assumption | omega | exact notL_I | exact notL_N | exact notL_R | exact catS_le (Nat.le_of_ble_eq_true rfl) | exact ooRo (by assumption) | exact ooAt (by assumption) | exact ooRu (by assumption) | exact ooLo (by assumption) | exact ooHa (by assumption) | exact ooLe (by assumption) | exact ooFn | exact ooAn | exact ooPa | exact ooTo | exact ooWa | exact ooCh | rfl) only [x56_0, x56_1, x56_4, x56_5, x56_6, x56_8, x56_11, x56_12, x56_15, x56_16, x56_17, x56_20, x56_23, x56_24, x56_27, x56_28, gRo_count, gRo_nextNumber, if_pos, if_neg, ↓reduceIte, not_true_eq_false, not_false_eq_true]
    · simp (disch := first | assumption | omega | exact notL_I | exact notL_N | exact notL_R | exact catS_le (Nat.le_of_ble_eq_true rfl) | exact ooRo (by assumption) | exact ooAt (by assumption) | exact ooRu (by assumption) | exact ooLo (by assumption) | exact ooHa (by assumption) | exact ooLe (by assumption) | exact ooFn | exact ooAn | exact ooPa | exact ooTo | exact ooWa | exact ooCh | rfl) only [x56_0, x56_1, x56_4, x56_5, x56_6, x56_8, x56_11, x56_12, x56_15, x56_16, x56_17, x56_20, x56_23, x56_24, x56_27, x56_28, gRo_count, gRo_nextNumber, if_pos, if_neg, ↓reduceIte, not_true_eq_false, not_false_eq_true]
  · simp (disch := first | assumption | omega | exact notL_I | exact notL_N | exact notL_R | exact catS_le (Nat.le_of_ble_eq_true rfl) | exact ooRo (by assumption) | exact ooAt (by assumption) | exact ooRu (by assumption) | exact ooLo (by assumption) | exact ooHa (by assumption) | exact ooLe (by assumption) | exact ooFn | exact ooAn | exact ooPa | exact ooTo | exact ooWa | exact ooCh | rfl) only [x56_0, x56_1, x56_4, x56_5, x56_6, x56_8, x56_11, x56_12, x56_15, x56_16, x56_17, x56_20, x56_23, x56_24, x56_27, x56_28, gRo_count, gRo_nextNumber, if_pos, if_neg, ↓reduceIte, not_true_eq_false, not_false_eq_true]
end C1
def mkS (σ : St) (r : Nat) (t : Int) : St := if 1000 ≤ t ∧ t ≤ 1099 then su σ (r + 4) (t - 1000) 1 else σ
theorem mkS_ne {σ : St} {r c : Nat} {t : Int} (h : c ≠ r + 4) : mkS σ r t c = σ c := by
  unfold mkS
  split
  · exact su_ne h
  · rfl
theorem mkS_at {σ : St} {r : Nat} {t j : Int} : mkS σ r t (r + 4) j = if 1000 ≤ t ∧ t ≤ 1099 ∧ j = t - 1000 then 1 else σ (r + 4) j := by
  unfold mkS
  by_cases h : 1000 ≤ t ∧ t ≤ 1099
  · rw [if_pos h, su_at]
    by_cases h2 : j = t - 1000
    · rw [if_pos h2, if_pos ⟨h.1, h.2, h2⟩]
    · rw [if_neg h2, if_neg (fun z => h2 z.2.2)]
  · rw [if_neg h, if_neg (fun z => h ⟨z.1, z.2.1⟩)]
/-- a row added -/
def adR (σ : St) (r : Nat) (t x y z : Int) : St := su (su (su (su (su σ (r + 1) (σ r 0) (σ r 1)) (r + 2) (σ r 0) t) (r + 3) (σ r 0 * 3) x) (r + 3) (σ r 0 * 3 + 1) y) (r + 3) (σ r 0 * 3 + 2) z
def adS (σ : St) (r : Nat) (t x y z : Int) : St := su (su (mkS (mkS (mkS (adR σ r t x y z) r x) r y) r z) r 0 (σ r 0 + 1)) r 1 (σ r 1 + 1)
def rmS (σ : St) (r : Nat) (p : Int) : St := su (scp (scp (scp σ (r + 1) (p + 1) (r + 1) p (σ r 0 - p - 1)) (r + 2) (p + 1) (r + 2) p (σ r 0 - p - 1)) (r + 3) ((p + 1) * 3) (r + 3) (p * 3) ((σ r 0 - p - 1) * 3)) r 0 (σ r 0 - 1)
section C1b
variable {sc : Scr} {σ : St} {u : Bool × Nat × Nat × Int} {Q : Rs → HS → Prop} {d : Nat} {r : Nat}
theorem s_markU {t : Int} (o : oRo r) (ht : inR t) (hd : 1 ≤ d) : Ex sc d 57 0 [some (vR r), some (vI t)] [] (wH σ u) Q ↔ Q (.inl none) (wH (mkS σ r t) u) := by
  obtain ⟨t1, t2⟩ := ht
  unfold mkS
  by_cases h : 1000 ≤ t ∧ t ≤ 1099
  · rw [if_pos h]
    simp (disch := first | assumption | omega | exact notL_I | exact notL_N | exact notL_R | exact catS_le (Nat.le_of_ble_eq_true rfl) | exact ooRo (by assumption) | exact ooAt (by assumption) | exact ooRu (by assumption) | exact ooLo (by assumption) | exact ooHa (by assumption) | exact ooLe (by assumption) | exact ooFn | exact ooAn | exact ooPa | exact ooTo | exact ooWa | exact ooCh | rfl) only [x57_0, x57_1, x57_4, x57_7, x57_8, x57_11, x57_12, x57_15, x57_16, x57_17, x57_18, s_isNl, Kc_some, gRo_used, WRo_used, if_pos, if_neg, ↓reduceIte, not_true_eq_false, not_false_eq_true]
  · rw [if_neg h]
    simp (disch := first | assumption | omega | exact notL_I | exact notL_N | exact notL_R | exact catS_le (Nat.le_of_ble_eq_true rfl) | exact ooRo (by assumption) | exact ooAt (by assumption) | exact ooRu (by assumption) | exact ooLo (by assumption) | exact ooHa (by assumption) | exact ooLe (by assumption) | exact ooFn | exact ooAn | exact ooPa | exact ooTo | exact ooWa | exact ooCh | rfl) only [x57_0, x57_1, x57_4, x57_7, x57_8, x57_11, x57_12, x57_15, x57_16, x57_17, x57_18, s_isNl, Kc_some, if_pos, if_neg, ↓reduceIte, not_true_eq_false, not_false_eq_true]
theorem s_addC {t x y z : Int} (o : oRo r) (hx : inR x) (hy : inR y) (hz : inR z) (W : WfRo σ r) (hd : 2 ≤ d) : Ex sc d 55 0 [some (vR r), some (vI t), some (vI x), some (vI y), some (vI z)] [] (wH σ u) Q ↔ if σ r 0 + 1 ≤ 40 ∧ σ r 1 + 1 ≤ 200 then Q (.inl (some (vI (σ r 1 + 1 - 1)))) (wH (adS σ r t x y z) u) else Q (.inl (some (vI (-1)))) (wH σ u) := by
  have w := W.1
  have w2 := W.2.1
  by_cases h : σ r 0 + 1 ≤ 40 ∧ σ r 1 + 1 ≤ 200
  · rw [if_pos h]
    have e0 : ∀ ρ : St, mkS (mkS (mkS ρ r x) r y) r z r = ρ r := fun ρ => by rw [mkS_ne (by omega), mkS_ne (by omega), mkS_ne (by omega)]
    have e1 : adR σ r t x y z r = σ r := by
      unfold adR
      rw [su_ne (by omega), su_ne (by omega), su_ne (by omega), su_ne (by omega), su_ne (by omega)]
    have ea : su (su (su (su (su σ (r + 1) (σ r 0) (σ r 1)) (r + 2) (σ r 0) t) (r + 3) (σ r 0 * 3) x) (r + 3) (σ r 0 * 3 + 1) y) (r + 3) (σ r 0 * 3 + 2) z = adR σ r t x y z := rfl
    unfold adS
    simp (disch := first | assumption | omega | exact notL_I | exact notL_N | exact notL_R | exact catS_le (Nat.le_of_ble_eq_true rfl) | exact ooRo (by assumption) | exact ooAt (by assumption) | exact ooRu (by assumption) | exact ooLo (by assumption) | exact ooHa (by assumption) | exact ooLe (by assumption) | exact ooFn | exact ooAn | exact ooPa | exact ooTo | exact ooWa | exact ooCh | rfl) only [x55_0, x55_1, x55_2, x55_5, x55_8, x55_9, x55_10, x55_11, x55_14, x55_15, x55_18, x55_19, x55_22, x55_23, x55_24, x55_27, x55_28, x55_31, x55_32, x55_33, x55_34, x55_37, x55_38, x55_41, x55_42, x55_43, x55_44, x55_45, x55_46, x55_49, x55_50, x55_53, x55_54, x55_55, x55_56, x55_57, x55_58, x55_59, x55_60, x55_63, x55_64, x55_67, x55_68, x55_69, x55_70, x55_71, x55_73, x55_74, x55_75, x55_76, x55_79, x55_80, x55_81, x55_84, x55_85, x55_87, x55_90, x55_91I, x55_91, x55_92, x55_95, x55_96, x55_97, x55_100, x55_101I, x55_101, x55_102, x55_105, x55_106, x55_107, x55_110, x55_111, x55_114, x55_115, x55_116, s_room, Kc_some, Kc_none, gRo_count, gRo_nextNumber, gRo_number, gRo_table, gRo_term, WRo_number, WRo_table, WRo_term, pRo_count, pRo_nextNumber, su_ne, ea, s_markU, e0, e1, su_eq, su_off, if_pos, if_neg, ↓reduceIte, not_true_eq_false, not_false_eq_true]
  · rw [if_neg h]
    simp (disch := first | assumption | omega | exact notL_I | exact notL_N | exact notL_R | exact catS_le (Nat.le_of_ble_eq_true rfl) | exact ooRo (by assumption) | exact ooAt (by assumption) | exact ooRu (by assumption) | exact ooLo (by assumption) | exact ooHa (by assumption) | exact ooLe (by assumption) | exact ooFn | exact ooAn | exact ooPa | exact ooTo | exact ooWa | exact ooCh | rfl) only [x55_0, x55_1, x55_2, x55_5, x55_8, x55_9, x55_10, x55_11, x55_14, x55_15, x55_18, x55_19, x55_22, x55_23, x55_24, x55_27, x55_28, x55_31, x55_32, x55_33, x55_34, x55_37, x55_38, x55_41, x55_42, x55_43, x55_44, x55_45, x55_46, x55_49, x55_50, x55_53, x55_54, x55_55, x55_56, x55_57, x55_58, x55_59, x55_60, x55_63, x55_64, x55_67, x55_68, x55_69, x55_70, x55_71, x55_73, x55_74, x55_75, x55_76, x55_79, x55_80, x55_81, x55_84, x55_85, x55_87, x55_90, x55_91I, x55_91, x55_92, x55_95, x55_96, x55_97, x55_100, x55_101I, x55_101, x55_102, x55_105, x55_106, x55_107, x55_110, x55_111, x55_114, x55_115, x55_116, s_room, Kc_some, if_pos, if_neg, ↓reduceIte, not_true_eq_false, not_false_eq_true]
theorem s_removeAt {p : Int} (o : oRo r) (p0 : 0 ≤ p) (p1 : p < σ r 0) (W : WfRo σ r) : Ex sc d 90 0 [some (vR r), some (vI p), none] [] (wH σ u) Q ↔ Q (.inl none) (wH (rmS σ r p) u) := by
  have w := W.1
  unfold rmS
  simp (disch := first | assumption | omega | exact notL_I | exact notL_N | exact notL_R | exact catS_le (Nat.le_of_ble_eq_true rfl) | exact ooRo (by assumption) | exact ooAt (by assumption) | exact ooRu (by assumption) | exact ooLo (by assumption) | exact ooHa (by assumption) | exact ooLe (by assumption) | exact ooFn | exact ooAn | exact ooPa | exact ooTo | exact ooWa | exact ooCh | rfl) only [x90_0, x90_1, x90_4, x90_5, x90_6, x90_9, x90_12, x90_13, x90_14, x90_17, x90_18, x90_19, x90_20, x90_21, x90_22, x90_23, x90_26, x90_27, x90_28, x90_29, x90_30, x90_33, x90_34, x90_35, x90_38, x90_39, x90_42, x90_43, x90_44, x90_45, x90_46, x90_49, x90_50, x90_51, x90_54, x90_55, x90_58, x90_59, x90_60, x90_61, x90_62, x90_63, x90_64, x90_67, x90_68, x90_69, x90_70, x90_71, x90_72, x90_73, x90_76, x90_77I, x90_77, x90_78, x90_81, x90_82, x90_83, x90_86, gRo_count, gRo_number, gRo_table, gRo_term, pRo_count, Cp_w (sRo_number o).1 (sRo_number o).1 (sRo_number o).2 (sRo_number o).2 (by decide) (by decide), Cp_w (sRo_table o).1 (sRo_table o).1 (sRo_table o).2 (sRo_table o).2 (by decide) (by decide), Cp_w (sRo_term o).1 (sRo_term o).1 (sRo_term o).2 (sRo_term o).2 (by decide) (by decide), scp_ne, if_pos, if_neg, ↓reduceIte, not_true_eq_false, not_false_eq_true]
end C1b
