/-! rows, atoms, rules, logs of the class: the rest of the small methods -/
theorem apt_ne {q r n i j : Nat} (h : apt q r n) (hi : i < n) (hj : j < n) : q + i ≠ r + j := by unfold apt at h; omega
def nsL (L : List Rw) : Int := tabF (fun k => bI (mtL L (1000 + k))) 100 0
section C2
variable {sc : Scr} {σ : St} {u : Bool × Nat × Nat × Int} {Q : Rs → HS → Prop} {d : Nat} {r q : Nat}
theorem l_mentR {v : Int} (o : oRo r) (hv : inR v) (W : WfRo σ r) : ∀ (k : Nat) (i : Int), 0 ≤ i → i + k = σ r 0 * 3 → (Ex sc d 78 2 [some (vR r), some (vI v), some (vI i)] [] (wH σ u) Q ↔ Q (.inl (some (vI (bI (anyF (σ (r + 3)) v k i))))) (wH σ u)) := by
  obtain ⟨v1, v2⟩ := hv
  have w := W.1
  intro k
  induction k with
  | zero =>
    intro i h0 hk
    rw [x78_2]
    simp (disch := first | assumption | omega | exact notL_I | exact notL_N | exact notL_R | exact catS_le (Nat.le_of_ble_eq_true rfl) | exact ooRo (by assumption) | exact ooAt (by assumption) | exact ooRu (by assumption) | exact ooLo (by assumption) | exact ooHa (by assumption) | exact ooLe (by assumption) | exact ooFn | exact ooAn | exact ooPa | exact ooTo | exact ooWa | exact ooCh | rfl) only [x78_0, x78_1, x78_3, x78_4, x78_7, x78_8, x78_9, x78_12, x78_13, x78_16, x78_17, x78_18, x78_19, x78_22, x78_23, x78_24, x78_27, x78_30, x78_31, gRo_count, if_pos, if_neg, ↓reduceIte, not_true_eq_false, not_false_eq_true]
    rfl
  | succ k ih =>
    intro i h0 hk
    have w2 := W.2.2.2.1 i h0 (by omega)
    rw [x78_2, anyF]
    by_cases h : σ (r + 3) i = v
    · rw [if_pos h, bI_t]
      simp (disch := first | assumption | omega | exact notL_I | exact notL_N | exact notL_R | exact catS_le (Nat.le_of_ble_eq_true rfl) | exact ooRo (by assumption) | exact ooAt (by assumption) | exact ooRu (by assumption) | exact ooLo (by assumption) | exact ooHa (by assumption) | exact ooLe (by assumption) | exact ooFn | exact ooAn | exact ooPa | exact ooTo | exact ooWa | exact ooCh | rfl) only [x78_0, x78_1, x78_3, x78_4, x78_7, x78_8, x78_9, x78_12, x78_13, x78_16, x78_17, x78_18, x78_19, x78_22, x78_23, x78_24, x78_27, x78_30, x78_31, gRo_count, gRo_term, RRo_term, if_pos, if_neg, ↓reduceIte, not_true_eq_false, not_false_eq_true]
    · rw [if_neg h]
      simp (disch := first | assumption | omega | exact notL_I | exact notL_N | exact notL_R | exact catS_le (Nat.le_of_ble_eq_true rfl) | exact ooRo (by assumption) | exact ooAt (by assumption) | exact ooRu (by assumption) | exact ooLo (by assumption) | exact ooHa (by assumption) | exact ooLe (by assumption) | exact ooFn | exact ooAn | exact ooPa | exact ooTo | exact ooWa | exact ooCh | rfl) only [x78_0, x78_1, x78_3, x78_4, x78_7, x78_8, x78_9, x78_12, x78_13, x78_16, x78_17, x78_18, x78_19, x78_22, x78_23, x78_24, x78_27, x78_30, x78_31, gRo_count, gRo_term, RRo_term, if_pos, if_neg, ↓reduceIte, not_true_eq_false, not_false_eq_true]
      exact ih (i + 1) (by omega) (by omega)
theorem s_mentR {v : Int} (o : oRo r) (hv : inR v) (W : WfRo σ r) : Ex sc d 78 0 [some (vR r), some (vI v), none] [] (wH σ u) Q ↔ Q (.inl (some (vI (bI (mtL (rsC σ r) v))))) (wH σ u) := by
  have w := W.1
  have e := l_mentR (sc := sc) (u := u) (Q := Q) (d := d) o hv W ((σ r 0).toNat * 3) 0 (by omega) (by omega)
  have e2 := any_rows (σ := σ) (r := r) (v := v) (σ r 0).toNat 0
  rw [show (0 : Int) * 3 = 0 from rfl] at e2
  rw [e2] at e
  refine Iff.trans ?_ e
  simp (disch := first | assumption | omega | exact notL_I | exact notL_N | exact notL_R | exact catS_le (Nat.le_of_ble_eq_true rfl) | exact ooRo (by assumption) | exact ooAt (by assumption) | exact ooRu (by assumption) | exact ooLo (by assumption) | exact ooHa (by assumption) | exact ooLe (by assumption) | exact ooFn | exact ooAn | exact ooPa | exact ooTo | exact ooWa | exact ooCh | rfl) only [x78_0, x78_1]
theorem l_leastU (o : oRo r) (W : WfRo σ r) : ∀ (n : Nat) (k : Int), 0 ≤ k → k + n = 100 → ∀ l1, (Ex sc d 79 2 [some (vR r), l1, some (vI k)] [] (wH σ u) Q ↔ Q (.inl (some (vI (leF (naC σ r) n k)))) (wH σ u)) := by
  intro n
  induction n with
  | zero =>
    intro k h0 hk l1
    obtain rfl : k = 100 := by omega
    rw [x79_2]
    simp (disch := first | assumption | omega | exact notL_I | exact notL_N | exact notL_R | exact catS_le (Nat.le_of_ble_eq_true rfl) | exact ooRo (by assumption) | exact ooAt (by assumption) | exact ooRu (by assumption) | exact ooLo (by assumption) | exact ooHa (by assumption) | exact ooLe (by assumption) | exact ooFn | exact ooAn | exact ooPa | exact ooTo | exact ooWa | exact ooCh | rfl) only [x79_0, x79_1, x79_3, x79_6, x79_7, x79_9, x79_12, x79_13, x79_16, x79_17, x79_18, x79_21, x79_22, x79_23, x79_26, x79_29, x79_31, if_pos, if_neg, ↓reduceIte, not_true_eq_false, not_false_eq_true]
    rfl
  | succ n ih =>
    intro k h0 hk l1
    have w := W.2.2.2.2 k h0 (by omega)
    have e : naC σ r k = σ (r + 4) k := by unfold naC; rw [if_pos (by omega)]
    rw [x79_2, leF, e]
    rcases w with w | w
    · simp (disch := first | assumption | omega | exact notL_I | exact notL_N | exact notL_R | exact catS_le (Nat.le_of_ble_eq_true rfl) | exact ooRo (by assumption) | exact ooAt (by assumption) | exact ooRu (by assumption) | exact ooLo (by assumption) | exact ooHa (by assumption) | exact ooLe (by assumption) | exact ooFn | exact ooAn | exact ooPa | exact ooTo | exact ooWa | exact ooCh | rfl) only [x79_0, x79_1, x79_3, x79_6, x79_7, x79_9, x79_12, x79_13, x79_16, x79_17, x79_18, x79_21, x79_22, x79_23, x79_26, x79_29, x79_31, gRo_used, RRo_used, w, if_pos, if_neg, ↓reduceIte, not_true_eq_false, not_false_eq_true]
    · simp (disch := first | assumption | omega | exact notL_I | exact notL_N | exact notL_R | exact catS_le (Nat.le_of_ble_eq_true rfl) | exact ooRo (by assumption) | exact ooAt (by assumption) | exact ooRu (by assumption) | exact ooLo (by assumption) | exact ooHa (by assumption) | exact ooLe (by assumption) | exact ooFn | exact ooAn | exact ooPa | exact ooTo | exact ooWa | exact ooCh | rfl) only [x79_0, x79_1, x79_3, x79_6, x79_7, x79_9, x79_12, x79_13, x79_16, x79_17, x79_18, x79_21, x79_22, x79_23, x79_26, x79_29, x79_31, gRo_used, RRo_used, w, if_pos, if_neg, ↓reduceIte, not_true_eq_false, not_false_eq_true]
      exact ih (k + 1) (by omega) (by omega) l1
theorem s_leastU {k : Int} (o : oRo r) (W : WfRo σ r) (k0 : 0 ≤ k) (k1 : k ≤ 100) : Ex sc d 79 0 [some (vR r), some (vI k), none] [] (wH σ u) Q ↔ Q (.inl (some (vI (leF (naC σ r) (100 - k).toNat k)))) (wH σ u) := by
  have e := l_leastU (sc := sc) (u := u) (Q := Q) (d := d) o W (100 - k).toNat k k0 (by omega) (some (vI k))
  refine Iff.trans ?_ e
  simp (disch := first | assumption | omega | exact notL_I | exact notL_N | exact notL_R | exact catS_le (Nat.le_of_ble_eq_true rfl) | exact ooRo (by assumption) | exact ooAt (by assumption) | exact ooRu (by assumption) | exact ooLo (by assumption) | exact ooHa (by assumption) | exact ooLe (by assumption) | exact ooFn | exact ooAn | exact ooPa | exact ooTo | exact ooWa | exact ooCh | rfl) only [x79_0, x79_1]
theorem l_cntN (o : oRo r) (W : WfRo σ r) (hd : 1 ≤ d) (hU : ∀ k, 0 ≤ k → k < 100 → mtL (rsC σ r) (1000 + k) = true → σ (r + 4) k = 1) : ∀ (n : Nat) (k c : Int), 0 ≤ k → k + n = 100 → (Ex sc d 77 4 [some (vR r), some (vI c), some (vI k)] [] (wH σ u) Q ↔ Q (.inl (some (vI (c + tabF (fun k => bI (mtL (rsC σ r) (1000 + k))) n k)))) (wH σ u)) := by
  intro n
  induction n with
  | zero =>
    intro k c h0 hk
    obtain rfl : k = 100 := by omega
    rw [x77_4]
    simp (disch := first | assumption | omega | exact notL_I | exact notL_N | exact notL_R | exact catS_le (Nat.le_of_ble_eq_true rfl) | exact ooRo (by assumption) | exact ooAt (by assumption) | exact ooRu (by assumption) | exact ooLo (by assumption) | exact ooHa (by assumption) | exact ooLe (by assumption) | exact ooFn | exact ooAn | exact ooPa | exact ooTo | exact ooWa | exact ooCh | rfl) only [x77_0, x77_1, x77_2, x77_3, x77_5, x77_7, x77_10, x77_11, x77_14, x77_15, x77_16, x77_17, x77_20, x77_21, x77_24, x77_25, x77_26, x77_29, x77_32, x77_35, x77_38, x77_41, x77_42, if_pos, if_neg, ↓reduceIte, not_true_eq_false, not_false_eq_true]
    rw [tabF, Int.add_zero]
  | succ n ih =>
    intro k c h0 hk
    have w := W.2.2.2.2 k h0 (by omega)
    have hu := hU k h0 (by omega)
    rw [x77_4, tabF]
    cases hb : mtL (rsC σ r) (1000 + k) with
    | true =>
      rw [bI_t, if_pos (by omega)]
      simp (disch := first | assumption | omega | exact notL_I | exact notL_N | exact notL_R | exact catS_le (Nat.le_of_ble_eq_true rfl) | exact ooRo (by assumption) | exact ooAt (by assumption) | exact ooRu (by assumption) | exact ooLo (by assumption) | exact ooHa (by assumption) | exact ooLe (by assumption) | exact ooFn | exact ooAn | exact ooPa | exact ooTo | exact ooWa | exact ooCh | rfl) only [x77_0, x77_1, x77_2, x77_3, x77_5, x77_7, x77_10, x77_11, x77_14, x77_15, x77_16, x77_17, x77_20, x77_21, x77_24, x77_25, x77_26, x77_29, x77_32, x77_35, x77_38, x77_41, x77_42, gRo_used, RRo_used, hu hb, s_mentR, Kc_some, hb, bI_t, ih, if_pos, if_neg, ↓reduceIte, not_true_eq_false, not_false_eq_true]
      rw [Int.add_assoc]
    | false =>
      rw [bI_f, if_neg (by omega), Int.zero_add]
      rcases w with w | w
      · simp (disch := first | assumption | omega | exact notL_I | exact notL_N | exact notL_R | exact catS_le (Nat.le_of_ble_eq_true rfl) | exact ooRo (by assumption) | exact ooAt (by assumption) | exact ooRu (by assumption) | exact ooLo (by assumption) | exact ooHa (by assumption) | exact ooLe (by assumption) | exact ooFn | exact ooAn | exact ooPa | exact ooTo | exact ooWa | exact ooCh | rfl) only [x77_0, x77_1, x77_2, x77_3, x77_5, x77_7, x77_10, x77_11, x77_14, x77_15, x77_16, x77_17, x77_20, x77_21, x77_24, x77_25, x77_26, x77_29, x77_32, x77_35, x77_38, x77_41, x77_42, gRo_used, RRo_used, w, ih, if_pos, if_neg, ↓reduceIte, not_true_eq_false, not_false_eq_true]
      · simp (disch := first | assumption | omega | exact notL_I | exact notL_N | exact notL_R | exact catS_le (Nat.le_of_ble_eq_true rfl) | exact ooRo (by assumption) | exact ooAt (by assumption) | exact ooRu (by assumption) | exact ooLo (by assumption) | exact ooHa (by assumption) | exact ooLe (by assumption) | exact ooFn | exact ooAn | exact ooPa | exact ooTo | exact ooWa | exact ooCh | rfl) only [x77_0, x77_1, x77_2, x77_3, x77_5, x77_7, x77_10, x77_11, x77_14, x77_15, x77_16, x77_17, x77_20, x77_21, x77_24, x77_25, x77_26, x77_29, x77_32, x77_35, x77_38, x77_41, x77_42, gRo_used, RRo_used, w, s_mentR, Kc_some, hb, bI_f, ih, if_pos, if_neg, ↓reduceIte, not_true_eq_false, not_false_eq_true]
theorem s_cntN (o : oRo r) (W : WfRo σ r) (hd : 1 ≤ d) (hU : ∀ k, 0 ≤ k → k < 100 → mtL (rsC σ r) (1000 + k) = true → σ (r + 4) k = 1) : Ex sc d 77 0 [some (vR r), none, none] [] (wH σ u) Q ↔ Q (.inl (some (vI (nsL (rsC σ r))))) (wH σ u) := by
  have e := l_cntN (sc := sc) (u := u) (Q := Q) (d := d) o W hd hU 100 0 0 (by omega) (by omega)
  rw [Int.zero_add] at e
  refine Iff.trans ?_ e
  simp (disch := first | assumption | omega | exact notL_I | exact notL_N | exact notL_R | exact catS_le (Nat.le_of_ble_eq_true rfl) | exact ooRo (by assumption) | exact ooAt (by assumption) | exact ooRu (by assumption) | exact ooLo (by assumption) | exact ooHa (by assumption) | exact ooLe (by assumption) | exact ooFn | exact ooAn | exact ooPa | exact ooTo | exact ooWa | exact ooCh | rfl) only [x77_0, x77_1, x77_2, x77_3]
theorem s_clearR (o : oRo r) (hd : 1 ≤ d) : Ex sc d 37 0 [some (vR r)] [] (wH σ u) Q ↔ Q (.inl none) (wH (fl (su (su σ r 0 0) r 1 0) (r + 4) 0 100 0) u) := by
  simp (disch := first | assumption | omega | exact notL_I | exact notL_N | exact notL_R | exact catS_le (Nat.le_of_ble_eq_true rfl) | exact ooRo (by assumption) | exact ooAt (by assumption) | exact ooRu (by assumption) | exact ooLo (by assumption) | exact ooHa (by assumption) | exact ooLe (by assumption) | exact ooFn | exact ooAn | exact ooPa | exact ooTo | exact ooWa | exact ooCh | rfl) only [x37_0, x37_1, x37_2, x37_5, x37_6, x37_7, x37_10, x37_11, x37_14, x37_15, x37_18, pRo_count, pRo_nextNumber, gRo_used, s_fill (sRo_used o).1 (sRo_used o).2 (by decide), Kc_none]
  rfl
theorem s_takeR (oq : oRo q) (o : oRo r) (h : apt q r 5) : Ex sc d 71 0 [some (vR r), some (vR q)] [] (wH σ u) Q ↔ Q (.inl none) (wH (cpRo σ q r) u) := by
  have n1 : q ≠ r := fun e => apt_ne (i := 0) (j := 0) h (by omega) (by omega) e
  unfold cpRo
  simp (disch := first | assumption | omega | exact notL_I | exact notL_N | exact notL_R | exact catS_le (Nat.le_of_ble_eq_true rfl) | exact ooRo (by assumption) | exact ooAt (by assumption) | exact ooRu (by assumption) | exact ooLo (by assumption) | exact ooHa (by assumption) | exact ooLe (by assumption) | exact ooFn | exact ooAn | exact ooPa | exact ooTo | exact ooWa | exact ooCh | rfl) only [x71_0, x71_1, x71_2, x71_5, x71_8, x71_9, x71_10, x71_13, x71_16, x71_17, x71_20, x71_21, x71_22, x71_25, x71_26, x71_28, x71_31, x71_32, x71_35, x71_36, x71_37, x71_40, x71_41, x71_43, x71_46, x71_47, x71_50, x71_51, x71_52, x71_55, x71_56, x71_58, x71_61, x71_62, x71_65, x71_66, x71_67, x71_70, x71_71, x71_73, x71_76, gRo_count, gRo_nextNumber, gRo_number, gRo_table, gRo_term, gRo_used, pRo_count, pRo_nextNumber, su_ne, Cp_w (sRo_number oq).1 (sRo_number o).1 (sRo_number oq).2 (sRo_number o).2 (by decide) (by decide), Cp_w (sRo_table oq).1 (sRo_table o).1 (sRo_table oq).2 (sRo_table o).2 (by decide) (by decide), Cp_w (sRo_term oq).1 (sRo_term o).1 (sRo_term oq).2 (sRo_term o).2 (by decide) (by decide), Cp_w (sRo_used oq).1 (sRo_used o).1 (sRo_used oq).2 (sRo_used o).2 (by decide) (by decide), if_pos, if_neg, ↓reduceIte, not_true_eq_false, not_false_eq_true]
theorem l_melt1 {a b : Int} (o : oRo r) (ha : inR a) (W : WfRo σ r) : ∀ (k : Nat) (i : Int), 0 ≤ i → i + k = σ r 0 * 3 → (Ex sc d 120 2 [some (vR r), some (vI a), some (vI b), some (vI i), none] [] (wH (mlS σ r a b i) u) Q ↔ Ex sc d 120 35 [some (vR r), some (vI a), some (vI b), some (vI (σ r 0 * 3)), none] [] (wH (mlS σ r a b (σ r 0 * 3)) u) Q) := by
  obtain ⟨a1, a2⟩ := ha
  have w := W.1
  have e0 : ∀ i, mlS σ r a b i r = σ r := fun i => mlS_ne (by omega)
  intro k
  induction k with
  | zero =>
    intro i h0 hk
    obtain rfl : i = σ r 0 * 3 := by omega
    rw [x120_2]
    simp (disch := first | assumption | omega | exact notL_I | exact notL_N | exact notL_R | exact catS_le (Nat.le_of_ble_eq_true rfl) | exact ooRo (by assumption) | exact ooAt (by assumption) | exact ooRu (by assumption) | exact ooLo (by assumption) | exact ooHa (by assumption) | exact ooLe (by assumption) | exact ooFn | exact ooAn | exact ooPa | exact ooTo | exact ooWa | exact ooCh | rfl) only [x120_0, x120_1, x120_3, x120_4, x120_7, x120_8, x120_9, x120_12, x120_13, x120_16, x120_17, x120_18, x120_19, x120_22, x120_23, x120_26, x120_27, x120_28, x120_29, x120_32, x120_36, x120_39, x120_40, x120_41, x120_42, x120_43, x120_46, x120_47, x120_48, x120_49, x120_51, x120_52, x120_53, x120_56, x120_57, x120_58, x120_59, x120_62, x120_64, x120_65, x120_66, x120_69, x120_71, x120_72, x120_73, x120_74, x120_75, x120_78, x120_80, x120_81, x120_82, x120_83, x120_86, x120_87, x120_90, x120_91, x120_92, x120_95, x120_98, x120_101, gRo_count, e0, if_pos, if_neg, ↓reduceIte, not_true_eq_false, not_false_eq_true]
  | succ k ih =>
    intro i h0 hk
    have w2 := W.2.2.2.1 i h0 (by omega)
    have e1 : mlS σ r a b i (r + 3) i = σ (r + 3) i := by rw [mlS_at, if_neg (by omega)]
    rw [x120_2]
    by_cases h : σ (r + 3) i = a
    · simp (disch := first | assumption | omega | exact notL_I | exact notL_N | exact notL_R | exact catS_le (Nat.le_of_ble_eq_true rfl) | exact ooRo (by assumption) | exact ooAt (by assumption) | exact ooRu (by assumption) | exact ooLo (by assumption) | exact ooHa (by assumption) | exact ooLe (by assumption) | exact ooFn | exact ooAn | exact ooPa | exact ooTo | exact ooWa | exact ooCh | rfl) only [x120_0, x120_1, x120_3, x120_4, x120_7, x120_8, x120_9, x120_12, x120_13, x120_16, x120_17, x120_18, x120_19, x120_22, x120_23, x120_26, x120_27, x120_28, x120_29, x120_32, x120_36, x120_39, x120_40, x120_41, x120_42, x120_43, x120_46, x120_47, x120_48, x120_49, x120_51, x120_52, x120_53, x120_56, x120_57, x120_58, x120_59, x120_62, x120_64, x120_65, x120_66, x120_69, x120_71, x120_72, x120_73, x120_74, x120_75, x120_78, x120_80, x120_81, x120_82, x120_83, x120_86, x120_87, x120_90, x120_91, x120_92, x120_95, x120_98, x120_101, gRo_count, gRo_term, RRo_term, WRo_term, e0, e1, if_pos, if_neg, ↓reduceIte, not_true_eq_false, not_false_eq_true]
      rw [mlS_y h0 h]
      exact ih (i + 1) (by omega) (by omega)
    · simp (disch := first | assumption | omega | exact notL_I | exact notL_N | exact notL_R | exact catS_le (Nat.le_of_ble_eq_true rfl) | exact ooRo (by assumption) | exact ooAt (by assumption) | exact ooRu (by assumption) | exact ooLo (by assumption) | exact ooHa (by assumption) | exact ooLe (by assumption) | exact ooFn | exact ooAn | exact ooPa | exact ooTo | exact ooWa | exact ooCh | rfl) only [x120_0, x120_1, x120_3, x120_4, x120_7, x120_8, x120_9, x120_12, x120_13, x120_16, x120_17, x120_18, x120_19, x120_22, x120_23, x120_26, x120_27, x120_28, x120_29, x120_32, x120_36, x120_39, x120_40, x120_41, x120_42, x120_43, x120_46, x120_47, x120_48, x120_49, x120_51, x120_52, x120_53, x120_56, x120_57, x120_58, x120_59, x120_62, x120_64, x120_65, x120_66, x120_69, x120_71, x120_72, x120_73, x120_74, x120_75, x120_78, x120_80, x120_81, x120_82, x120_83, x120_86, x120_87, x120_90, x120_91, x120_92, x120_95, x120_98, x120_101, gRo_count, gRo_term, RRo_term, WRo_term, e0, e1, if_pos, if_neg, ↓reduceIte, not_true_eq_false, not_false_eq_true]
      rw [mlS_n h]
      exact ih (i + 1) (by omega) (by omega)
theorem l_melt2 {a b : Int} (o : oRo r) (hd : 1 ≤ d) : ∀ (k : Nat) (τ : St), WfRo τ r → (k : Int) < τ r 0 ∨ k = 0 → ∃ τ', FrR r τ τ' ∧ WfRo τ' r ∧ rsC τ' r = ddE (rsC τ r) k ∧ naC τ' r = naC τ r ∧ τ' r 1 = τ r 1 ∧ ∀ (u : Bool × Nat × Nat × Int) (Q : Rs → HS → Prop) (l4 : Option V), Ex sc d 120 42 [some (vR r), some (vI a), some (vI b), some (vI ((k : Int))), l4] [] (wH τ u) Q ↔ Q (.inl none) (wH τ' u) := by
  intro k
  induction k with
  | zero =>
    intro τ W hk
    refine ⟨τ, FrR.refl, W, rfl, rfl, rfl, fun u Q l4 => ?_⟩
    rw [x120_42]
    simp (disch := first | assumption | omega | exact notL_I | exact notL_N | exact notL_R | exact catS_le (Nat.le_of_ble_eq_true rfl) | exact ooRo (by assumption) | exact ooAt (by assumption) | exact ooRu (by assumption) | exact ooLo (by assumption) | exact ooHa (by assumption) | exact ooLe (by assumption) | exact ooFn | exact ooAn | exact ooPa | exact ooTo | exact ooWa | exact ooCh | rfl) only [x120_0, x120_1, x120_2, x120_3, x120_4, x120_7, x120_8, x120_9, x120_12, x120_13, x120_16, x120_17, x120_18, x120_19, x120_22, x120_23, x120_26, x120_27, x120_28, x120_29, x120_32, x120_35, x120_36, x120_39, x120_40, x120_41, x120_43, x120_46, x120_47, x120_48, x120_49, x120_51, x120_52, x120_53, x120_56, x120_57, x120_58, x120_59, x120_62, x120_64, x120_65, x120_66, x120_69, x120_71, x120_72, x120_73, x120_74, x120_75, x120_78, x120_80, x120_81, x120_82, x120_83, x120_86, x120_87, x120_90, x120_91, x120_92, x120_95, x120_98, x120_101, if_pos, if_neg, ↓reduceIte, not_true_eq_false, not_false_eq_true]
  | succ k ih =>
    intro τ W hk
    have w := W.1
    have hk1 : ((k + 1 : Nat) : Int) < τ r 0 := by omega
    have w2 := (W.2.2.1 (k + 1 : Nat) (by omega) (by omega)).2
    have w3 := W.2.2.2.1 (((k + 1 : Nat) : Int) * 3) (by omega) (by omega)
    have w4 := W.2.2.2.1 (((k + 1 : Nat) : Int) * 3 + 1) (by omega) (by omega)
    have w5 := W.2.2.2.1 (((k + 1 : Nat) : Int) * 3 + 2) (by omega) (by omega)
    have g := rsC_get (σ := τ) (r := r) (p := (k + 1 : Nat)) (by omega) hk1
    rw [Int.toNat_natCast] at g
    obtain ⟨p0, p1, p2⟩ := pos_mem g
    have fc := fun u Q => s_findC (sc := sc) (σ := τ) (u := u) (Q := Q) (d := d - 1) (t := τ (r + 2) (k + 1 : Nat)) (x := τ (r + 3) (((k + 1 : Nat) : Int) * 3)) (y := τ (r + 3) (((k + 1 : Nat) : Int) * 3 + 1)) (z := τ (r + 3) (((k + 1 : Nat) : Int) * 3 + 2)) o ⟨by omega, by omega⟩ ⟨by omega, by omega⟩ ⟨by omega, by omega⟩ ⟨by omega, by omega⟩ W
    rw [show (τ (r + 2) (k + 1 : Nat), τ (r + 3) (((k + 1 : Nat) : Int) * 3), τ (r + 3) (((k + 1 : Nat) : Int) * 3 + 1), τ (r + 3) (((k + 1 : Nat) : Int) * 3 + 2)) = (rwC τ r (k + 1 : Nat)).2 from rfl] at fc
    generalize posF (fun v => decide (v.2 = (rwC τ r (k + 1 : Nat)).2)) (rsC τ r) 0 = pp at *
    have eg : ((k + 1 : Nat) : Int) + -1 = (k : Int) := by omega
    by_cases hp : pp < ((k + 1 : Nat) : Int)
    · obtain ⟨τ', h1, h2, h3, h4, h5, h6⟩ := ih (rmS τ r (k + 1 : Nat)) (rmS_wf W (by omega) hk1) (by rw [rmS_r.2.1, if_pos rfl]; omega)
      refine ⟨τ', rmS_r.1.trans h1, h2, ?_, h4.trans rmS_na, h5.trans (by rw [rmS_r.2.1, if_neg (by omega)]), fun u Q l4 => ?_⟩
      · rw [h3, rmS_rs W (by omega) hk1, Int.toNat_natCast, ddE, g]
        dsimp only
        rw [if_pos (p2.mp hp)]
      · have h6' := h6 u Q (some (vI (((k + 1 : Nat) : Int) * 3)))
        rw [x120_42]
        simp (disch := first | assumption | omega | exact notL_I | exact notL_N | exact notL_R | exact catS_le (Nat.le_of_ble_eq_true rfl) | exact ooRo (by assumption) | exact ooAt (by assumption) | exact ooRu (by assumption) | exact ooLo (by assumption) | exact ooHa (by assumption) | exact ooLe (by assumption) | exact ooFn | exact ooAn | exact ooPa | exact ooTo | exact ooWa | exact ooCh | rfl) only [x120_0, x120_1, x120_2, x120_3, x120_4, x120_7, x120_8, x120_9, x120_12, x120_13, x120_16, x120_17, x120_18, x120_19, x120_22, x120_23, x120_26, x120_27, x120_28, x120_29, x120_32, x120_35, x120_36, x120_39, x120_40, x120_41, x120_43, x120_46, x120_47, x120_48, x120_49, x120_51, x120_52, x120_53, x120_56, x120_57, x120_58, x120_59, x120_62, x120_64, x120_65, x120_66, x120_69, x120_71, x120_72, x120_73, x120_74, x120_75, x120_78, x120_80, x120_81, x120_82, x120_83, x120_86, x120_87, x120_90, x120_91, x120_92, x120_95, x120_98, x120_101, gRo_table, gRo_term, RRo_table, RRo_term, fc, Kc_some, Kc_none, s_removeAt, if_pos, if_neg, ↓reduceIte, not_true_eq_false, not_false_eq_true]
        rw [eg]
        exact h6'
    · obtain ⟨τ', h1, h2, h3, h4, h5, h6⟩ := ih τ W (by omega)
      refine ⟨τ', h1, h2, ?_, h4, h5, fun u Q l4 => ?_⟩
      · rw [h3, ddE, g]
        dsimp only
        rw [if_neg (fun z => hp (p2.mpr z))]
      · have h6' := h6 u Q (some (vI (((k + 1 : Nat) : Int) * 3)))
        rw [x120_42]
        simp (disch := first | assumption | omega | exact notL_I | exact notL_N | exact notL_R | exact catS_le (Nat.le_of_ble_eq_true rfl) | exact ooRo (by assumption) | exact ooAt (by assumption) | exact ooRu (by assumption) | exact ooLo (by assumption) | exact ooHa (by assumption) | exact ooLe (by assumption) | exact ooFn | exact ooAn | exact ooPa | exact ooTo | exact ooWa | exact ooCh | rfl) only [x120_0, x120_1, x120_2, x120_3, x120_4, x120_7, x120_8, x120_9, x120_12, x120_13, x120_16, x120_17, x120_18, x120_19, x120_22, x120_23, x120_26, x120_27, x120_28, x120_29, x120_32, x120_35, x120_36, x120_39, x120_40, x120_41, x120_43, x120_46, x120_47, x120_48, x120_49, x120_51, x120_52, x120_53, x120_56, x120_57, x120_58, x120_59, x120_62, x120_64, x120_65, x120_66, x120_69, x120_71, x120_72, x120_73, x120_74, x120_75, x120_78, x120_80, x120_81, x120_82, x120_83, x120_86, x120_87, x120_90, x120_91, x120_92, x120_95, x120_98, x120_101, gRo_table, gRo_term, RRo_table, RRo_term, fc, Kc_some, Kc_none, if_pos, if_neg, ↓reduceIte, not_true_eq_false, not_false_eq_true]
        rw [eg]
        exact h6'
theorem s_melt {a b : Int} (o : oRo r) (hd : 1 ≤ d) (ha : inR a) (hb : -1 ≤ b ∧ b ≤ 1099) (W : WfRo σ r) : ∃ τ, FrR r σ τ ∧ WfRo τ r ∧ rsC τ r = meltL (rsC σ r) a b ∧ naC τ r = naC σ r ∧ τ r 1 = σ r 1 ∧ RnA sc d 120 0 [some (vR r), some (vI a), some (vI b), none, none] σ none τ := by
  have w := W.1
  have Wm := mlS_wf (a := a) (k := σ r 0 * 3) W hb
  have rs := mlS_rs (a := a) (b := b) W
  have er : mlS σ r a b (σ r 0 * 3) r = σ r := mlS_ne (by omega)
  have l1 := rsC_len (σ := mlS σ r a b (σ r 0 * 3)) (r := r) (by rw [er]; omega)
  rw [er] at l1
  have en : ∀ u Q, Ex sc d 120 0 [some (vR r), some (vI a), some (vI b), none, none] [] (wH σ u) Q ↔ Ex sc d 120 42 [some (vR r), some (vI a), some (vI b), some (vI (σ r 0 - 1)), none] [] (wH (mlS σ r a b (σ r 0 * 3)) u) Q := by
    intro u Q
    have e := l_melt1 (sc := sc) (u := u) (Q := Q) (d := d) (b := b) o ha W ((σ r 0).toNat * 3) 0 (by omega) (by omega)
    rw [mlS_0] at e
    refine Iff.trans ?_ (e.trans ?_)
    · simp (disch := first | assumption | omega | exact notL_I | exact notL_N | exact notL_R | exact catS_le (Nat.le_of_ble_eq_true rfl) | exact ooRo (by assumption) | exact ooAt (by assumption) | exact ooRu (by assumption) | exact ooLo (by assumption) | exact ooHa (by assumption) | exact ooLe (by assumption) | exact ooFn | exact ooAn | exact ooPa | exact ooTo | exact ooWa | exact ooCh | rfl) only [x120_0, x120_1]
    · simp (disch := first | assumption | omega | exact notL_I | exact notL_N | exact notL_R | exact catS_le (Nat.le_of_ble_eq_true rfl) | exact ooRo (by assumption) | exact ooAt (by assumption) | exact ooRu (by assumption) | exact ooLo (by assumption) | exact ooHa (by assumption) | exact ooLe (by assumption) | exact ooFn | exact ooAn | exact ooPa | exact ooTo | exact ooWa | exact ooCh | rfl) only [x120_35, x120_36, x120_39, x120_40, x120_41, gRo_count, er]
  by_cases hc : σ r 0 = 0
  · refine ⟨mlS σ r a b (σ r 0 * 3), mlS_fr, Wm, ?_, mlS_na, by rw [er], fun u Q => (en u Q).trans ?_⟩
    · have : rsC σ r = [] := List.length_eq_zero_iff.mp (by have := rsC_len (σ := σ) (r := r) (by omega); omega)
      rw [rs, this]
      rfl
    · rw [x120_42]
      simp (disch := first | assumption | omega | exact notL_I | exact notL_N | exact notL_R | exact catS_le (Nat.le_of_ble_eq_true rfl) | exact ooRo (by assumption) | exact ooAt (by assumption) | exact ooRu (by assumption) | exact ooLo (by assumption) | exact ooHa (by assumption) | exact ooLe (by assumption) | exact ooFn | exact ooAn | exact ooPa | exact ooTo | exact ooWa | exact ooCh | rfl) only [x120_0, x120_1, x120_2, x120_3, x120_4, x120_7, x120_8, x120_9, x120_12, x120_13, x120_16, x120_17, x120_18, x120_19, x120_22, x120_23, x120_26, x120_27, x120_28, x120_29, x120_32, x120_35, x120_36, x120_39, x120_40, x120_41, x120_43, x120_46, x120_47, x120_48, x120_49, x120_51, x120_52, x120_53, x120_56, x120_57, x120_58, x120_59, x120_62, x120_64, x120_65, x120_66, x120_69, x120_71, x120_72, x120_73, x120_74, x120_75, x120_78, x120_80, x120_81, x120_82, x120_83, x120_86, x120_87, x120_90, x120_91, x120_92, x120_95, x120_98, x120_101, if_pos, if_neg, ↓reduceIte, not_true_eq_false, not_false_eq_true]
  · obtain ⟨τ, h1, h2, h3, h4, h5, h6⟩ := l_melt2 (sc := sc) (d := d) (a := a) (b := b) o hd (σ r 0 - 1).toNat (mlS σ r a b (σ r 0 * 3)) Wm (by rw [er]; omega)
    refine ⟨τ, mlS_fr.trans h1, h2, ?_, h4.trans mlS_na, h5.trans (by rw [er]), fun u Q => (en u Q).trans ?_⟩
    · have := ddE_eq (σ r 0 - 1).toNat (rsC (mlS σ r a b (σ r 0 * 3)) r) [] (by omega)
      rw [List.append_nil, List.append_nil] at this
      rw [h3, this, rs]
      rfl
    · have := h6 u Q none
      rw [show ((σ r 0 - 1).toNat : Int) = σ r 0 - 1 by omega] at this
      exact this
end C2
