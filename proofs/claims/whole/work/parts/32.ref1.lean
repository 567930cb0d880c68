/-! the reference's small methods -/
theorem catS_le {st : List V} (h : 2 * st.length ≤ 8) : catS st ≤ 8 := by
  have e : ∀ st : List V, catS st ≤ 2 * st.length := by
    intro st
    induction st with
    | nil => exact Nat.le_refl _
    | cons v t ih =>
      rw [List.length_cons]
      rcases v with a | a | (_ | a) | i <;> simp only [catS] <;> omega
  exact Nat.le_trans (e st) h
section R1
variable {sc : Scr} {σ : St} {u : Bool × Nat × Nat × Int} {Q : Rs → HS → Prop} {d : Nat}
theorem inR_b {c : Prop} [Decidable c] : inR (if c then 1 else 0) := by split <;> decide
theorem s_isIn {v a b : Int} (hv : inR v) (ha : inR a) (hb : inR b) : Ex sc d 180 0 [some (vI v), some (vI a), some (vI b)] [] (wH σ u) Q ↔ Q (.inl (some (vI (if a ≤ v ∧ v ≤ b then 1 else 0)))) (wH σ u) := by
  obtain ⟨v1, v2⟩ := hv
  obtain ⟨a1, a2⟩ := ha
  obtain ⟨b1, b2⟩ := hb
  simp (disch := first | omega | exact notL_I | exact notL_N | exact notL_R | exact oM | exact catS_le (Nat.le_of_ble_eq_true rfl) | rfl) only [x180_0, x180_1, x180_2, x180_5, x180_6, x180_7, x180_10, x180_11, x180_14, x180_15]
  by_cases h1 : v < a
  · rw [if_pos h1, if_neg (by omega)]
  · rw [if_neg h1]
    by_cases h2 : b < v
    · rw [if_pos h2, if_neg (by omega)]
    · rw [if_neg h2, if_pos (by omega)]
theorem s_rule {h r f : Int} (h1 : 0 ≤ h) (h2 : h ≤ 4) (r1 : 0 ≤ r) (r2 : r ≤ 9) (f1 : 0 ≤ f) (f2 : f ≤ 29) : Ex sc d 211 0 [some (vR 373), some (vI h), some (vI r), some (vI f)] [] (wH σ u) Q ↔ Q (.inl (some (vI (σ 376 (30 * (10 * h + r) + f))))) (wH σ u) := by
  simp (disch := first | omega | exact notL_I | exact notL_N | exact notL_R | exact oM | exact catS_le (Nat.le_of_ble_eq_true rfl) | rfl) only [x211_0, x211_1, x211_4, x211_6, x211_8, x211_9, x211_10, x211_11, x211_12, x211_13, x211_14, x211_15, x211_16, gM_rules, RM_rules]
theorem s_setRule {h r f v : Int} (h1 : 0 ≤ h) (h2 : h ≤ 4) (r1 : 0 ≤ r) (r2 : r ≤ 9) (f1 : 0 ≤ f) (f2 : f ≤ 29) : Ex sc d 208 0 [some (vR 373), some (vI h), some (vI r), some (vI f), some (vI v)] [] (wH σ u) Q ↔ Q (.inl none) (wH (su σ 376 (30 * (10 * h + r) + f) v) u) := by
  simp (disch := first | omega | exact notL_I | exact notL_N | exact notL_R | exact oM | exact catS_le (Nat.le_of_ble_eq_true rfl) | rfl) only [x208_0, x208_1, x208_4, x208_6, x208_8, x208_9, x208_10, x208_11, x208_12, x208_13, x208_14, x208_15, x208_17, x208_18, gM_rules, WM_rules]
theorem s_atom {h r s i f : Int} (hd : 1 ≤ d) (h1 : 0 ≤ h) (h2 : h ≤ 4) (r1 : 0 ≤ r) (r2 : r ≤ 9) (f1 : 0 ≤ 3 + 4 * (3 * s + i) + f) (f2 : 3 + 4 * (3 * s + i) + f ≤ 29) : Ex sc d 212 0 [some (vR 373), some (vI h), some (vI r), some (vI s), some (vI i), some (vI f)] [] (wH σ u) Q ↔ Q (.inl (some (vI (σ 376 (30 * (10 * h + r) + (3 + 4 * (3 * s + i) + f)))))) (wH σ u) := by
  simp (disch := first | omega | exact notL_I | exact notL_N | exact notL_R | exact oM | exact catS_le (Nat.le_of_ble_eq_true rfl) | rfl) only [x212_0, x212_1, x212_2, x212_3, x212_4, x212_5, x212_6, x212_7, x212_8, x212_10, x212_11, x212_12, x212_13, x212_15, x212_16, x212_19, oM, s_rule, Kc_some]
theorem s_term {h n c : Int} (h1 : 0 ≤ h) (h2 : h ≤ 4) (n1 : 0 ≤ n) (n2 : n ≤ 199) (c1 : 0 ≤ c) (c2 : c ≤ 2) : Ex sc d 203 0 [some (vR 373), some (vI h), some (vI n), some (vI c)] [] (wH σ u) Q ↔ Q (.inl (some (vI (σ 379 (3 * (200 * h + n) + c))))) (wH σ u) := by
  simp (disch := first | omega | exact notL_I | exact notL_N | exact notL_R | exact oM | exact catS_le (Nat.le_of_ble_eq_true rfl) | rfl) only [x203_0, x203_1, x203_4, x203_5, x203_8, x203_9, x203_10, x203_11, x203_12, x203_13, x203_14, x203_15, x203_16, gM_terms, RM_terms]
theorem s_isThere {h n : Int} (h1 : 0 ≤ h) (h2 : h ≤ 4) (n1 : 0 ≤ n) (n2 : n ≤ 199) (W : σ 377 (200 * h + n) = 0 ∨ σ 377 (200 * h + n) = 1) : Ex sc d 201 0 [some (vR 373), some (vI h), some (vI n)] [] (wH σ u) Q ↔ Q (.inl (some (vI (if σ 377 (200 * h + n) = 1 then 1 else 0)))) (wH σ u) := by
  rcases W with W | W
  · simp (disch := first | omega | exact notL_I | exact notL_N | exact notL_R | exact oM | exact catS_le (Nat.le_of_ble_eq_true rfl) | rfl) only [x201_0, x201_1, x201_4, x201_7, x201_8, x201_9, x201_10, x201_11, x201_12, x201_13, x201_16, x201_17, x201_20, x201_21, gM_there, RM_there, W, if_pos, if_neg, ↓reduceIte, not_true_eq_false, not_false_eq_true]
  · simp (disch := first | omega | exact notL_I | exact notL_N | exact notL_R | exact oM | exact catS_le (Nat.le_of_ble_eq_true rfl) | rfl) only [x201_0, x201_1, x201_4, x201_7, x201_8, x201_9, x201_10, x201_11, x201_12, x201_13, x201_16, x201_17, x201_20, x201_21, gM_there, RM_there, W, if_pos, if_neg, ↓reduceIte, not_true_eq_false, not_false_eq_true]
theorem s_table {h n : Int} (h1 : 0 ≤ h) (h2 : h ≤ 4) (n1 : 0 ≤ n) (n2 : n ≤ 199) : Ex sc d 202 0 [some (vR 373), some (vI h), some (vI n)] [] (wH σ u) Q ↔ Q (.inl (some (vI (σ 378 (200 * h + n))))) (wH σ u) := by
  simp (disch := first | omega | exact notL_I | exact notL_N | exact notL_R | exact oM | exact catS_le (Nat.le_of_ble_eq_true rfl) | rfl) only [x202_0, x202_1, x202_4, x202_7, x202_8, x202_9, x202_10, x202_11, x202_12, gM_rowTable, RM_rowTable]
theorem s_colsOf {h t : Int} (h1 : 0 ≤ h) (h2 : h ≤ 4) (t1 : 0 ≤ t) (t2 : t ≤ 25) : Ex sc d 193 0 [some (vR 373), some (vI h), some (vI t)] [] (wH σ u) Q ↔ Q (.inl (some (vI (σ 374 (26 * h + t))))) (wH σ u) := by
  simp (disch := first | omega | exact notL_I | exact notL_N | exact notL_R | exact oM | exact catS_le (Nat.le_of_ble_eq_true rfl) | rfl) only [x193_0, x193_1, x193_4, x193_6, x193_7, x193_8, x193_9, x193_10, x193_11, gM_cols, RM_cols]
theorem s_see {k : Int} (W : WfM σ) (k1 : 0 ≤ k) (k2 : k ≤ 2000) : Ex sc d 187 0 [some (vR 373), some (vI k)] [] (wH σ u) Q ↔ Q (.inl (some (vI (if k < σ 373 14 then σ 386 k else -1)))) (wH σ u) := by
  have w := W.tpd
  by_cases hk : k < σ 373 14
  · have := W.tap (k := k) (by omega) (by omega)
    simp (disch := first | omega | exact notL_I | exact notL_N | exact notL_R | exact oM | exact catS_le (Nat.le_of_ble_eq_true rfl) | rfl) only [x187_0, x187_1, x187_2, x187_5, x187_8, x187_9, x187_12, x187_13, x187_14, x187_17, x187_18, gM_taped, gM_tape, RM_tape, if_pos, if_neg, ↓reduceIte, not_true_eq_false, not_false_eq_true]
  · simp (disch := first | omega | exact notL_I | exact notL_N | exact notL_R | exact oM | exact catS_le (Nat.le_of_ble_eq_true rfl) | rfl) only [x187_0, x187_1, x187_2, x187_5, x187_8, x187_9, x187_12, x187_13, x187_14, x187_17, x187_18, gM_taped, gM_tape, RM_tape, if_pos, if_neg, ↓reduceIte, not_true_eq_false, not_false_eq_true]
theorem s_worth {p : Int} (p1 : -1 ≤ p) (p2 : p ≤ 2025) : Ex sc d 232 0 [some (vR 373), some (vI p)] [] (wH σ u) Q ↔ Q (.inl (some (vI (worthB (σ 389) p)))) (wH σ u) := by
  unfold worthB
  by_cases hp : 2000 ≤ p
  · simp (disch := first | omega | exact notL_I | exact notL_N | exact notL_R | exact oM | exact catS_le (Nat.le_of_ble_eq_true rfl) | rfl) only [x232_0, x232_1, x232_4, x232_7, x232_8, x232_11, x232_12, x232_15, x232_16, x232_17, x232_20, x232_21, gM_bound, RM_bound, if_pos, if_neg, ↓reduceIte, not_true_eq_false, not_false_eq_true]
  · simp (disch := first | omega | exact notL_I | exact notL_N | exact notL_R | exact oM | exact catS_le (Nat.le_of_ble_eq_true rfl) | rfl) only [x232_0, x232_1, x232_4, x232_7, x232_8, x232_11, x232_12, x232_15, x232_16, x232_17, x232_20, x232_21, gM_bound, RM_bound, if_pos, if_neg, ↓reduceIte, not_true_eq_false, not_false_eq_true]
theorem s_noHall {h : Int} (hd : 1 ≤ d) (h1 : inR h) : Ex sc d 182 0 [some (vI h)] [] (wH σ u) Q ↔ Q (.inl (some (vI (if 0 ≤ h ∧ h ≤ 2 then 0 else 1)))) (wH σ u) := by
  obtain ⟨a, b⟩ := h1
  by_cases hp : 0 ≤ h ∧ h ≤ 2
  · simp (disch := first | omega | exact notL_I | exact notL_N | exact notL_R | exact oM | exact catS_le (Nat.le_of_ble_eq_true rfl) | rfl) only [x182_0, x182_1, x182_2, x182_3, x182_6, x182_9, x182_10, x182_13, x182_14, s_isIn, Kc_some, if_pos, if_neg, ↓reduceIte, not_true_eq_false, not_false_eq_true]
  · simp (disch := first | omega | exact notL_I | exact notL_N | exact notL_R | exact oM | exact catS_le (Nat.le_of_ble_eq_true rfl) | rfl) only [x182_0, x182_1, x182_2, x182_3, x182_6, x182_9, x182_10, x182_13, x182_14, s_isIn, Kc_some, if_pos, if_neg, ↓reduceIte, not_true_eq_false, not_false_eq_true]
theorem s_fails {b : Int} (hb : b = 0 ∨ b = 1) : Ex sc d 183 0 [some (vR 373), some (vI b)] [] (wH σ u) Q ↔ Q (.inl (some (vI (b)))) (wH (su σ 373 0 b) u) := by
  rcases hb with rfl | rfl
  · simp (disch := first | omega | exact notL_I | exact notL_N | exact notL_R | exact oM | exact catS_le (Nat.le_of_ble_eq_true rfl) | rfl) only [x183_0, x183_1, x183_2, x183_5, x183_6, x183_9, x183_10, x183_13, x183_14, pM_thrown, if_pos, if_neg, ↓reduceIte, not_true_eq_false, not_false_eq_true]
  · simp (disch := first | omega | exact notL_I | exact notL_N | exact notL_R | exact oM | exact catS_le (Nat.le_of_ble_eq_true rfl) | rfl) only [x183_0, x183_1, x183_2, x183_5, x183_6, x183_9, x183_10, x183_13, x183_14, pM_thrown, if_pos, if_neg, ↓reduceIte, not_true_eq_false, not_false_eq_true]
theorem s_thrown : Ex sc d 177 0 [some (vR 373)] [] (wH σ u) Q ↔ Q (.inl (some (vI (σ 373 0)))) (wH σ u) := by
  simp (disch := first | omega | exact notL_I | exact notL_N | exact notL_R | exact oM | exact catS_le (Nat.le_of_ble_eq_true rfl) | rfl) only [x177_0, x177_1, x177_4, gM_thrown]
theorem s_setStep {h i f v : Int} (h1 : 0 ≤ h) (h2 : h ≤ 4) (i1 : 0 ≤ i) (i2 : i ≤ 127) (f1 : 0 ≤ f) (f2 : f ≤ 7) : Ex sc d 246 0 [some (vR 373), some (vI h), some (vI i), some (vI f), some (vI v)] [] (wH σ u) Q ↔ Q (.inl none) (wH (su σ 384 (8 * (128 * h + i) + f) v) u) := by
  simp (disch := first | omega | exact notL_I | exact notL_N | exact notL_R | exact oM | exact catS_le (Nat.le_of_ble_eq_true rfl) | rfl) only [x246_0, x246_1, x246_4, x246_6, x246_9, x246_10, x246_11, x246_12, x246_13, x246_14, x246_15, x246_16, x246_18, x246_19, gM_steps, WM_steps]
theorem s_stepOf {h i f : Int} (h1 : 0 ≤ h) (h2 : h ≤ 4) (i1 : 0 ≤ i) (i2 : i ≤ 127) (f1 : 0 ≤ f) (f2 : f ≤ 7) : Ex sc d 252 0 [some (vR 373), some (vI h), some (vI i), some (vI f)] [] (wH σ u) Q ↔ Q (.inl (some (vI (σ 384 (8 * (128 * h + i) + f))))) (wH σ u) := by
  simp (disch := first | omega | exact notL_I | exact notL_N | exact notL_R | exact oM | exact catS_le (Nat.le_of_ble_eq_true rfl) | rfl) only [x252_0, x252_1, x252_4, x252_6, x252_9, x252_10, x252_11, x252_12, x252_13, x252_14, x252_15, x252_16, x252_17, gM_steps, RM_steps]
theorem s_isTerm {t : Int} (hd : 1 ≤ d) (h1 : inR t) : Ex sc d 223 0 [some (vI t)] [] (wH σ u) Q ↔ Q (.inl (some (vI (if (0 ≤ t ∧ t ≤ 99) ∨ (1000 ≤ t ∧ t ≤ 1099) then 1 else 0)))) (wH σ u) := by
  obtain ⟨a, b⟩ := h1
  by_cases hp : 0 ≤ t ∧ t ≤ 99
  · simp (disch := first | omega | exact notL_I | exact notL_N | exact notL_R | exact oM | exact catS_le (Nat.le_of_ble_eq_true rfl) | rfl) only [x223_0, x223_1, x223_2, x223_4, x223_7, x223_10, x223_11, x223_14, x223_17, x223_20, x223_23, x223_24, x223_27, x223_28, s_isIn, Kc_some, if_pos, if_neg, ↓reduceIte, not_true_eq_false, not_false_eq_true]
  · by_cases hq : 1000 ≤ t ∧ t ≤ 1099
    · simp (disch := first | omega | exact notL_I | exact notL_N | exact notL_R | exact oM | exact catS_le (Nat.le_of_ble_eq_true rfl) | rfl) only [x223_0, x223_1, x223_2, x223_4, x223_7, x223_10, x223_11, x223_14, x223_17, x223_20, x223_23, x223_24, x223_27, x223_28, s_isIn, Kc_some, if_pos, if_neg, ↓reduceIte, not_true_eq_false, not_false_eq_true]
    · simp (disch := first | omega | exact notL_I | exact notL_N | exact notL_R | exact oM | exact catS_le (Nat.le_of_ble_eq_true rfl) | rfl) only [x223_0, x223_1, x223_2, x223_4, x223_7, x223_10, x223_11, x223_14, x223_17, x223_20, x223_23, x223_24, x223_27, x223_28, s_isIn, Kc_some, if_pos, if_neg, ↓reduceIte, not_true_eq_false, not_false_eq_true]
end R1
