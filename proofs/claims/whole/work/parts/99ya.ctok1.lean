/-! tokens of the class -/
/-- only tokens change -/
def FtC (σ τ : St) : Prop := ∀ c, c < 89 ∨ 92 < c → τ c = σ c
theorem FtC.refl {σ : St} : FtC σ σ := fun _ _ => rfl
theorem FtC.trans {σ τ ρ : St} (h1 : FtC σ τ) (h2 : FtC τ ρ) : FtC σ ρ := fun c h => (h2 c h).trans (h1 c h)
theorem FtC.su_ {σ : St} {c : Nat} {i x : Int} (h : 89 ≤ c ∧ c ≤ 92) : FtC σ (su σ c i x) := fun e he => su_ne (by omega)
/-- the row of tokens -/
def TkI (L : List Ps) (σ : St) : Prop := σ 89 0 = (L.length : Int) ∧ ∀ (i : Nat) (s : Ps), L[i]? = some s → σ 90 i = kdT s.1 ∧ σ 91 i = vlT s.1 ∧ σ 92 i = s.2.1
theorem TkI.c {L : List Ps} {σ τ : St} (H : TkI L σ) (h1 : τ 89 0 = σ 89 0) (h2 : τ 90 = σ 90) (h3 : τ 91 = σ 91) (h4 : τ 92 = σ 92) : TkI L τ := by
  unfold TkI
  rw [h1, h2, h3, h4]
  exact H
def TpC (σ : St) (n : Int) : Prop := (0 ≤ n ∧ n ≤ 1000) ∧ ∀ k, 0 ≤ k → k ≤ 999 → 0 ≤ σ 86 k ∧ σ 86 k ≤ 255
section U5
variable {sc : Scr} {d : Nat} {σ : St}
theorem s_letC {u : Bool × Nat × Nat × Int} {Q : Rs → HS → Prop} {c : Int} (hc : 0 ≤ c ∧ c ≤ 255) : Ex sc d 27 0 [some (vI c)] [] (wH σ u) Q ↔ Q (.inl (some (vI (bI (isLt c))))) (wH σ u) := by
  cases h : isLt c with
  | true =>
    rw [isLt_n] at h
    rw [bI_t]
    rcases h with h | h
    · simp (disch := first | assumption | omega | exact notL_I | exact notL_N | exact notL_R | exact catS_le (Nat.le_of_ble_eq_true rfl) | exact Nat.le_of_ble_eq_true rfl | exact ooRo (by assumption) | exact ooAt (by assumption) | exact ooRu (by assumption) | exact ooLo (by assumption) | exact ooHa (by assumption) | exact ooLe (by assumption) | exact ooFn | exact ooAn | exact ooPa | exact ooTo | exact ooWa | exact ooCh | rfl) only [x27_0, x27_1, x27_3, x27_6, x27_7, x27_9, x27_12, x27_13, x27_15, x27_18, x27_19, x27_21, x27_24, x27_25, x27_28, x27_29, if_pos, if_neg, ↓reduceIte, not_true_eq_false, not_false_eq_true]
    · simp (disch := first | assumption | omega | exact notL_I | exact notL_N | exact notL_R | exact catS_le (Nat.le_of_ble_eq_true rfl) | exact Nat.le_of_ble_eq_true rfl | exact ooRo (by assumption) | exact ooAt (by assumption) | exact ooRu (by assumption) | exact ooLo (by assumption) | exact ooHa (by assumption) | exact ooLe (by assumption) | exact ooFn | exact ooAn | exact ooPa | exact ooTo | exact ooWa | exact ooCh | rfl) only [x27_0, x27_1, x27_3, x27_6, x27_7, x27_9, x27_12, x27_13, x27_15, x27_18, x27_19, x27_21, x27_24, x27_25, x27_28, x27_29, if_pos, if_neg, ↓reduceIte, not_true_eq_false, not_false_eq_true]
  | false =>
    have h' : ¬ ((97 ≤ c ∧ c ≤ 122) ∨ (65 ≤ c ∧ c ≤ 90)) := fun z => by rw [isLt_n.mpr z] at h; cases h
    rw [bI_f]
    by_cases h1 : c < 65
    · simp (disch := first | assumption | omega | exact notL_I | exact notL_N | exact notL_R | exact catS_le (Nat.le_of_ble_eq_true rfl) | exact Nat.le_of_ble_eq_true rfl | exact ooRo (by assumption) | exact ooAt (by assumption) | exact ooRu (by assumption) | exact ooLo (by assumption) | exact ooHa (by assumption) | exact ooLe (by assumption) | exact ooFn | exact ooAn | exact ooPa | exact ooTo | exact ooWa | exact ooCh | rfl) only [x27_0, x27_1, x27_3, x27_6, x27_7, x27_9, x27_12, x27_13, x27_15, x27_18, x27_19, x27_21, x27_24, x27_25, x27_28, x27_29, if_pos, if_neg, ↓reduceIte, not_true_eq_false, not_false_eq_true]
    · by_cases h2 : c < 97
      · simp (disch := first | assumption | omega | exact notL_I | exact notL_N | exact notL_R | exact catS_le (Nat.le_of_ble_eq_true rfl) | exact Nat.le_of_ble_eq_true rfl | exact ooRo (by assumption) | exact ooAt (by assumption) | exact ooRu (by assumption) | exact ooLo (by assumption) | exact ooHa (by assumption) | exact ooLe (by assumption) | exact ooFn | exact ooAn | exact ooPa | exact ooTo | exact ooWa | exact ooCh | rfl) only [x27_0, x27_1, x27_3, x27_6, x27_7, x27_9, x27_12, x27_13, x27_15, x27_18, x27_19, x27_21, x27_24, x27_25, x27_28, x27_29, if_pos, if_neg, ↓reduceIte, not_true_eq_false, not_false_eq_true]
      · simp (disch := first | assumption | omega | exact notL_I | exact notL_N | exact notL_R | exact catS_le (Nat.le_of_ble_eq_true rfl) | exact Nat.le_of_ble_eq_true rfl | exact ooRo (by assumption) | exact ooAt (by assumption) | exact ooRu (by assumption) | exact ooLo (by assumption) | exact ooHa (by assumption) | exact ooLe (by assumption) | exact ooFn | exact ooAn | exact ooPa | exact ooTo | exact ooWa | exact ooCh | rfl) only [x27_0, x27_1, x27_3, x27_6, x27_7, x27_9, x27_12, x27_13, x27_15, x27_18, x27_19, x27_21, x27_24, x27_25, x27_28, x27_29, if_pos, if_neg, ↓reduceIte, not_true_eq_false, not_false_eq_true]
theorem s_digC {u : Bool × Nat × Nat × Int} {Q : Rs → HS → Prop} {c : Int} (hc : 0 ≤ c ∧ c ≤ 255) : Ex sc d 32 0 [some (vI c)] [] (wH σ u) Q ↔ Q (.inl (some (vI (bI (isDg c))))) (wH σ u) := by
  cases h : isDg c with
  | true =>
    rw [isDg_n] at h
    rw [bI_t]
    simp (disch := first | assumption | omega | exact notL_I | exact notL_N | exact notL_R | exact catS_le (Nat.le_of_ble_eq_true rfl) | exact Nat.le_of_ble_eq_true rfl | exact ooRo (by assumption) | exact ooAt (by assumption) | exact ooRu (by assumption) | exact ooLo (by assumption) | exact ooHa (by assumption) | exact ooLe (by assumption) | exact ooFn | exact ooAn | exact ooPa | exact ooTo | exact ooWa | exact ooCh | rfl) only [x32_0, x32_1, x32_3, x32_6, x32_7, x32_9, x32_12, x32_13, x32_16, x32_17, if_pos, if_neg, ↓reduceIte, not_true_eq_false, not_false_eq_true]
  | false =>
    have h' : ¬ (48 ≤ c ∧ c ≤ 57) := fun z => by rw [isDg_n.mpr z] at h; cases h
    rw [bI_f]
    by_cases h1 : c < 48
    · simp (disch := first | assumption | omega | exact notL_I | exact notL_N | exact notL_R | exact catS_le (Nat.le_of_ble_eq_true rfl) | exact Nat.le_of_ble_eq_true rfl | exact ooRo (by assumption) | exact ooAt (by assumption) | exact ooRu (by assumption) | exact ooLo (by assumption) | exact ooHa (by assumption) | exact ooLe (by assumption) | exact ooFn | exact ooAn | exact ooPa | exact ooTo | exact ooWa | exact ooCh | rfl) only [x32_0, x32_1, x32_3, x32_6, x32_7, x32_9, x32_12, x32_13, x32_16, x32_17, if_pos, if_neg, ↓reduceIte, not_true_eq_false, not_false_eq_true]
    · simp (disch := first | assumption | omega | exact notL_I | exact notL_N | exact notL_R | exact catS_le (Nat.le_of_ble_eq_true rfl) | exact Nat.le_of_ble_eq_true rfl | exact ooRo (by assumption) | exact ooAt (by assumption) | exact ooRu (by assumption) | exact ooLo (by assumption) | exact ooHa (by assumption) | exact ooLe (by assumption) | exact ooFn | exact ooAn | exact ooPa | exact ooTo | exact ooWa | exact ooCh | rfl) only [x32_0, x32_1, x32_3, x32_6, x32_7, x32_9, x32_12, x32_13, x32_16, x32_17, if_pos, if_neg, ↓reduceIte, not_true_eq_false, not_false_eq_true]
def sgK (c : Int) : Int := if c = 40 ∨ c = 41 ∨ c = 44 ∨ c = 59 ∨ c = 63 ∨ c = 61 then 500 + c else 1
theorem s_signK {u : Bool × Nat × Nat × Int} {Q : Rs → HS → Prop} {c : Int} (hc : 0 ≤ c ∧ c ≤ 255) : Ex sc d 34 0 [some (vI c)] [] (wH σ u) Q ↔ Q (.inl (some (vI (kdT (sgK c))))) (wH σ u) := by
  unfold sgK
  by_cases h : c = 40 ∨ c = 41 ∨ c = 44 ∨ c = 59 ∨ c = 63 ∨ c = 61
  · rw [if_pos h]
    rcases h with rfl | rfl | rfl | rfl | rfl | rfl
    · rw [show kdT (500 + 40) = 9 by decide]; simp (disch := first | assumption | omega | exact notL_I | exact notL_N | exact notL_R | exact catS_le (Nat.le_of_ble_eq_true rfl) | exact Nat.le_of_ble_eq_true rfl | exact ooRo (by assumption) | exact ooAt (by assumption) | exact ooRu (by assumption) | exact ooLo (by assumption) | exact ooHa (by assumption) | exact ooLe (by assumption) | exact ooFn | exact ooAn | exact ooPa | exact ooTo | exact ooWa | exact ooCh | rfl) only [x34_0, x34_1_40, x34_1_41, x34_1_44, x34_1_59, x34_1_61, x34_1_63, x34_1, x34_60, x34_62, x34_63, x34_65, x34_66, x34_68, x34_69, x34_71, x34_72, x34_74, x34_75, x34_77, x34_78, x34_79]
    · rw [show kdT (500 + 41) = 10 by decide]; simp (disch := first | assumption | omega | exact notL_I | exact notL_N | exact notL_R | exact catS_le (Nat.le_of_ble_eq_true rfl) | exact Nat.le_of_ble_eq_true rfl | exact ooRo (by assumption) | exact ooAt (by assumption) | exact ooRu (by assumption) | exact ooLo (by assumption) | exact ooHa (by assumption) | exact ooLe (by assumption) | exact ooFn | exact ooAn | exact ooPa | exact ooTo | exact ooWa | exact ooCh | rfl) only [x34_0, x34_1_40, x34_1_41, x34_1_44, x34_1_59, x34_1_61, x34_1_63, x34_1, x34_60, x34_62, x34_63, x34_65, x34_66, x34_68, x34_69, x34_71, x34_72, x34_74, x34_75, x34_77, x34_78, x34_79]
    · rw [show kdT (500 + 44) = 11 by decide]; simp (disch := first | assumption | omega | exact notL_I | exact notL_N | exact notL_R | exact catS_le (Nat.le_of_ble_eq_true rfl) | exact Nat.le_of_ble_eq_true rfl | exact ooRo (by assumption) | exact ooAt (by assumption) | exact ooRu (by assumption) | exact ooLo (by assumption) | exact ooHa (by assumption) | exact ooLe (by assumption) | exact ooFn | exact ooAn | exact ooPa | exact ooTo | exact ooWa | exact ooCh | rfl) only [x34_0, x34_1_40, x34_1_41, x34_1_44, x34_1_59, x34_1_61, x34_1_63, x34_1, x34_60, x34_62, x34_63, x34_65, x34_66, x34_68, x34_69, x34_71, x34_72, x34_74, x34_75, x34_77, x34_78, x34_79]
    · rw [show kdT (500 + 59) = 12 by decide]; simp (disch := first | assumption | omega | exact notL_I | exact notL_N | exact notL_R | exact catS_le (Nat.le_of_ble_eq_true rfl) | exact Nat.le_of_ble_eq_true rfl | exact ooRo (by assumption) | exact ooAt (by assumption) | exact ooRu (by assumption) | exact ooLo (by assumption) | exact ooHa (by assumption) | exact ooLe (by assumption) | exact ooFn | exact ooAn | exact ooPa | exact ooTo | exact ooWa | exact ooCh | rfl) only [x34_0, x34_1_40, x34_1_41, x34_1_44, x34_1_59, x34_1_61, x34_1_63, x34_1, x34_60, x34_62, x34_63, x34_65, x34_66, x34_68, x34_69, x34_71, x34_72, x34_74, x34_75, x34_77, x34_78, x34_79]
    · rw [show kdT (500 + 63) = 13 by decide]; simp (disch := first | assumption | omega | exact notL_I | exact notL_N | exact notL_R | exact catS_le (Nat.le_of_ble_eq_true rfl) | exact Nat.le_of_ble_eq_true rfl | exact ooRo (by assumption) | exact ooAt (by assumption) | exact ooRu (by assumption) | exact ooLo (by assumption) | exact ooHa (by assumption) | exact ooLe (by assumption) | exact ooFn | exact ooAn | exact ooPa | exact ooTo | exact ooWa | exact ooCh | rfl) only [x34_0, x34_1_40, x34_1_41, x34_1_44, x34_1_59, x34_1_61, x34_1_63, x34_1, x34_60, x34_62, x34_63, x34_65, x34_66, x34_68, x34_69, x34_71, x34_72, x34_74, x34_75, x34_77, x34_78, x34_79]
    · rw [show kdT (500 + 61) = 14 by decide]; simp (disch := first | assumption | omega | exact notL_I | exact notL_N | exact notL_R | exact catS_le (Nat.le_of_ble_eq_true rfl) | exact Nat.le_of_ble_eq_true rfl | exact ooRo (by assumption) | exact ooAt (by assumption) | exact ooRu (by assumption) | exact ooLo (by assumption) | exact ooHa (by assumption) | exact ooLe (by assumption) | exact ooFn | exact ooAn | exact ooPa | exact ooTo | exact ooWa | exact ooCh | rfl) only [x34_0, x34_1_40, x34_1_41, x34_1_44, x34_1_59, x34_1_61, x34_1_63, x34_1, x34_60, x34_62, x34_63, x34_65, x34_66, x34_68, x34_69, x34_71, x34_72, x34_74, x34_75, x34_77, x34_78, x34_79]
  · rw [if_neg h, show kdT 1 = 1 by decide]
    simp (disch := first | assumption | omega | exact notL_I | exact notL_N | exact notL_R | exact catS_le (Nat.le_of_ble_eq_true rfl) | exact Nat.le_of_ble_eq_true rfl | exact ooRo (by assumption) | exact ooAt (by assumption) | exact ooRu (by assumption) | exact ooLo (by assumption) | exact ooHa (by assumption) | exact ooLe (by assumption) | exact ooFn | exact ooAn | exact ooPa | exact ooTo | exact ooWa | exact ooCh | rfl) only [x34_0, x34_1_40, x34_1_41, x34_1_44, x34_1_59, x34_1_61, x34_1_63, x34_1, x34_60, x34_62, x34_63, x34_65, x34_66, x34_68, x34_69, x34_71, x34_72, x34_74, x34_75, x34_77, x34_78, x34_79]
theorem s_append {L : List Ps} {s : Ps} {k v p : Int} (H : TkI L σ) (hl : L.length < 1001) (hk : k = kdT s.1) (hv : v = vlT s.1) (hp : p = s.2.1) :
    ∃ τ, FtC σ τ ∧ τ 89 1 = σ 89 1 ∧ TkI (L ++ [s]) τ ∧ RnA sc d 31 0 [some (vR 89), some (vI k), some (vI v), some (vI p)] σ none τ := by
  subst hk hv hp
  obtain ⟨h1, h2⟩ := H
  refine ⟨su (su (su (su σ 90 L.length (kdT s.1)) 91 L.length (vlT s.1)) 92 L.length s.2.1) 89 0 (L.length + 1), (((FtC.su_ (by omega)).trans (FtC.su_ (by omega))).trans (FtC.su_ (by omega))).trans (FtC.su_ (by omega)), by rw [su_off (by omega), su_ne (by omega), su_ne (by omega), su_ne (by omega)], ⟨by rw [su_eq, List.length_append, List.length_singleton]; rfl, fun i t hi => ?_⟩, fun u Q => ?_⟩
  · rw [List.getElem?_append] at hi
    have g1 : su (su (su (su σ 90 L.length (kdT s.1)) 91 L.length (vlT s.1)) 92 L.length s.2.1) 89 0 (L.length + 1) 90 i = if (i : Int) = L.length then kdT s.1 else σ 90 i := by rw [su_ne (by omega), su_ne (by omega), su_ne (by omega), su_at]
    have g2 : su (su (su (su σ 90 L.length (kdT s.1)) 91 L.length (vlT s.1)) 92 L.length s.2.1) 89 0 (L.length + 1) 91 i = if (i : Int) = L.length then vlT s.1 else σ 91 i := by rw [su_ne (by omega), su_ne (by omega), su_at, su_ne (by omega)]
    have g3 : su (su (su (su σ 90 L.length (kdT s.1)) 91 L.length (vlT s.1)) 92 L.length s.2.1) 89 0 (L.length + 1) 92 i = if (i : Int) = L.length then s.2.1 else σ 92 i := by rw [su_ne (by omega), su_at, su_ne (by omega), su_ne (by omega)]
    rw [g1, g2, g3]
    clear g1 g2 g3
    by_cases hil : i < L.length
    · rw [if_pos hil] at hi
      rw [if_neg (by omega), if_neg (by omega), if_neg (by omega)]
      exact h2 i t hi
    · rw [if_neg hil] at hi
      have := (List.getElem?_eq_some_iff.mp hi).1
      rw [List.length_singleton] at this
      have ei : i = L.length := by omega
      rw [ei, Nat.sub_self] at hi
      have es : s = t := Option.some.inj hi
      subst es
      rw [if_pos (by omega), if_pos (by omega), if_pos (by omega)]
      exact ⟨rfl, rfl, rfl⟩
  · have e1 : su (su (su σ 90 L.length (kdT s.1)) 91 L.length (vlT s.1)) 92 L.length s.2.1 89 0 = L.length := by rw [su_ne (by omega), su_ne (by omega), su_ne (by omega)]; exact h1
    have e2 : su (su σ 90 L.length (kdT s.1)) 91 L.length (vlT s.1) 89 0 = L.length := by rw [su_ne (by omega), su_ne (by omega)]; exact h1
    have e3 : su σ 90 L.length (kdT s.1) 89 0 = L.length := by rw [su_ne (by omega)]; exact h1
    simp (disch := first | assumption | omega | exact notL_I | exact notL_N | exact notL_R | exact catS_le (Nat.le_of_ble_eq_true rfl) | exact Nat.le_of_ble_eq_true rfl | exact ooRo (by assumption) | exact ooAt (by assumption) | exact ooRu (by assumption) | exact ooLo (by assumption) | exact ooHa (by assumption) | exact ooLe (by assumption) | exact ooFn | exact ooAn | exact ooPa | exact ooTo | exact ooWa | exact ooCh | rfl) only [x31_0, x31_1, x31_4, x31_7, x31_10, x31_11, x31_14, x31_15, x31_18, x31_19, x31_20, x31_21, x31_24, x31_25, x31_28, x31_29, x31_30, x31_31, x31_34, x31_35, x31_38, x31_39, x31_40, x31_41I, x31_41, x31_42, x31_45, x31_46, x31_47, x31_50, gTo_count, gTo_kinds, gTo_values, gTo_places, WTo_kinds, WTo_values, WTo_places, pTo_count, h1, e1, e2, e3, if_pos, if_neg, ↓reduceIte, not_true_eq_false, not_false_eq_true]
/-- a word is spelt so -/
theorem l_spells {n p q : Int} {w m : Nat} (T : TpC σ n) (hw : w < 4) (hm : txLen w = m) (p0 : 0 ≤ p) (pq : p + m ≤ n) : ∀ (k j : Nat), j + k = m →
    ∃ b : Bool, (b = true ↔ ∀ i : Nat, j ≤ i → i < m → σ 86 (p + i) = txAt w i) ∧ ∀ (u : Bool × Nat × Nat × Int) (Q : Rs → HS → Prop), Ex sc d 30 15 [some (vR 86), some (vI p), some (vI q), some (vS w), some (vI ((j : Int)))] [] (wH σ u) Q ↔ Q (.inl (some (vI (bI b)))) (wH σ u) := by
  have hm5 : txLen w ≤ 5 := by unfold txLen; split <;> omega
  have ha : ∀ w : Nat, w < 4 → ∀ i : Nat, i < 5 → 0 ≤ txAt w i ∧ txAt w i ≤ 255 := by decide
  intro k
  induction k with
  | zero =>
    intro j hj
    refine ⟨true, ⟨fun _ i a b => by omega, fun _ => rfl⟩, fun u Q => ?_⟩
    rw [x30_15, bI_t]
    simp (disch := first | assumption | omega | exact notL_I | exact notL_N | exact notL_R | exact catS_le (Nat.le_of_ble_eq_true rfl) | exact Nat.le_of_ble_eq_true rfl | exact ooRo (by assumption) | exact ooAt (by assumption) | exact ooRu (by assumption) | exact ooLo (by assumption) | exact ooHa (by assumption) | exact ooLe (by assumption) | exact ooFn | exact ooAn | exact ooPa | exact ooTo | exact ooWa | exact ooCh | rfl) only [x30_0, x30_1, x30_2, x30_3, x30_4, x30_7, x30_10, x30_11, x30_12, x30_13, x30_17, x30_18, x30_21, x30_24, x30_25, x30_26, x30_28, x30_29, x30_30, x30_31, x30_33, x30_36, x30_39, x30_40, x30_41, x30_44, x30_47, x30_48, if_pos, if_neg, ↓reduceIte, not_true_eq_false, not_false_eq_true]
  | succ k ih =>
    intro j hj
    have t := T.2 (p + j) (by omega) (by have := T.1; omega)
    have aj := ha w hw j (by omega)
    have ej : ((j : Int)).toNat = j := by omega
    have ej1 : (j : Int) + 1 = ((j + 1 : Nat) : Int) := by omega
    have t0 := T.1
    by_cases h : σ 86 (p + j) = txAt w j
    · obtain ⟨b, b1, b2⟩ := ih (j + 1) (by omega)
      refine ⟨b, ⟨fun z i a c => ?_, fun z => b1.mpr (fun i a c => z i (by omega) c)⟩, fun u Q => ?_⟩
      · by_cases e : i = j
        · subst e
          exact h
        · exact b1.mp z i (by omega) c
      · rw [x30_15]
        simp (disch := first | assumption | omega | exact notL_I | exact notL_N | exact notL_R | exact catS_le (Nat.le_of_ble_eq_true rfl) | exact Nat.le_of_ble_eq_true rfl | exact ooRo (by assumption) | exact ooAt (by assumption) | exact ooRu (by assumption) | exact ooLo (by assumption) | exact ooHa (by assumption) | exact ooLe (by assumption) | exact ooFn | exact ooAn | exact ooPa | exact ooTo | exact ooWa | exact ooCh | rfl) only [x30_0, x30_1, x30_2, x30_3, x30_4, x30_7, x30_10, x30_11, x30_12, x30_13, x30_17, x30_18, x30_21, x30_24, x30_25, x30_26, x30_28, x30_29, x30_30, x30_31, x30_33, x30_36, x30_39, x30_40, x30_41, x30_44, x30_47, x30_48, RCh_tape, ej, ej1, if_pos, if_neg, ↓reduceIte, not_true_eq_false, not_false_eq_true]
        exact b2 u Q
    · refine ⟨false, ⟨(fun z => by cases z), fun z => absurd (z j (Nat.le_refl _) (by omega)) h⟩, fun u Q => ?_⟩
      rw [x30_15, bI_f]
      simp (disch := first | assumption | omega | exact notL_I | exact notL_N | exact notL_R | exact catS_le (Nat.le_of_ble_eq_true rfl) | exact Nat.le_of_ble_eq_true rfl | exact ooRo (by assumption) | exact ooAt (by assumption) | exact ooRu (by assumption) | exact ooLo (by assumption) | exact ooHa (by assumption) | exact ooLe (by assumption) | exact ooFn | exact ooAn | exact ooPa | exact ooTo | exact ooWa | exact ooCh | rfl) only [x30_0, x30_1, x30_2, x30_3, x30_4, x30_7, x30_10, x30_11, x30_12, x30_13, x30_17, x30_18, x30_21, x30_24, x30_25, x30_26, x30_28, x30_29, x30_30, x30_31, x30_33, x30_36, x30_39, x30_40, x30_41, x30_44, x30_47, x30_48, RCh_tape, ej, if_pos, if_neg, ↓reduceIte, not_true_eq_false, not_false_eq_true]
end U5
