/-! the class reads: cells -/
/-- the cells read so far -/
def ClI (l : List Int) (σ : St) : Prop := ∀ i : Nat, i < 3 → σ 93 i = l.getD i (-1)
theorem ClI.add {l : List Int} {σ : St} {x : Int} (H : ClI l σ) (hl : l.length < 3) : ClI (l ++ [x]) (su σ 93 l.length x) := by
  intro i hi
  rw [su_at]
  by_cases h : i = l.length
  · rw [if_pos (by omega), h, List.getD_eq_getElem?_getD, List.getElem?_append_right (Nat.le_refl _), Nat.sub_self]
    rfl
  · rw [if_neg (by omega), H i hi, List.getD_eq_getElem?_getD, List.getD_eq_getElem?_getD]
    by_cases h2 : i < l.length
    · rw [List.getElem?_append_left h2]
    · rw [List.getElem?_eq_none (by omega), List.getElem?_eq_none (by rw [List.length_append, List.length_singleton]; omega)]
section H2
variable {sc : Scr} {d : Nat} {f : Int → Int} {n : Int}
theorem s_cellSt {σ : St} {s : Ps} {row c : Bool} (hd : 1 ≤ d) (H : PzC f n s σ) (hc : c = true ↔ isNm s ∨ (if row = true then s.1 = 563 else isVr s)) {u : Bool × Nat × Nat × Int} {Q : Rs → HS → Prop} : Ex sc d 52 0 [some (vR 87), some (vI (bI row)), none] [] (wH σ u) Q ↔ Q (.inl (some (vI (bI c)))) (wH σ u) := by
  have kd := fun u Q => s_kind (sc := sc) (d := d - 1) (u := u) (Q := Q) H
  have ki := kd_iff H.ok.1
  have kb := ki.1
  have k7 := ki.2.2.2.2.2.2.2.1
  have k8 := ki.2.2.2.2.2.2.2.2.1
  have k13 := ki.2.2.2.2.2.2.2.2.2.2.2.2.2.1
  generalize kdT s.1 = K at *
  cases row with
  | true =>
    have hc2 : c = true ↔ (300 ≤ s.1 ∧ s.1 ≤ 399) ∨ s.1 = 563 := hc
    rw [← k8, ← k13] at hc2
    cases c with
    | true =>
      rw [bI_t]
      have h := hc2.mp rfl
      by_cases h8 : K = 8
      · simp (disch := first | assumption | omega | exact notL_I | exact notL_N | exact notL_R | exact catS_le (Nat.le_of_ble_eq_true rfl) | exact Nat.le_of_ble_eq_true rfl | exact ooRo (by assumption) | exact ooAt (by assumption) | exact ooRu (by assumption) | exact ooLo (by assumption) | exact ooHa (by assumption) | exact ooLe (by assumption) | exact ooFn | exact ooAn | exact ooPa | exact ooTo | exact ooWa | exact ooCh | rfl) only [x52_0, x52_1, x52_4, x52_7, x52_8, x52_9, x52_11, x52_14, x52_15, x52_16, x52_19, x52_21, x52_24, x52_26, x52_29, x52_30, x52_33, x52_34, gPa_tokens, kd, Kc_some, if_pos, if_neg, ↓reduceIte, not_true_eq_false, not_false_eq_true]
      · simp (disch := first | assumption | omega | exact notL_I | exact notL_N | exact notL_R | exact catS_le (Nat.le_of_ble_eq_true rfl) | exact Nat.le_of_ble_eq_true rfl | exact ooRo (by assumption) | exact ooAt (by assumption) | exact ooRu (by assumption) | exact ooLo (by assumption) | exact ooHa (by assumption) | exact ooLe (by assumption) | exact ooFn | exact ooAn | exact ooPa | exact ooTo | exact ooWa | exact ooCh | rfl) only [x52_0, x52_1, x52_4, x52_7, x52_8, x52_9, x52_11, x52_14, x52_15, x52_16, x52_19, x52_21, x52_24, x52_26, x52_29, x52_30, x52_33, x52_34, gPa_tokens, kd, Kc_some, if_pos, if_neg, ↓reduceIte, not_true_eq_false, not_false_eq_true]
    | false =>
      rw [bI_t, bI_f]
      have h : ¬ (K = 8 ∨ K = 13) := fun z => by cases hc2.mpr z
      simp (disch := first | assumption | omega | exact notL_I | exact notL_N | exact notL_R | exact catS_le (Nat.le_of_ble_eq_true rfl) | exact Nat.le_of_ble_eq_true rfl | exact ooRo (by assumption) | exact ooAt (by assumption) | exact ooRu (by assumption) | exact ooLo (by assumption) | exact ooHa (by assumption) | exact ooLe (by assumption) | exact ooFn | exact ooAn | exact ooPa | exact ooTo | exact ooWa | exact ooCh | rfl) only [x52_0, x52_1, x52_4, x52_7, x52_8, x52_9, x52_11, x52_14, x52_15, x52_16, x52_19, x52_21, x52_24, x52_26, x52_29, x52_30, x52_33, x52_34, gPa_tokens, kd, Kc_some, if_pos, if_neg, ↓reduceIte, not_true_eq_false, not_false_eq_true]
  | false =>
    have hc2 : c = true ↔ (300 ≤ s.1 ∧ s.1 ≤ 399) ∨ (200 ≤ s.1 ∧ s.1 ≤ 225) := hc
    rw [← k8, ← k7] at hc2
    cases c with
    | true =>
      rw [bI_t, bI_f]
      have h := hc2.mp rfl
      by_cases h8 : K = 8
      · simp (disch := first | assumption | omega | exact notL_I | exact notL_N | exact notL_R | exact catS_le (Nat.le_of_ble_eq_true rfl) | exact Nat.le_of_ble_eq_true rfl | exact ooRo (by assumption) | exact ooAt (by assumption) | exact ooRu (by assumption) | exact ooLo (by assumption) | exact ooHa (by assumption) | exact ooLe (by assumption) | exact ooFn | exact ooAn | exact ooPa | exact ooTo | exact ooWa | exact ooCh | rfl) only [x52_0, x52_1, x52_4, x52_7, x52_8, x52_9, x52_11, x52_14, x52_15, x52_16, x52_19, x52_21, x52_24, x52_26, x52_29, x52_30, x52_33, x52_34, gPa_tokens, kd, Kc_some, if_pos, if_neg, ↓reduceIte, not_true_eq_false, not_false_eq_true]
      · simp (disch := first | assumption | omega | exact notL_I | exact notL_N | exact notL_R | exact catS_le (Nat.le_of_ble_eq_true rfl) | exact Nat.le_of_ble_eq_true rfl | exact ooRo (by assumption) | exact ooAt (by assumption) | exact ooRu (by assumption) | exact ooLo (by assumption) | exact ooHa (by assumption) | exact ooLe (by assumption) | exact ooFn | exact ooAn | exact ooPa | exact ooTo | exact ooWa | exact ooCh | rfl) only [x52_0, x52_1, x52_4, x52_7, x52_8, x52_9, x52_11, x52_14, x52_15, x52_16, x52_19, x52_21, x52_24, x52_26, x52_29, x52_30, x52_33, x52_34, gPa_tokens, kd, Kc_some, if_pos, if_neg, ↓reduceIte, not_true_eq_false, not_false_eq_true]
    | false =>
      rw [bI_f]
      have h : ¬ (K = 8 ∨ K = 7) := fun z => by cases hc2.mpr z
      simp (disch := first | assumption | omega | exact notL_I | exact notL_N | exact notL_R | exact catS_le (Nat.le_of_ble_eq_true rfl) | exact Nat.le_of_ble_eq_true rfl | exact ooRo (by assumption) | exact ooAt (by assumption) | exact ooRu (by assumption) | exact ooLo (by assumption) | exact ooHa (by assumption) | exact ooLe (by assumption) | exact ooFn | exact ooAn | exact ooPa | exact ooTo | exact ooWa | exact ooCh | rfl) only [x52_0, x52_1, x52_4, x52_7, x52_8, x52_9, x52_11, x52_14, x52_15, x52_16, x52_19, x52_21, x52_24, x52_26, x52_29, x52_30, x52_33, x52_34, gPa_tokens, kd, Kc_some, if_pos, if_neg, ↓reduceIte, not_true_eq_false, not_false_eq_true]
/-- a cell, from its start -/
def celP (nx : Int → Ps) (s : Ps) : Fa ⊕ (Int × Ps) := if s.1 = 563 then (if isNm (nx s.2.2) then .inr (1000 + ((nx s.2.2).1 - 300), nx (nx s.2.2).2.2) else .inl (1, (nx s.2.2).2.1)) else .inr (if isNm s then s.1 - 300 else 2000 + (s.1 - 200), nx s.2.2)
theorem s_readCell {σ : St} {s : Ps} {l : List Int} (hd : 2 ≤ d) (H : PzC f n s σ) (hs : isNm s ∨ isVr s ∨ s.1 = 563) (hl : l.length < 3) (C : ClI l σ) :
    (∃ x s' τ, celP (nxT f n) s = .inr (x, s') ∧ ((s.1 = 563 → 1000 ≤ x ∧ x ≤ 1099) ∧ (s.1 ≠ 563 → isPl x ∧ (isNm s → x ≤ 99))) ∧ Fzc σ τ ∧ PzC f n s' τ ∧ ClI (l ++ [x]) τ ∧ RnA sc d 53 0 [some (vR 87), some (vI ((l.length : Int))), none] σ (some (vI 1)) τ) ∨
    (∃ e τ, celP (nxT f n) s = .inl e ∧ Fzc σ τ ∧ BdC τ e ∧ RnA sc d 53 0 [some (vR 87), some (vI ((l.length : Int))), none] σ (some (vI 0)) τ) := by
  have kd := fun u Q => s_kind (sc := sc) (d := d - 1) (u := u) (Q := Q) H
  have va := fun u Q => s_value (sc := sc) (d := d - 1) (u := u) (Q := Q) H
  have ki := kd_iff H.ok.1
  have kb := ki.1
  have k7 := ki.2.2.2.2.2.2.2.1
  have k8 := ki.2.2.2.2.2.2.2.2.1
  have k13 := ki.2.2.2.2.2.2.2.2.2.2.2.2.2.1
  have vv := vl_v H.ok.1
  unfold celP
  by_cases h5 : s.1 = 563
  · rw [if_pos h5]
    rw [k13.mpr h5] at kd
    obtain ⟨τ, a1, a2, a3⟩ := s_takeT (sc := sc) (d := d - 1) H
    have kd2 := fun u Q => s_kind (sc := sc) (d := d - 1) (u := u) (Q := Q) a2
    have va2 := fun u Q => s_value (sc := sc) (d := d - 1) (u := u) (Q := Q) a2
    have ki2 := kd_iff a2.ok.1
    have k28 := ki2.2.2.2.2.2.2.2.2.1
    have vv2 := vl_v a2.ok.1
    have kb2 := ki2.1
    unfold RnA at a3
    by_cases hn : isNm (nxT f n s.2.2)
    · rw [if_pos hn]
      rw [k28.mpr hn] at kd2
      rw [vv2.2.2.1 hn] at va2
      obtain ⟨ρ, b1, b2, b3⟩ := s_takeT (sc := sc) (d := d - 1) (a2.su_ (c := 93) (i := l.length) (x := 1000 + ((nxT f n s.2.2).1 - 300)) (by omega))
      unfold RnA at b3
      have C1 : ClI l τ := fun i hi => by rw [a1 93 (by omega)]; exact C i hi
      have C2 := C1.add (x := 1000 + ((nxT f n s.2.2).1 - 300)) hl
      refine Or.inl ⟨_, _, ρ, rfl, ⟨fun _ => by have := hn; omega, fun z => absurd h5 z⟩, (Fzc.o89 a1).trans (Fzc.su93.trans (Fzc.o89 b1)), b2, fun i hi => by rw [b1 93 (by omega)]; exact C2 i hi, fun u Q => ?_⟩
      simp (disch := first | assumption | omega | exact notL_I | exact notL_N | exact notL_R | exact catS_le (Nat.le_of_ble_eq_true rfl) | exact Nat.le_of_ble_eq_true rfl | exact ooRo (by assumption) | exact ooAt (by assumption) | exact ooRu (by assumption) | exact ooLo (by assumption) | exact ooHa (by assumption) | exact ooLe (by assumption) | exact ooFn | exact ooAn | exact ooPa | exact ooTo | exact ooWa | exact ooCh | rfl) only [x53_0, x53_1, x53_2, x53_3, x53_6, x53_9, x53_11, x53_14, x53_17, x53_18, x53_21, x53_22, x53_25, x53_28, x53_30, x53_33, x53_36, x53_37, x53_38, x53_41, x53_44, x53_45, x53_48, x53_51, x53_53, x53_56, x53_57, x53_58, x53_61, x53_62, x53_63, x53_66, x53_67, x53_68, x53_69, x53_72, x53_75, x53_76, x53_77, x53_78, x53_81, x53_84, x53_85, gPa_tokens, gPa_cells, WPa_cells, kd, a3, kd2, va2, b3, Kc_some, Kc_none, if_pos, if_neg, ↓reduceIte, not_true_eq_false, not_false_eq_true]
    · rw [if_neg hn]
      have h8 : kdT (nxT f n s.2.2).1 ≠ 8 := fun z => hn (k28.mp z)
      have rf := fun u Q => s_refuse (sc := sc) (d := d - 1) (k := 1) (u := u) (Q := Q) (by omega) a2
      refine Or.inr ⟨_, _, rfl, (Fzc.o89 a1).trans rf_v.1, rf_v.2, fun u Q => ?_⟩
      simp (disch := first | assumption | omega | exact notL_I | exact notL_N | exact notL_R | exact catS_le (Nat.le_of_ble_eq_true rfl) | exact Nat.le_of_ble_eq_true rfl | exact ooRo (by assumption) | exact ooAt (by assumption) | exact ooRu (by assumption) | exact ooLo (by assumption) | exact ooHa (by assumption) | exact ooLe (by assumption) | exact ooFn | exact ooAn | exact ooPa | exact ooTo | exact ooWa | exact ooCh | rfl) only [x53_0, x53_1, x53_2, x53_3, x53_6, x53_9, x53_11, x53_14, x53_17, x53_18, x53_21, x53_22, x53_25, x53_28, x53_30, x53_33, x53_36, x53_37, x53_38, x53_41, x53_44, x53_45, x53_48, x53_51, x53_53, x53_56, x53_57, x53_58, x53_61, x53_62, x53_63, x53_66, x53_67, x53_68, x53_69, x53_72, x53_75, x53_76, x53_77, x53_78, x53_81, x53_84, x53_85, gPa_tokens, kd, a3, kd2, rf, Kc_some, Kc_none, if_pos, if_neg, ↓reduceIte, not_true_eq_false, not_false_eq_true]
  · rw [if_neg h5]
    have h13 : kdT s.1 ≠ 13 := fun z => h5 (k13.mp z)
    by_cases hn : isNm s
    · rw [if_pos hn]
      rw [k8.mpr hn] at kd
      rw [vv.2.2.1 hn] at va
      obtain ⟨ρ, b1, b2, b3⟩ := s_takeT (sc := sc) (d := d - 1) (H.su_ (c := 93) (i := l.length) (x := s.1 - 300) (by omega))
      unfold RnA at b3
      have C2 := C.add (x := s.1 - 300) hl
      have e0 : 0 + (s.1 - 300) = s.1 - 300 := by omega
      refine Or.inl ⟨_, _, ρ, rfl, ⟨fun z => absurd z h5, fun _ => ⟨Or.inl (by have := hn; omega), fun _ => by have := hn; omega⟩⟩, Fzc.su93.trans (Fzc.o89 b1), b2, fun i hi => by rw [b1 93 (by omega)]; exact C2 i hi, fun u Q => ?_⟩
      simp (disch := first | assumption | omega | exact notL_I | exact notL_N | exact notL_R | exact catS_le (Nat.le_of_ble_eq_true rfl) | exact Nat.le_of_ble_eq_true rfl | exact ooRo (by assumption) | exact ooAt (by assumption) | exact ooRu (by assumption) | exact ooLo (by assumption) | exact ooHa (by assumption) | exact ooLe (by assumption) | exact ooFn | exact ooAn | exact ooPa | exact ooTo | exact ooWa | exact ooCh | rfl) only [x53_0, x53_1, x53_2, x53_3, x53_6, x53_9, x53_11, x53_14, x53_17, x53_18, x53_21, x53_22, x53_25, x53_28, x53_30, x53_33, x53_36, x53_37, x53_38, x53_41, x53_44, x53_45, x53_48, x53_51, x53_53, x53_56, x53_57, x53_58, x53_61, x53_62, x53_63, x53_66, x53_67, x53_68, x53_69, x53_72, x53_75, x53_76, x53_77, x53_78, x53_81, x53_84, x53_85, gPa_tokens, gPa_cells, WPa_cells, kd, va, e0, b3, Kc_some, Kc_none, if_pos, if_neg, ↓reduceIte, not_true_eq_false, not_false_eq_true]
    · rw [if_neg hn]
      have hv : isVr s := hs.elim (fun z => absurd z hn) (fun z => z.elim id (fun z => absurd z h5))
      rw [k7.mpr hv] at kd
      rw [vv.2.1 hv] at va
      obtain ⟨ρ, b1, b2, b3⟩ := s_takeT (sc := sc) (d := d - 1) (H.su_ (c := 93) (i := l.length) (x := 2000 + (s.1 - 200)) (by omega))
      unfold RnA at b3
      have C2 := C.add (x := 2000 + (s.1 - 200)) hl
      refine Or.inl ⟨_, _, ρ, rfl, ⟨fun z => absurd z h5, fun _ => ⟨Or.inr (by have := hv; omega), fun z => absurd z hn⟩⟩, Fzc.su93.trans (Fzc.o89 b1), b2, fun i hi => by rw [b1 93 (by omega)]; exact C2 i hi, fun u Q => ?_⟩
      simp (disch := first | assumption | omega | exact notL_I | exact notL_N | exact notL_R | exact catS_le (Nat.le_of_ble_eq_true rfl) | exact Nat.le_of_ble_eq_true rfl | exact ooRo (by assumption) | exact ooAt (by assumption) | exact ooRu (by assumption) | exact ooLo (by assumption) | exact ooHa (by assumption) | exact ooLe (by assumption) | exact ooFn | exact ooAn | exact ooPa | exact ooTo | exact ooWa | exact ooCh | rfl) only [x53_0, x53_1, x53_2, x53_3, x53_6, x53_9, x53_11, x53_14, x53_17, x53_18, x53_21, x53_22, x53_25, x53_28, x53_30, x53_33, x53_36, x53_37, x53_38, x53_41, x53_44, x53_45, x53_48, x53_51, x53_53, x53_56, x53_57, x53_58, x53_61, x53_62, x53_63, x53_66, x53_67, x53_68, x53_69, x53_72, x53_75, x53_76, x53_77, x53_78, x53_81, x53_84, x53_85, gPa_tokens, gPa_cells, WPa_cells, kd, va, b3, Kc_some, Kc_none, if_pos, if_neg, ↓reduceIte, not_true_eq_false, not_false_eq_true]
end H2
