/-! the class reads: tokens, signs -/
/-- where the class reads: a text, its length, the token there; no fault yet -/
def PzC (f : Int → Int) (n : Int) (s : Ps) (σ : St) : Prop := (0 ≤ n ∧ n ≤ 1000) ∧ TkI (tkL f n 1001 0) σ ∧ (∃ i : Nat, (tkL f n 1001 0)[i]? = some s ∧ σ 89 1 = (i : Int)) ∧ σ 87 0 = 0 ∧ σ 87 1 = -1
def BdC (σ : St) (e : Fa) : Prop := σ 87 0 = e.1 ∧ σ 87 1 = e.2
/-- what changes while cells are read -/
def Fzc (σ τ : St) : Prop := (∀ c, c ≠ 87 → c ≠ 89 → c ≠ 93 → τ c = σ c) ∧ ∀ j, j ≠ 0 → j ≠ 1 → τ 87 j = σ 87 j
theorem Fzc.refl {σ : St} : Fzc σ σ := ⟨fun _ _ _ _ => rfl, fun _ _ _ => rfl⟩
theorem Fzc.trans {σ τ ρ : St} (h1 : Fzc σ τ) (h2 : Fzc τ ρ) : Fzc σ ρ := ⟨fun c a b e => (h2.1 c a b e).trans (h1.1 c a b e), fun j a b => (h2.2 j a b).trans (h1.2 j a b)⟩
theorem Fzc.o89 {σ τ : St} (h : ∀ c, c ≠ 89 → τ c = σ c) : Fzc σ τ := ⟨fun c _ a _ => h c a, fun j _ _ => by rw [h 87 (by omega)]⟩
theorem Fzc.su93 {σ : St} {i x : Int} : Fzc σ (su σ 93 i x) := ⟨fun c _ _ a => su_ne a, fun j _ _ => by rw [su_ne (by omega)]⟩
theorem PzC.len {f : Int → Int} {n : Int} {s : Ps} {σ : St} (H : PzC f n s σ) : 1 ≤ (tkL f n 1001 0).length ∧ (tkL f n 1001 0).length ≤ 1001 := by
  obtain ⟨h0, _⟩ := H
  have := tkL_v (f := f) (n := n) 1001 0 (by omega) (by omega) (by omega)
  omega
theorem PzC.ok {f : Int → Int} {n : Int} {s : Ps} {σ : St} (H : PzC f n s σ) : tcOk s.1 ∧ (0 ≤ s.2.1 ∧ s.2.1 ≤ n) ∧ (0 ≤ s.2.2 ∧ s.2.2 ≤ n) := by
  obtain ⟨h0, _, ⟨i, hi, _⟩, _⟩ := H
  have := (tkL_v (f := f) (n := n) 1001 0 (by omega) (by omega) (by omega)).2.2.2 i s hi
  exact ⟨this.1, this.2.1, this.2.2.1⟩
theorem PzC.fr {f : Int → Int} {n : Int} {s : Ps} {σ τ : St} (H : PzC f n s σ) (h1 : τ 89 = σ 89) (h2 : τ 90 = σ 90) (h3 : τ 91 = σ 91) (h4 : τ 92 = σ 92) (h5 : τ 87 0 = σ 87 0) (h6 : τ 87 1 = σ 87 1) : PzC f n s τ := by
  obtain ⟨h0, a, ⟨i, hi, b⟩, c, e⟩ := H
  exact ⟨h0, a.c (by rw [h1]) h2 h3 h4, ⟨i, hi, by rw [h1]; exact b⟩, h5.trans c, h6.trans e⟩
theorem PzC.su_ {f : Int → Int} {n : Int} {s : Ps} {σ : St} {c : Nat} {i x : Int} (H : PzC f n s σ) (h : c < 87 ∨ c = 88 ∨ 92 < c) : PzC f n s (su σ c i x) := H.fr (su_ne (by omega)) (su_ne (by omega)) (su_ne (by omega)) (su_ne (by omega)) (by rw [su_ne (by omega)]) (by rw [su_ne (by omega)])
section H1
variable {sc : Scr} {d : Nat} {σ : St} {f : Int → Int} {n : Int} {s : Ps}
theorem s_kind (H : PzC f n s σ) {u : Bool × Nat × Nat × Int} {Q : Rs → HS → Prop} : Ex sc d 39 0 [some (vR 89)] [] (wH σ u) Q ↔ Q (.inl (some (vI (kdT s.1)))) (wH σ u) := by
  have hl := H.len
  obtain ⟨h0, ⟨a1, a2⟩, ⟨i, hi, b⟩, c, e⟩ := H
  have hil := (List.getElem?_eq_some_iff.mp hi).1
  have v := (a2 i s hi).1
  simp (disch := first | assumption | omega | exact notL_I | exact notL_N | exact notL_R | exact catS_le (Nat.le_of_ble_eq_true rfl) | exact Nat.le_of_ble_eq_true rfl | exact ooRo (by assumption) | exact ooAt (by assumption) | exact ooRu (by assumption) | exact ooLo (by assumption) | exact ooHa (by assumption) | exact ooLe (by assumption) | exact ooFn | exact ooAn | exact ooPa | exact ooTo | exact ooWa | exact ooCh | rfl) only [x39_0, x39_1, x39_4, x39_5, x39_8, x39_11, x39_12, x39_15, x39_18, x39_21, x39_22, x39_25, x39_26, x39_29, x39_30, x39_33, x39_34, gTo_at, gTo_count, gTo_kinds, RTo_kinds, a1, b, v, if_pos, if_neg, ↓reduceIte, not_true_eq_false, not_false_eq_true]
theorem s_value (H : PzC f n s σ) {u : Bool × Nat × Nat × Int} {Q : Rs → HS → Prop} : Ex sc d 45 0 [some (vR 89)] [] (wH σ u) Q ↔ Q (.inl (some (vI (vlT s.1)))) (wH σ u) := by
  have hl := H.len
  obtain ⟨h0, ⟨a1, a2⟩, ⟨i, hi, b⟩, c, e⟩ := H
  have hil := (List.getElem?_eq_some_iff.mp hi).1
  have v := (a2 i s hi).2.1
  simp (disch := first | assumption | omega | exact notL_I | exact notL_N | exact notL_R | exact catS_le (Nat.le_of_ble_eq_true rfl) | exact Nat.le_of_ble_eq_true rfl | exact ooRo (by assumption) | exact ooAt (by assumption) | exact ooRu (by assumption) | exact ooLo (by assumption) | exact ooHa (by assumption) | exact ooLe (by assumption) | exact ooFn | exact ooAn | exact ooPa | exact ooTo | exact ooWa | exact ooCh | rfl) only [x45_0, x45_1, x45_4, x45_5, x45_8, x45_11, x45_12, x45_15, x45_18, x45_21, x45_22, x45_25, x45_26, x45_29, x45_30, x45_33, x45_34, gTo_at, gTo_count, gTo_values, RTo_values, a1, b, v, if_pos, if_neg, ↓reduceIte, not_true_eq_false, not_false_eq_true]
theorem s_place (H : PzC f n s σ) {u : Bool × Nat × Nat × Int} {Q : Rs → HS → Prop} : Ex sc d 43 0 [some (vR 89)] [] (wH σ u) Q ↔ Q (.inl (some (vI (s.2.1)))) (wH σ u) := by
  have hl := H.len
  obtain ⟨h0, ⟨a1, a2⟩, ⟨i, hi, b⟩, c, e⟩ := H
  have hil := (List.getElem?_eq_some_iff.mp hi).1
  have v := (a2 i s hi).2.2
  simp (disch := first | assumption | omega | exact notL_I | exact notL_N | exact notL_R | exact catS_le (Nat.le_of_ble_eq_true rfl) | exact Nat.le_of_ble_eq_true rfl | exact ooRo (by assumption) | exact ooAt (by assumption) | exact ooRu (by assumption) | exact ooLo (by assumption) | exact ooHa (by assumption) | exact ooLe (by assumption) | exact ooFn | exact ooAn | exact ooPa | exact ooTo | exact ooWa | exact ooCh | rfl) only [x43_0, x43_1, x43_4, x43_5, x43_8, x43_11, x43_12, x43_15, x43_18, x43_21, x43_22, x43_25, x43_26, x43_29, x43_30, x43_33, x43_34, gTo_at, gTo_count, gTo_places, RTo_places, a1, b, v, if_pos, if_neg, ↓reduceIte, not_true_eq_false, not_false_eq_true]
theorem s_takeT (H : PzC f n s σ) : ∃ τ, (∀ c, c ≠ 89 → τ c = σ c) ∧ PzC f n (nxT f n s.2.2) τ ∧ RnA sc d 41 0 [some (vR 89)] σ none τ := by
  have hl := H.len
  obtain ⟨h0, ⟨a1, a2⟩, ⟨i, hi, b⟩, c, e⟩ := H
  have hil := (List.getElem?_eq_some_iff.mp hi).1
  obtain ⟨_, _, _, q4, q5, q6⟩ := (tkL_v (f := f) (n := n) 1001 0 (by omega) (by omega) (by omega)).2.2.2 i s hi
  by_cases h : i + 1 < (tkL f n 1001 0).length
  · refine ⟨su σ 89 1 (i + 1), fun c hc => su_ne hc, ⟨h0, ⟨by rw [su_off (by omega)]; exact a1, fun j t hj => by rw [su_ne (by omega), su_ne (by omega), su_ne (by omega)]; exact a2 j t hj⟩, ⟨i + 1, q6 h, by rw [su_eq]; rfl⟩, by rw [su_ne (by omega)]; exact c, by rw [su_ne (by omega)]; exact e⟩, fun u Q => ?_⟩
    simp (disch := first | assumption | omega | exact notL_I | exact notL_N | exact notL_R | exact catS_le (Nat.le_of_ble_eq_true rfl) | exact Nat.le_of_ble_eq_true rfl | exact ooRo (by assumption) | exact ooAt (by assumption) | exact ooRu (by assumption) | exact ooLo (by assumption) | exact ooHa (by assumption) | exact ooLe (by assumption) | exact ooFn | exact ooAn | exact ooPa | exact ooTo | exact ooWa | exact ooCh | rfl) only [x41_0, x41_1, x41_4, x41_5, x41_6, x41_7, x41_10, x41_13, x41_14I, x41_14, x41_15, x41_18, x41_19, x41_20, x41_23, gTo_at, gTo_count, pTo_at, a1, b, if_pos, if_neg, ↓reduceIte, not_true_eq_false, not_false_eq_true]
  · have es := q5 (q4.mpr (by omega))
    refine ⟨σ, fun _ _ => rfl, ⟨h0, ⟨a1, a2⟩, ⟨i, by rw [es, nx_end, ← es]; exact hi, b⟩, c, e⟩, fun u Q => ?_⟩
    simp (disch := first | assumption | omega | exact notL_I | exact notL_N | exact notL_R | exact catS_le (Nat.le_of_ble_eq_true rfl) | exact Nat.le_of_ble_eq_true rfl | exact ooRo (by assumption) | exact ooAt (by assumption) | exact ooRu (by assumption) | exact ooLo (by assumption) | exact ooHa (by assumption) | exact ooLe (by assumption) | exact ooFn | exact ooAn | exact ooPa | exact ooTo | exact ooWa | exact ooCh | rfl) only [x41_0, x41_1, x41_4, x41_5, x41_6, x41_7, x41_10, x41_13, x41_14I, x41_14, x41_15, x41_18, x41_19, x41_20, x41_23, gTo_at, gTo_count, a1, b, if_pos, if_neg, ↓reduceIte, not_true_eq_false, not_false_eq_true]
def rfS (σ : St) (k p : Int) : St := su (su σ 87 0 k) 87 1 p
theorem rf_v {k p : Int} : Fzc σ (rfS σ k p) ∧ BdC (rfS σ k p) (k, p) := ⟨⟨fun c a _ _ => by unfold rfS; rw [su_ne a, su_ne a], fun j a b => by unfold rfS; rw [su_off b, su_off a]⟩, by unfold rfS; rw [su_off (by omega), su_eq], su_eq⟩
theorem s_refAt {k p : Int} {u : Bool × Nat × Nat × Int} {Q : Rs → HS → Prop} : Ex sc d 44 0 [some (vR 87), some (vI k), some (vI p)] [] (wH σ u) Q ↔ Q (.inl (some (vI (0)))) (wH (rfS σ k p) u) := by
  unfold rfS
  simp (disch := first | assumption | omega | exact notL_I | exact notL_N | exact notL_R | exact catS_le (Nat.le_of_ble_eq_true rfl) | exact Nat.le_of_ble_eq_true rfl | exact ooRo (by assumption) | exact ooAt (by assumption) | exact ooRu (by assumption) | exact ooLo (by assumption) | exact ooHa (by assumption) | exact ooLe (by assumption) | exact ooFn | exact ooAn | exact ooPa | exact ooTo | exact ooWa | exact ooCh | rfl) only [x44_0, x44_1, x44_2, x44_5, x44_6, x44_7, x44_10, x44_11, pPa_fault, pPa_faultPlace]
theorem s_refuse (hd : 1 ≤ d) (H : PzC f n s σ) {k : Int} {u : Bool × Nat × Nat × Int} {Q : Rs → HS → Prop} : Ex sc d 42 0 [some (vR 87), some (vI k)] [] (wH σ u) Q ↔ Q (.inl (some (vI (0)))) (wH (rfS σ k s.2.1) u) := by
  have p := fun u Q => s_place (sc := sc) (d := d - 1) (u := u) (Q := Q) H
  have r := fun u Q => s_refAt (sc := sc) (d := d - 1) (σ := σ) (k := k) (p := s.2.1) (u := u) (Q := Q)
  simp (disch := first | assumption | omega | exact notL_I | exact notL_N | exact notL_R | exact catS_le (Nat.le_of_ble_eq_true rfl) | exact Nat.le_of_ble_eq_true rfl | exact ooRo (by assumption) | exact ooAt (by assumption) | exact ooRu (by assumption) | exact ooLo (by assumption) | exact ooHa (by assumption) | exact ooLe (by assumption) | exact ooFn | exact ooAn | exact ooPa | exact ooTo | exact ooWa | exact ooCh | rfl) only [x42_0, x42_1, x42_2, x42_3, x42_6, x42_9, x42_12, gPa_tokens, p, r, Kc_some, if_pos, if_neg, ↓reduceIte, not_true_eq_false, not_false_eq_true]
/-- a sign that must be there -/
theorem s_sign (hd : 2 ≤ d) (H : PzC f n s σ) {k t : Int} (hk : kdT s.1 = k ↔ s.1 = t) (k0 : 0 ≤ k ∧ k ≤ 15) :
    (s.1 = t ∧ ∃ τ, (∀ c, c ≠ 89 → τ c = σ c) ∧ PzC f n (nxT f n s.2.2) τ ∧ RnA sc d 48 0 [some (vR 87), some (vI k)] σ (some (vI 1)) τ) ∨ (s.1 ≠ t ∧ RnA sc d 48 0 [some (vR 87), some (vI k)] σ (some (vI 0)) (rfS σ 1 s.2.1)) := by
  have kd := fun u Q => s_kind (sc := sc) (d := d - 1) (u := u) (Q := Q) H
  have kb := (kd_iff H.ok.1).1
  by_cases h : s.1 = t
  · obtain ⟨τ, a1, a2, a3⟩ := s_takeT (sc := sc) (d := d - 1) H
    refine Or.inl ⟨h, τ, a1, a2, fun u Q => ?_⟩
    have h' := hk.mpr h
    unfold RnA at a3
    simp (disch := first | assumption | omega | exact notL_I | exact notL_N | exact notL_R | exact catS_le (Nat.le_of_ble_eq_true rfl) | exact Nat.le_of_ble_eq_true rfl | exact ooRo (by assumption) | exact ooAt (by assumption) | exact ooRu (by assumption) | exact ooLo (by assumption) | exact ooHa (by assumption) | exact ooLe (by assumption) | exact ooFn | exact ooAn | exact ooPa | exact ooTo | exact ooWa | exact ooCh | rfl) only [x48_0, x48_1, x48_4, x48_7, x48_8, x48_11, x48_12, x48_13, x48_16, x48_17, x48_18, x48_21, x48_24, x48_25, gPa_tokens, kd, a3, Kc_some, Kc_none, if_pos, if_neg, ↓reduceIte, not_true_eq_false, not_false_eq_true]
  · refine Or.inr ⟨h, fun u Q => ?_⟩
    have h' : kdT s.1 ≠ k := fun z => h (hk.mp z)
    have rf := fun u Q => s_refuse (sc := sc) (d := d - 1) (k := 1) (u := u) (Q := Q) (by omega) H
    simp (disch := first | assumption | omega | exact notL_I | exact notL_N | exact notL_R | exact catS_le (Nat.le_of_ble_eq_true rfl) | exact Nat.le_of_ble_eq_true rfl | exact ooRo (by assumption) | exact ooAt (by assumption) | exact ooRu (by assumption) | exact ooLo (by assumption) | exact ooHa (by assumption) | exact ooLe (by assumption) | exact ooFn | exact ooAn | exact ooPa | exact ooTo | exact ooWa | exact ooCh | rfl) only [x48_0, x48_1, x48_4, x48_7, x48_8, x48_11, x48_12, x48_13, x48_16, x48_17, x48_18, x48_21, x48_24, x48_25, gPa_tokens, kd, rf, Kc_some, if_pos, if_neg, ↓reduceIte, not_true_eq_false, not_false_eq_true]
/-- a table that is there -/
theorem s_known {b : Nat} (o : oHa b) (hd : 2 ≤ d) (hc : ∀ t, 0 ≤ coC σ b t ∧ coC σ b t ≤ 3) (H : PzC f n s σ) :
    (∃ t, tabP (coC σ b) s = .inr t ∧ t = s.1 - 100 ∧ 0 ≤ t ∧ t ≤ 25 ∧ 0 < coC σ b t ∧ RnA sc d 50 0 [some (vR 87), some (vR b)] σ (some (vI 1)) σ) ∨ (∃ e, tabP (coC σ b) s = .inl e ∧ BdC (rfS σ e.1 e.2) e ∧ RnA sc d 50 0 [some (vR 87), some (vR b)] σ (some (vI 0)) (rfS σ e.1 e.2)) := by
  have kd := fun u Q => s_kind (sc := sc) (d := d - 1) (u := u) (Q := Q) H
  have va := fun u Q => s_value (sc := sc) (d := d - 1) (u := u) (Q := Q) H
  have ki := kd_iff H.ok.1
  have kb := ki.1
  have k6 := ki.2.2.2.2.2.2.1
  have vv := vl_v H.ok.1
  unfold tabP
  by_cases ht : 100 ≤ s.1 ∧ s.1 ≤ 125
  · rw [if_pos ht]
    have h6 := k6.mpr ht
    rw [h6] at kd
    rw [vv.1 ht] at va
    have co := fun u Q => s_colsC (sc := sc) (d := d - 1) (σ := σ) (u := u) (Q := Q) (b := b) (t := s.1 - 100) o ⟨by omega, by omega⟩
    have c := hc (s.1 - 100)
    by_cases h : 0 < coC σ b (s.1 - 100)
    · rw [if_pos h]
      refine Or.inl ⟨_, rfl, rfl, by omega, by omega, h, fun u Q => ?_⟩
      simp (disch := first | assumption | omega | exact notL_I | exact notL_N | exact notL_R | exact catS_le (Nat.le_of_ble_eq_true rfl) | exact Nat.le_of_ble_eq_true rfl | exact ooRo (by assumption) | exact ooAt (by assumption) | exact ooRu (by assumption) | exact ooLo (by assumption) | exact ooHa (by assumption) | exact ooLe (by assumption) | exact ooFn | exact ooAn | exact ooPa | exact ooTo | exact ooWa | exact ooCh | rfl) only [x50_0, x50_1, x50_4, x50_7, x50_9, x50_12, x50_13, x50_14, x50_17, x50_18, x50_19, x50_20, x50_23, x50_26, x50_29, x50_32, x50_33, x50_34, x50_37, x50_40, x50_41, x50_44, x50_45, gPa_tokens, kd, va, co, Kc_some, if_pos, if_neg, ↓reduceIte, not_true_eq_false, not_false_eq_true]
    · rw [if_neg h]
      have rf := fun u Q => s_refuse (sc := sc) (d := d - 1) (k := 2) (u := u) (Q := Q) (by omega) H
      refine Or.inr ⟨_, rfl, rf_v.2, fun u Q => ?_⟩
      simp (disch := first | assumption | omega | exact notL_I | exact notL_N | exact notL_R | exact catS_le (Nat.le_of_ble_eq_true rfl) | exact Nat.le_of_ble_eq_true rfl | exact ooRo (by assumption) | exact ooAt (by assumption) | exact ooRu (by assumption) | exact ooLo (by assumption) | exact ooHa (by assumption) | exact ooLe (by assumption) | exact ooFn | exact ooAn | exact ooPa | exact ooTo | exact ooWa | exact ooCh | rfl) only [x50_0, x50_1, x50_4, x50_7, x50_9, x50_12, x50_13, x50_14, x50_17, x50_18, x50_19, x50_20, x50_23, x50_26, x50_29, x50_32, x50_33, x50_34, x50_37, x50_40, x50_41, x50_44, x50_45, gPa_tokens, kd, va, co, rf, Kc_some, if_pos, if_neg, ↓reduceIte, not_true_eq_false, not_false_eq_true]
  · rw [if_neg ht]
    have h6 : kdT s.1 ≠ 6 := fun z => ht (k6.mp z)
    have rf := fun u Q => s_refuse (sc := sc) (d := d - 1) (k := 1) (u := u) (Q := Q) (by omega) H
    refine Or.inr ⟨_, rfl, rf_v.2, fun u Q => ?_⟩
    simp (disch := first | assumption | omega | exact notL_I | exact notL_N | exact notL_R | exact catS_le (Nat.le_of_ble_eq_true rfl) | exact Nat.le_of_ble_eq_true rfl | exact ooRo (by assumption) | exact ooAt (by assumption) | exact ooRu (by assumption) | exact ooLo (by assumption) | exact ooHa (by assumption) | exact ooLe (by assumption) | exact ooFn | exact ooAn | exact ooPa | exact ooTo | exact ooWa | exact ooCh | rfl) only [x50_0, x50_1, x50_4, x50_7, x50_9, x50_12, x50_13, x50_14, x50_17, x50_18, x50_19, x50_20, x50_23, x50_26, x50_29, x50_32, x50_33, x50_34, x50_37, x50_40, x50_41, x50_44, x50_45, gPa_tokens, kd, rf, Kc_some, if_pos, if_neg, ↓reduceIte, not_true_eq_false, not_false_eq_true]
end H1
