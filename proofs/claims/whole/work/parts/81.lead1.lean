/-! leads of the class: stands, fits -/
theorem TrOk.le100 {f g : Int → Int} {n : Nat} (T : TrOk 100 f g n) : n ≤ 100 := TrOk.le (N := 100) T
theorem TrOk.room100 {f g : Int → Int} {n : Nat} (T : TrOk 100 f g n) {v : Int} (h0 : 0 ≤ v) (h1 : v ≤ 99) (hv : f v = -1) : n < 100 := TrOk.room (N := 100) T h0 (by omega) hv
def TrL (e : Nat) (σ : St) (n : Nat) : Prop := σ e 2 = (n : Int) ∧ TrOk 100 (σ (e + 1)) (σ (e + 2)) n ∧ ∀ v, 0 ≤ v → v ≤ 99 → -1 ≤ σ (e + 1) v ∧ σ (e + 1) v ≤ 1099
def bL (e : Nat) (σ : St) (k : Nat) : Bd := bT (σ (e + 1)) (σ (e + 2)) k
/-- only stands change -/
def FlF (e : Nat) (σ τ : St) : Prop := (∀ c, c ≠ e → c ≠ e + 1 → c ≠ e + 2 → τ c = σ c) ∧ ∀ j, j ≠ 2 → τ e j = σ e j
theorem FlF.refl {e : Nat} {σ : St} : FlF e σ σ := ⟨fun _ _ _ _ => rfl, fun _ _ => rfl⟩
theorem FlF.trans {e : Nat} {σ τ ρ : St} (h1 : FlF e σ τ) (h2 : FlF e τ ρ) : FlF e σ ρ := ⟨fun c a b x => (h2.1 c a b x).trans (h1.1 c a b x), fun j a => (h2.2 j a).trans (h1.2 j a)⟩
section L1
variable {sc : Scr} {e : Nat}
theorem l_undoL {d m : Nat} (o : oLe e) : ∀ (k : Nat) (σ : St), TrL e σ (m + k) → ∃ τ, FlF e σ τ ∧ TrL e τ m ∧ (∀ i, i ≤ m → bL e τ i = bL e σ i) ∧ ∀ (u : Bool × Nat × Nat × Int) (Q : Rs → HS → Prop), Ex sc d 138 5 [some (vR e), some (vI ((m : Int))), some (vI (((m + k : Nat) : Int)))] [] (wH σ u) Q ↔ Q (.inl none) (wH τ u) := by
  intro k
  induction k with
  | zero =>
    intro σ T
    have tl := T.2.1.le100
    refine ⟨σ, FlF.refl, T, fun _ _ => rfl, fun u Q => ?_⟩
    rw [x138_5]
    simp (disch := first | assumption | omega | exact notL_I | exact notL_N | exact notL_R | exact catS_le (Nat.le_of_ble_eq_true rfl) | exact Nat.le_of_ble_eq_true rfl | exact ooRo (by assumption) | exact ooAt (by assumption) | exact ooRu (by assumption) | exact ooLo (by assumption) | exact ooHa (by assumption) | exact ooLe (by assumption) | exact ooFn | exact ooAn | exact ooPa | exact ooTo | exact ooWa | exact ooCh | rfl) only [x138_0, x138_1, x138_4, x138_6, x138_7, x138_10, x138_11, x138_14, x138_15, x138_18, x138_19, x138_22, x138_23, x138_24, x138_25, x138_26, x138_27, x138_28, x138_29, x138_30, x138_31, x138_32, x138_35, x138_38, x138_41, Nat.add_zero, if_pos, if_neg, ↓reduceIte, not_true_eq_false, not_false_eq_true]
  | succ k ih =>
    intro σ T
    obtain ⟨t1, t2, t3⟩ := T
    have tl := t2.le100
    have ti := t2.in_ (i := m + k) (by omega)
    obtain ⟨u1, u2⟩ := TrOk.undo (n := m + k) t2
    have e2 : su (su σ (e + 1) (σ (e + 2) ((m + k : Nat) : Int)) (-1)) e 2 ((m + k : Nat) : Int) (e + 1) = iup (σ (e + 1)) (σ (e + 2) ((m + k : Nat) : Int)) (-1) := by rw [su_ne (by omega), su_iup]
    have e3 : su (su σ (e + 1) (σ (e + 2) ((m + k : Nat) : Int)) (-1)) e 2 ((m + k : Nat) : Int) (e + 2) = σ (e + 2) := by rw [su_ne (by omega), su_ne (by omega)]
    have T' : TrL e (su (su σ (e + 1) (σ (e + 2) ((m + k : Nat) : Int)) (-1)) e 2 ((m + k : Nat) : Int)) (m + k) := by
      refine ⟨by rw [su_eq], by rw [e2, e3]; exact u1, fun v v0 v1 => ?_⟩
      rw [e2]
      unfold iup
      split
      · omega
      · exact t3 v v0 v1
    obtain ⟨τ, h1, h2, h3, h4⟩ := ih _ T'
    refine ⟨τ, FlF.trans ⟨fun c a b x => by rw [su_ne a, su_ne b], fun j hj => by rw [su_off hj, su_ne (by omega)]⟩ h1, h2, fun i hi => ?_, fun u Q => ?_⟩
    · rw [h3 i hi]
      unfold bL
      rw [e2, e3]
      exact u2 i (by omega)
    · have h4' := h4 u Q
      have en : ((m + (k + 1) : Nat) : Int) - 1 = ((m + k : Nat) : Int) := by omega
      have en2 : ((m + (k + 1) : Nat) : Int) + -1 = ((m + k : Nat) : Int) := by omega
      rw [x138_5]
      simp (disch := first | assumption | omega | exact notL_I | exact notL_N | exact notL_R | exact catS_le (Nat.le_of_ble_eq_true rfl) | exact Nat.le_of_ble_eq_true rfl | exact ooRo (by assumption) | exact ooAt (by assumption) | exact ooRu (by assumption) | exact ooLo (by assumption) | exact ooHa (by assumption) | exact ooLe (by assumption) | exact ooFn | exact ooAn | exact ooPa | exact ooTo | exact ooWa | exact ooCh | rfl) only [x138_0, x138_1, x138_4, x138_6, x138_7, x138_10, x138_11, x138_14, x138_15, x138_18, x138_19, x138_22, x138_23, x138_24, x138_25, x138_26, x138_27, x138_28, x138_29, x138_30, x138_31, x138_32, x138_35, x138_38, x138_41, gLe_standsFor, gLe_trail, RLe_trail, WLe_standsFor, pLe_trailSize, en, en2, if_pos, if_neg, ↓reduceIte, not_true_eq_false, not_false_eq_true]
      exact h4'
theorem s_undoL {d n m : Nat} {σ : St} (o : oLe e) (hm : m ≤ n) (T : TrL e σ n) : ∃ τ, FlF e σ τ ∧ TrL e τ m ∧ (∀ i, i ≤ m → bL e τ i = bL e σ i) ∧ RnA sc d 138 0 [some (vR e), some (vI ((m : Int))), none] σ none τ := by
  obtain ⟨τ, h1, h2, h3, h4⟩ := l_undoL (sc := sc) (d := d) (m := m) o (n - m) σ (by rw [show m + (n - m) = n by omega]; exact T)
  refine ⟨τ, h1, h2, h3, fun u Q => ?_⟩
  rw [← h4 u Q, show m + (n - m) = n by omega]
  simp (disch := first | assumption | omega | exact notL_I | exact notL_N | exact notL_R | exact catS_le (Nat.le_of_ble_eq_true rfl) | exact Nat.le_of_ble_eq_true rfl | exact ooRo (by assumption) | exact ooAt (by assumption) | exact ooRu (by assumption) | exact ooLo (by assumption) | exact ooHa (by assumption) | exact ooLe (by assumption) | exact ooFn | exact ooAn | exact ooPa | exact ooTo | exact ooWa | exact ooCh | rfl) only [x138_0, x138_1, x138_4, gLe_trailSize, T.1]
/-- a term agrees -/
theorem s_agrees {d n : Nat} {σ : St} {s t : Int} (o : oLe e) (hd : 1 ≤ d) (T : TrL e σ n) (s0 : -1 ≤ s) (s1 : s ≤ 1099) (t0 : -1 ≤ t) (t1 : t ≤ 1099) (ht : 1000 ≤ s → t ≠ -1) :
    (lie1 (bL e σ n) s t = none ∧ RnA sc d 141 0 [some (vR e), some (vI s), some (vI t), none] σ (some (vI 0)) σ) ∨ (∃ β τ n', lie1 (bL e σ n) s t = some β ∧ FlF e σ τ ∧ TrL e τ n' ∧ n ≤ n' ∧ bL e τ n' = β ∧ (∀ k, k ≤ n → bL e τ k = bL e σ k) ∧ RnA sc d 141 0 [some (vR e), some (vI s), some (vI t), none] σ (some (vI 1)) τ) := by
  obtain ⟨q1, q2, q3⟩ := T
  have tl := q2.le100
  by_cases hs : 1000 ≤ s
  · have ev : bL e σ n (s - 1000) = σ (e + 1) (s - 1000) := q2.at_ (by omega) (by omega)
    have rv := q3 (s - 1000) (by omega) (by omega)
    have hnl : 1000 ≤ s ∧ s ≤ 1099 := ⟨hs, s1⟩
    by_cases hv : σ (e + 1) (s - 1000) = -1
    · have rm := q2.room100 (v := s - 1000) (by omega) (by omega) hv
      obtain ⟨b1, b2, b3⟩ := q2.bind (v := s - 1000) (x := t) (by omega) (by omega) hv (ht hs)
      have w2 : su (su (su σ (e + 1) (s - 1000) t) (e + 2) (n : Int) (s - 1000)) e 2 ((n : Int) + 1) (e + 1) = iup (σ (e + 1)) (s - 1000) t := by rw [su_ne (by omega), su_ne (by omega), su_iup]
      have w3 : su (su (su σ (e + 1) (s - 1000) t) (e + 2) (n : Int) (s - 1000)) e 2 ((n : Int) + 1) (e + 2) = iup (σ (e + 2)) n (s - 1000) := by rw [su_ne (by omega), su_iup, su_ne (by omega)]
      refine Or.inr ⟨bup (bL e σ n) (s - 1000) t, su (su (su σ (e + 1) (s - 1000) t) (e + 2) (n : Int) (s - 1000)) e 2 ((n : Int) + 1), n + 1, ?_, ⟨fun c a b x => by rw [su_ne a, su_ne x, su_ne b], fun j hj => by rw [su_off hj, su_ne (by omega), su_ne (by omega)]⟩, ⟨by rw [su_eq]; omega, by rw [w2, w3]; exact b1, fun v v0 v1 => ?_⟩, by omega, by unfold bL; rw [w2, w3]; exact b3, fun k hk => by unfold bL; rw [w2, w3]; exact b2 k hk, fun u Q => ?_⟩
      · unfold lie1
        rw [if_pos ⟨hs, by rw [ev]; exact hv⟩]
      · rw [w2]
        unfold iup
        split
        · omega
        · exact q3 v v0 v1
      · simp (disch := first | assumption | omega | exact notL_I | exact notL_N | exact notL_R | exact catS_le (Nat.le_of_ble_eq_true rfl) | exact Nat.le_of_ble_eq_true rfl | exact ooRo (by assumption) | exact ooAt (by assumption) | exact ooRu (by assumption) | exact ooLo (by assumption) | exact ooHa (by assumption) | exact ooLe (by assumption) | exact ooFn | exact ooAn | exact ooPa | exact ooTo | exact ooWa | exact ooCh | rfl) only [x141_0, x141_1, x141_4, x141_7, x141_8, x141_9, x141_12, x141_13, x141_16, x141_17, x141_18, x141_19, x141_22, x141_23, x141_24, x141_25, x141_28, x141_29, x141_30, x141_31, x141_34, x141_35, x141_38, x141_39, x141_40, x141_41, x141_44, x141_45, x141_48, x141_49, x141_50, x141_51, x141_54, x141_56, x141_59, x141_60, x141_63, x141_64, x141_65, x141_66, x141_67, x141_70, x141_71, x141_74, x141_75, x141_76, x141_77I, x141_77, x141_78, x141_81, x141_82, x141_83, x141_86, x141_87, s_isNl, if_pos hnl, gLe_standsFor, gLe_trail, gLe_trailSize, RLe_standsFor, WLe_standsFor, WLe_trail, pLe_trailSize, hv, q1, su_ne, Kc_some, if_pos, if_neg, ↓reduceIte, not_true_eq_false, not_false_eq_true]
    · by_cases hvt : σ (e + 1) (s - 1000) = t
      · refine Or.inr ⟨bL e σ n, σ, n, ?_, FlF.refl, ⟨q1, q2, q3⟩, Nat.le_refl _, rfl, fun _ _ => rfl, fun u Q => ?_⟩
        · unfold lie1
          rw [if_neg (fun z => hv (by rw [← ev]; exact z.2)), if_pos hs, ev, if_pos hvt]
        · simp (disch := first | assumption | omega | exact notL_I | exact notL_N | exact notL_R | exact catS_le (Nat.le_of_ble_eq_true rfl) | exact Nat.le_of_ble_eq_true rfl | exact ooRo (by assumption) | exact ooAt (by assumption) | exact ooRu (by assumption) | exact ooLo (by assumption) | exact ooHa (by assumption) | exact ooLe (by assumption) | exact ooFn | exact ooAn | exact ooPa | exact ooTo | exact ooWa | exact ooCh | rfl) only [x141_0, x141_1, x141_4, x141_7, x141_8, x141_9, x141_12, x141_13, x141_16, x141_17, x141_18, x141_19, x141_22, x141_23, x141_24, x141_25, x141_28, x141_29, x141_30, x141_31, x141_34, x141_35, x141_38, x141_39, x141_40, x141_41, x141_44, x141_45, x141_48, x141_49, x141_50, x141_51, x141_54, x141_56, x141_59, x141_60, x141_63, x141_64, x141_65, x141_66, x141_67, x141_70, x141_71, x141_74, x141_75, x141_76, x141_77I, x141_77, x141_78, x141_81, x141_82, x141_83, x141_86, x141_87, s_isNl, if_pos hnl, gLe_standsFor, RLe_standsFor, Kc_some, if_pos, if_neg, ↓reduceIte, not_true_eq_false, not_false_eq_true]
      · refine Or.inl ⟨?_, fun u Q => ?_⟩
        · unfold lie1
          rw [if_neg (fun z => hv (by rw [← ev]; exact z.2)), if_pos hs, ev, if_neg hvt]
        · simp (disch := first | assumption | omega | exact notL_I | exact notL_N | exact notL_R | exact catS_le (Nat.le_of_ble_eq_true rfl) | exact Nat.le_of_ble_eq_true rfl | exact ooRo (by assumption) | exact ooAt (by assumption) | exact ooRu (by assumption) | exact ooLo (by assumption) | exact ooHa (by assumption) | exact ooLe (by assumption) | exact ooFn | exact ooAn | exact ooPa | exact ooTo | exact ooWa | exact ooCh | rfl) only [x141_0, x141_1, x141_4, x141_7, x141_8, x141_9, x141_12, x141_13, x141_16, x141_17, x141_18, x141_19, x141_22, x141_23, x141_24, x141_25, x141_28, x141_29, x141_30, x141_31, x141_34, x141_35, x141_38, x141_39, x141_40, x141_41, x141_44, x141_45, x141_48, x141_49, x141_50, x141_51, x141_54, x141_56, x141_59, x141_60, x141_63, x141_64, x141_65, x141_66, x141_67, x141_70, x141_71, x141_74, x141_75, x141_76, x141_77I, x141_77, x141_78, x141_81, x141_82, x141_83, x141_86, x141_87, s_isNl, if_pos hnl, gLe_standsFor, RLe_standsFor, Kc_some, if_pos, if_neg, ↓reduceIte, not_true_eq_false, not_false_eq_true]
  · have hnl : ¬ (1000 ≤ s ∧ s ≤ 1099) := fun z => hs z.1
    by_cases hst : s = t
    · refine Or.inr ⟨bL e σ n, σ, n, ?_, FlF.refl, ⟨q1, q2, q3⟩, Nat.le_refl _, rfl, fun _ _ => rfl, fun u Q => ?_⟩
      · unfold lie1
        rw [if_neg (fun z => hs z.1), if_neg hs, if_pos hst]
      · simp (disch := first | assumption | omega | exact notL_I | exact notL_N | exact notL_R | exact catS_le (Nat.le_of_ble_eq_true rfl) | exact Nat.le_of_ble_eq_true rfl | exact ooRo (by assumption) | exact ooAt (by assumption) | exact ooRu (by assumption) | exact ooLo (by assumption) | exact ooHa (by assumption) | exact ooLe (by assumption) | exact ooFn | exact ooAn | exact ooPa | exact ooTo | exact ooWa | exact ooCh | rfl) only [x141_0, x141_1, x141_4, x141_7, x141_8, x141_9, x141_12, x141_13, x141_16, x141_17, x141_18, x141_19, x141_22, x141_23, x141_24, x141_25, x141_28, x141_29, x141_30, x141_31, x141_34, x141_35, x141_38, x141_39, x141_40, x141_41, x141_44, x141_45, x141_48, x141_49, x141_50, x141_51, x141_54, x141_56, x141_59, x141_60, x141_63, x141_64, x141_65, x141_66, x141_67, x141_70, x141_71, x141_74, x141_75, x141_76, x141_77I, x141_77, x141_78, x141_81, x141_82, x141_83, x141_86, x141_87, s_isNl, if_neg hnl, Kc_some, if_pos, if_neg, ↓reduceIte, not_true_eq_false, not_false_eq_true]
    · refine Or.inl ⟨?_, fun u Q => ?_⟩
      · unfold lie1
        rw [if_neg (fun z => hs z.1), if_neg hs, if_neg hst]
      · simp (disch := first | assumption | omega | exact notL_I | exact notL_N | exact notL_R | exact catS_le (Nat.le_of_ble_eq_true rfl) | exact Nat.le_of_ble_eq_true rfl | exact ooRo (by assumption) | exact ooAt (by assumption) | exact ooRu (by assumption) | exact ooLo (by assumption) | exact ooHa (by assumption) | exact ooLe (by assumption) | exact ooFn | exact ooAn | exact ooPa | exact ooTo | exact ooWa | exact ooCh | rfl) only [x141_0, x141_1, x141_4, x141_7, x141_8, x141_9, x141_12, x141_13, x141_16, x141_17, x141_18, x141_19, x141_22, x141_23, x141_24, x141_25, x141_28, x141_29, x141_30, x141_31, x141_34, x141_35, x141_38, x141_39, x141_40, x141_41, x141_44, x141_45, x141_48, x141_49, x141_50, x141_51, x141_54, x141_56, x141_59, x141_60, x141_63, x141_64, x141_65, x141_66, x141_67, x141_70, x141_71, x141_74, x141_75, x141_76, x141_77I, x141_77, x141_78, x141_81, x141_82, x141_83, x141_86, x141_87, s_isNl, if_neg hnl, Kc_some, if_pos, if_neg, ↓reduceIte, not_true_eq_false, not_false_eq_true]
end L1
