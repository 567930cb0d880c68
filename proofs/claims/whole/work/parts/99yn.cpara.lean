/-! the class reads: a text -/
theorem HtC.rl {σ : St} {b : Nat} {T : Tx} (h : HtC σ b T) : σ b 1 = (T.2.1.length : Int) := by
  have e : rlC σ b = T.2.1 := congrArg (fun x : Hl => x.2.1) h.1
  have w := h.2.1.2.1
  rw [← e]
  unfold rlC
  rw [rkF_len]
  omega
section H10
variable {sc : Scr} {d : Nat} {f : Int → Int} {n : Int} {b : Nat}
set_option maxHeartbeats 1000000 in
theorem l_textC (hd : 7 ≤ d) (ob : oHa b) (fb : far b 84) : ∀ (k i : Nat) (T : Tx) (s : Ps) (σ : St), i + k = 1001 → HtC σ b T → TxS T → PzC f n s σ →
    (∃ T' τ, txtP (nxT f n) k T s = .inr T' ∧ FzB b 84 σ τ ∧ HtC τ b T' ∧ TxS T' ∧ (τ 87 0 = 0 ∧ τ 87 1 = -1) ∧ ∀ (u : Bool × Nat × Nat × Int) (Q : Rs → HS → Prop), Ex sc d 35 8 [some (vR 87), some (vR b), some (vI 1), some (vI ((i : Int)))] [] (wH σ u) Q ↔ Q (.inl (some (vI (1)))) (wH τ u)) ∨
    (∃ e τ, txtP (nxT f n) k T s = .inl e ∧ FzB b 84 σ τ ∧ WfHa τ b ∧ BdC τ e ∧ ∀ (u : Bool × Nat × Nat × Int) (Q : Rs → HS → Prop), Ex sc d 35 8 [some (vR 87), some (vR b), some (vI 1), some (vI ((i : Int)))] [] (wH σ u) Q ↔ Q (.inl (some (vI (0)))) (wH τ u)) := by
  have fb' := fb
  unfold far at fb'
  intro k
  induction k with
  | zero =>
    intro i T s σ hi h S H
    refine Or.inl ⟨T, σ, rfl, FzB.refl, h, S, H.2.2.2, fun u Q => ?_⟩
    rw [x35_8]
    simp (disch := first | assumption | omega | exact notL_I | exact notL_N | exact notL_R | exact catS_le (Nat.le_of_ble_eq_true rfl) | exact Nat.le_of_ble_eq_true rfl | exact ooRo (by assumption) | exact ooAt (by assumption) | exact ooRu (by assumption) | exact ooLo (by assumption) | exact ooHa (by assumption) | exact ooLe (by assumption) | exact ooFn | exact ooAn | exact ooPa | exact ooTo | exact ooWa | exact ooCh | rfl) only [x35_0, x35_1, x35_4, x35_5, x35_6, x35_7, x35_9, x35_12, x35_15, x35_16, x35_19, x35_20, x35_23, x35_26, x35_29, x35_30, x35_33, x35_36_2, x35_36_3, x35_36_4, x35_36, x35_64, x35_65, x35_66, x35_69, x35_70, x35_73, x35_74, x35_75, x35_78, x35_79, x35_82, x35_83, x35_86, x35_88, x35_91, x35_92, x35_93, x35_96, x35_97, x35_100, x35_101, x35_102, x35_105, x35_108, x35_109, x35_110, x35_113, x35_114, x35_115I, x35_115, x35_116, x35_119, x35_120, x35_123, x35_124, x35_127, x35_128, x35_129, x35_132, x35_135, x35_136, x35_137, x35_140, x35_141, x35_144, x35_147, x35_148, if_pos, if_neg, ↓reduceIte, not_true_eq_false, not_false_eq_true]
  | succ k ih =>
    intro i T s σ hi h S H
    have kd := fun u Q => s_kind (sc := sc) (d := d - 1) (u := u) (Q := Q) H
    have ki := kd_iff H.ok.1
    have kb := ki.1
    have k0 := ki.2.1
    have k2 := ki.2.2.1
    have k3 := ki.2.2.2.1
    have k4 := ki.2.2.2.2.1
    rw [txtP]
    by_cases h0 : s.1 = 0
    · rw [if_pos h0]
      rw [k0.mpr h0] at kd
      refine Or.inl ⟨T, σ, rfl, FzB.refl, h, S, H.2.2.2, fun u Q => ?_⟩
      rw [x35_8]
      simp (disch := first | assumption | omega | exact notL_I | exact notL_N | exact notL_R | exact catS_le (Nat.le_of_ble_eq_true rfl) | exact Nat.le_of_ble_eq_true rfl | exact ooRo (by assumption) | exact ooAt (by assumption) | exact ooRu (by assumption) | exact ooLo (by assumption) | exact ooHa (by assumption) | exact ooLe (by assumption) | exact ooFn | exact ooAn | exact ooPa | exact ooTo | exact ooWa | exact ooCh | rfl) only [x35_0, x35_1, x35_4, x35_5, x35_6, x35_7, x35_9, x35_12, x35_15, x35_16, x35_19, x35_20, x35_23, x35_26, x35_29, x35_30, x35_33, x35_36_2, x35_36_3, x35_36_4, x35_36, x35_64, x35_65, x35_66, x35_69, x35_70, x35_73, x35_74, x35_75, x35_78, x35_79, x35_82, x35_83, x35_86, x35_88, x35_91, x35_92, x35_93, x35_96, x35_97, x35_100, x35_101, x35_102, x35_105, x35_108, x35_109, x35_110, x35_113, x35_114, x35_115I, x35_115, x35_116, x35_119, x35_120, x35_123, x35_124, x35_127, x35_128, x35_129, x35_132, x35_135, x35_136, x35_137, x35_140, x35_141, x35_144, x35_147, x35_148, gPa_tokens, kd, Kc_some, if_pos, if_neg, ↓reduceIte, not_true_eq_false, not_false_eq_true]
    · rw [if_neg h0]
      have n0 : kdT s.1 ≠ 0 := fun z => h0 (k0.mp z)
      -- good so far: on; bad: out
      have on : ∀ (T' : Tx) (s' : Ps) (τ : St), FzB b 84 σ τ → PzC f n s' τ → HtC τ b T' → TxS T' → (∀ (u : Bool × Nat × Nat × Int) (Q : Rs → HS → Prop), Ex sc d 35 8 [some (vR 87), some (vR b), some (vI 1), some (vI ((i : Int)))] [] (wH σ u) Q ↔ Ex sc d 35 8 [some (vR 87), some (vR b), some (vI 1), some (vI ((i : Int) + 1))] [] (wH τ u) Q) →
          (∃ T2 ρ, txtP (nxT f n) k T' s' = .inr T2 ∧ FzB b 84 σ ρ ∧ HtC ρ b T2 ∧ TxS T2 ∧ (ρ 87 0 = 0 ∧ ρ 87 1 = -1) ∧ ∀ (u : Bool × Nat × Nat × Int) (Q : Rs → HS → Prop), Ex sc d 35 8 [some (vR 87), some (vR b), some (vI 1), some (vI ((i : Int)))] [] (wH σ u) Q ↔ Q (.inl (some (vI (1)))) (wH ρ u)) ∨
          (∃ e ρ, txtP (nxT f n) k T' s' = .inl e ∧ FzB b 84 σ ρ ∧ WfHa ρ b ∧ BdC ρ e ∧ ∀ (u : Bool × Nat × Nat × Int) (Q : Rs → HS → Prop), Ex sc d 35 8 [some (vR 87), some (vR b), some (vI 1), some (vI ((i : Int)))] [] (wH σ u) Q ↔ Q (.inl (some (vI (0)))) (wH ρ u)) := by
        intro T' s' τ g1 g2 g3 g4 g5
        have ei : ((i + 1 : Nat) : Int) = (i : Int) + 1 := by omega
        have q := ih (i + 1) T' s' τ (by omega) g3 g4 g2
        rw [ei] at q
        rcases q with ⟨T2, ρ, q1, q2, q3, q4, q5, q6⟩ | ⟨e, ρ, q1, q2, q3, q4, q5⟩
        · exact Or.inl ⟨T2, ρ, q1, g1.trans q2, q3, q4, q5, fun u Q => (g5 u Q).trans (q6 u Q)⟩
        · exact Or.inr ⟨e, ρ, q1, g1.trans q2, q3, q4, fun u Q => (g5 u Q).trans (q5 u Q)⟩
      have out : ∀ (τ : St) (u : Bool × Nat × Nat × Int) (Q : Rs → HS → Prop), Ex sc d 35 8 [some (vR 87), some (vR b), some (vI 0), some (vI ((i : Int) + 1))] [] (wH τ u) Q ↔ Q (.inl (some (vI (0)))) (wH τ u) := by
        intro τ u Q
        rw [x35_8]
        by_cases hi1 : (i : Int) + 1 < 1001
        · simp (disch := first | assumption | omega | exact notL_I | exact notL_N | exact notL_R | exact catS_le (Nat.le_of_ble_eq_true rfl) | exact Nat.le_of_ble_eq_true rfl | exact ooRo (by assumption) | exact ooAt (by assumption) | exact ooRu (by assumption) | exact ooLo (by assumption) | exact ooHa (by assumption) | exact ooLe (by assumption) | exact ooFn | exact ooAn | exact ooPa | exact ooTo | exact ooWa | exact ooCh | rfl) only [x35_0, x35_1, x35_4, x35_5, x35_6, x35_7, x35_9, x35_12, x35_15, x35_16, x35_19, x35_20, x35_23, x35_26, x35_29, x35_30, x35_33, x35_36_2, x35_36_3, x35_36_4, x35_36, x35_64, x35_65, x35_66, x35_69, x35_70, x35_73, x35_74, x35_75, x35_78, x35_79, x35_82, x35_83, x35_86, x35_88, x35_91, x35_92, x35_93, x35_96, x35_97, x35_100, x35_101, x35_102, x35_105, x35_108, x35_109, x35_110, x35_113, x35_114, x35_115I, x35_115, x35_116, x35_119, x35_120, x35_123, x35_124, x35_127, x35_128, x35_129, x35_132, x35_135, x35_136, x35_137, x35_140, x35_141, x35_144, x35_147, x35_148, if_pos, if_neg, ↓reduceIte, not_true_eq_false, not_false_eq_true]
        · simp (disch := first | assumption | omega | exact notL_I | exact notL_N | exact notL_R | exact catS_le (Nat.le_of_ble_eq_true rfl) | exact Nat.le_of_ble_eq_true rfl | exact ooRo (by assumption) | exact ooAt (by assumption) | exact ooRu (by assumption) | exact ooLo (by assumption) | exact ooHa (by assumption) | exact ooLe (by assumption) | exact ooFn | exact ooAn | exact ooPa | exact ooTo | exact ooWa | exact ooCh | rfl) only [x35_0, x35_1, x35_4, x35_5, x35_6, x35_7, x35_9, x35_12, x35_15, x35_16, x35_19, x35_20, x35_23, x35_26, x35_29, x35_30, x35_33, x35_36_2, x35_36_3, x35_36_4, x35_36, x35_64, x35_65, x35_66, x35_69, x35_70, x35_73, x35_74, x35_75, x35_78, x35_79, x35_82, x35_83, x35_86, x35_88, x35_91, x35_92, x35_93, x35_96, x35_97, x35_100, x35_101, x35_102, x35_105, x35_108, x35_109, x35_110, x35_113, x35_114, x35_115I, x35_115, x35_116, x35_119, x35_120, x35_123, x35_124, x35_127, x35_128, x35_129, x35_132, x35_135, x35_136, x35_137, x35_140, x35_141, x35_144, x35_147, x35_148, if_pos, if_neg, ↓reduceIte, not_true_eq_false, not_false_eq_true]
      by_cases h2 : s.1 = 2
      · rw [if_pos h2]
        rw [k2.mpr h2] at kd
        rcases s_tableC (sc := sc) (d := d - 1) (by omega) ob fb h S H with ⟨T', s', τ, e1, e2, e3, e4, e5, e6⟩ | ⟨e, τ, e1, e2, e3, e4, e5⟩
        · rw [e1, andP_r]
          unfold RnA at e6
          refine on T' s' τ e2 e3 e4 e5 (fun u Q => ?_)
          rw [x35_8]
          simp (disch := first | assumption | omega | exact notL_I | exact notL_N | exact notL_R | exact catS_le (Nat.le_of_ble_eq_true rfl) | exact Nat.le_of_ble_eq_true rfl | exact ooRo (by assumption) | exact ooAt (by assumption) | exact ooRu (by assumption) | exact ooLo (by assumption) | exact ooHa (by assumption) | exact ooLe (by assumption) | exact ooFn | exact ooAn | exact ooPa | exact ooTo | exact ooWa | exact ooCh | rfl) only [x35_0, x35_1, x35_4, x35_5, x35_6, x35_7, x35_9, x35_12, x35_15, x35_16, x35_19, x35_20, x35_23, x35_26, x35_29, x35_30, x35_33, x35_36_2, x35_36_3, x35_36_4, x35_36, x35_64, x35_65, x35_66, x35_69, x35_70, x35_73, x35_74, x35_75, x35_78, x35_79, x35_82, x35_83, x35_86, x35_88, x35_91, x35_92, x35_93, x35_96, x35_97, x35_100, x35_101, x35_102, x35_105, x35_108, x35_109, x35_110, x35_113, x35_114, x35_115I, x35_115, x35_116, x35_119, x35_120, x35_123, x35_124, x35_127, x35_128, x35_129, x35_132, x35_135, x35_136, x35_137, x35_140, x35_141, x35_144, x35_147, x35_148, gPa_tokens, kd, e6, Kc_some, if_pos, if_neg, ↓reduceIte, not_true_eq_false, not_false_eq_true]
        · rw [e1, andP_l]
          unfold RnA at e5
          refine Or.inr ⟨e, τ, rfl, e2, e3, e4, fun u Q => ?_⟩
          rw [← out τ u Q, x35_8]
          simp (disch := first | assumption | omega | exact notL_I | exact notL_N | exact notL_R | exact catS_le (Nat.le_of_ble_eq_true rfl) | exact Nat.le_of_ble_eq_true rfl | exact ooRo (by assumption) | exact ooAt (by assumption) | exact ooRu (by assumption) | exact ooLo (by assumption) | exact ooHa (by assumption) | exact ooLe (by assumption) | exact ooFn | exact ooAn | exact ooPa | exact ooTo | exact ooWa | exact ooCh | rfl) only [x35_0, x35_1, x35_4, x35_5, x35_6, x35_7, x35_9, x35_12, x35_15, x35_16, x35_19, x35_20, x35_23, x35_26, x35_29, x35_30, x35_33, x35_36_2, x35_36_3, x35_36_4, x35_36, x35_64, x35_65, x35_66, x35_69, x35_70, x35_73, x35_74, x35_75, x35_78, x35_79, x35_82, x35_83, x35_86, x35_88, x35_91, x35_92, x35_93, x35_96, x35_97, x35_100, x35_101, x35_102, x35_105, x35_108, x35_109, x35_110, x35_113, x35_114, x35_115I, x35_115, x35_116, x35_119, x35_120, x35_123, x35_124, x35_127, x35_128, x35_129, x35_132, x35_135, x35_136, x35_137, x35_140, x35_141, x35_144, x35_147, x35_148, gPa_tokens, kd, e5, Kc_some, if_pos, if_neg, ↓reduceIte, not_true_eq_false, not_false_eq_true]
      · rw [if_neg h2]
        have n2 : kdT s.1 ≠ 2 := fun z => h2 (k2.mp z)
        by_cases h3 : s.1 = 3
        · rw [if_pos h3]
          rw [k3.mpr h3] at kd
          rcases s_rowC (sc := sc) (d := d - 1) (by omega) ob fb h S H with ⟨T', s', τ, e1, e2, e3, e4, e5, e6⟩ | ⟨e, τ, e1, e2, e3, e4, e5⟩
          · rw [e1, andP_r]
            unfold RnA at e6
            refine on T' s' τ e2 e3 e4 e5 (fun u Q => ?_)
            rw [x35_8]
            simp (disch := first | assumption | omega | exact notL_I | exact notL_N | exact notL_R | exact catS_le (Nat.le_of_ble_eq_true rfl) | exact Nat.le_of_ble_eq_true rfl | exact ooRo (by assumption) | exact ooAt (by assumption) | exact ooRu (by assumption) | exact ooLo (by assumption) | exact ooHa (by assumption) | exact ooLe (by assumption) | exact ooFn | exact ooAn | exact ooPa | exact ooTo | exact ooWa | exact ooCh | rfl) only [x35_0, x35_1, x35_4, x35_5, x35_6, x35_7, x35_9, x35_12, x35_15, x35_16, x35_19, x35_20, x35_23, x35_26, x35_29, x35_30, x35_33, x35_36_2, x35_36_3, x35_36_4, x35_36, x35_64, x35_65, x35_66, x35_69, x35_70, x35_73, x35_74, x35_75, x35_78, x35_79, x35_82, x35_83, x35_86, x35_88, x35_91, x35_92, x35_93, x35_96, x35_97, x35_100, x35_101, x35_102, x35_105, x35_108, x35_109, x35_110, x35_113, x35_114, x35_115I, x35_115, x35_116, x35_119, x35_120, x35_123, x35_124, x35_127, x35_128, x35_129, x35_132, x35_135, x35_136, x35_137, x35_140, x35_141, x35_144, x35_147, x35_148, gPa_tokens, kd, e6, Kc_some, if_pos, if_neg, ↓reduceIte, not_true_eq_false, not_false_eq_true]
          · rw [e1, andP_l]
            unfold RnA at e5
            refine Or.inr ⟨e, τ, rfl, e2, e3, e4, fun u Q => ?_⟩
            rw [← out τ u Q, x35_8]
            simp (disch := first | assumption | omega | exact notL_I | exact notL_N | exact notL_R | exact catS_le (Nat.le_of_ble_eq_true rfl) | exact Nat.le_of_ble_eq_true rfl | exact ooRo (by assumption) | exact ooAt (by assumption) | exact ooRu (by assumption) | exact ooLo (by assumption) | exact ooHa (by assumption) | exact ooLe (by assumption) | exact ooFn | exact ooAn | exact ooPa | exact ooTo | exact ooWa | exact ooCh | rfl) only [x35_0, x35_1, x35_4, x35_5, x35_6, x35_7, x35_9, x35_12, x35_15, x35_16, x35_19, x35_20, x35_23, x35_26, x35_29, x35_30, x35_33, x35_36_2, x35_36_3, x35_36_4, x35_36, x35_64, x35_65, x35_66, x35_69, x35_70, x35_73, x35_74, x35_75, x35_78, x35_79, x35_82, x35_83, x35_86, x35_88, x35_91, x35_92, x35_93, x35_96, x35_97, x35_100, x35_101, x35_102, x35_105, x35_108, x35_109, x35_110, x35_113, x35_114, x35_115I, x35_115, x35_116, x35_119, x35_120, x35_123, x35_124, x35_127, x35_128, x35_129, x35_132, x35_135, x35_136, x35_137, x35_140, x35_141, x35_144, x35_147, x35_148, gPa_tokens, kd, e5, Kc_some, if_pos, if_neg, ↓reduceIte, not_true_eq_false, not_false_eq_true]
        · rw [if_neg h3]
          have n3 : kdT s.1 ≠ 3 := fun z => h3 (k3.mp z)
          by_cases h4 : s.1 = 4
          · rw [if_pos h4]
            rw [k4.mpr h4] at kd
            have rl := h.rl
            have w1 := h.2.1.2.1
            by_cases h10 : T.2.1.length = 10
            · rw [if_pos h10, andP_l]
              have rf := fun u Q => s_refuse (sc := sc) (d := d - 1) (k := 4) (u := u) (Q := Q) (by omega) H
              have g1 : rfS σ 4 s.2.1 b 1 = σ b 1 := by rw [rf_v.1.cl fb b (by omega) (by omega)]
              have g2 : su (rfS σ 4 s.2.1) b 1 (rfS σ 4 s.2.1 b 1 + 0) = rfS σ 4 s.2.1 := by rw [Int.add_zero, su_self]
              refine Or.inr ⟨_, _, rfl, rf_v.1.b, h.2.1.c (rf_v.1.cl fb), rf_v.2, fun u Q => ?_⟩
              rw [← out _ u Q, x35_8]
              simp (disch := first | assumption | omega | exact notL_I | exact notL_N | exact notL_R | exact catS_le (Nat.le_of_ble_eq_true rfl) | exact Nat.le_of_ble_eq_true rfl | exact ooRo (by assumption) | exact ooAt (by assumption) | exact ooRu (by assumption) | exact ooLo (by assumption) | exact ooHa (by assumption) | exact ooLe (by assumption) | exact ooFn | exact ooAn | exact ooPa | exact ooTo | exact ooWa | exact ooCh | rfl) only [x35_0, x35_1, x35_4, x35_5, x35_6, x35_7, x35_9, x35_12, x35_15, x35_16, x35_19, x35_20, x35_23, x35_26, x35_29, x35_30, x35_33, x35_36_2, x35_36_3, x35_36_4, x35_36, x35_64, x35_65, x35_66, x35_69, x35_70, x35_73, x35_74, x35_75, x35_78, x35_79, x35_82, x35_83, x35_86, x35_88, x35_91, x35_92, x35_93, x35_96, x35_97, x35_100, x35_101, x35_102, x35_105, x35_108, x35_109, x35_110, x35_113, x35_114, x35_115I, x35_115, x35_116, x35_119, x35_120, x35_123, x35_124, x35_127, x35_128, x35_129, x35_132, x35_135, x35_136, x35_137, x35_140, x35_141, x35_144, x35_147, x35_148, gPa_tokens, kd, gHa_ruleCount, rl, rf, pHa_ruleCount, g2, Kc_some, if_pos, if_neg, ↓reduceIte, not_true_eq_false, not_false_eq_true]
            · rw [if_neg h10]
              have hk : T.2.1.length ≤ 9 := by omega
              have oru := ob.ru hk
              have hC : coC σ b = T.1 := congrArg (fun x : Hl => x.1) h.1
              rcases s_ruleC (sc := sc) (d := d - 1) (b := b) (a := b + 14 + 7 * T.2.1.length) (σ := σ) (C := T.1) (by omega) oru ob (by unfold far; omega) (by unfold far; omega) (by omega) S.1 hC H (h.2.1.2.2.2.2.2.2 _ hk) with ⟨r, s', τ, e1, e2, e3, e4, e5, e6⟩ | ⟨e, τ, e1, e2, e3, e4, e5⟩
              · rw [e1, andP_r, andP_r]
                unfold RnA at e6
                obtain ⟨x1, x2⟩ := ht_ru h hk rl e2 fb e4
                rw [e5] at x1
                have g1 : τ b 1 = (T.2.1.length : Int) := by rw [(ha_ru h.2.1 hk e2 fb e4).2 b (by omega) (by omega) (by omega)]; exact rl
                refine on _ s' _ ((e2.sub (by omega) (by omega)).trans (x2.z fb)) (e3.frB x2 fb) x1 S (fun u Q => ?_)
                rw [x35_8]
                simp (disch := first | assumption | omega | exact notL_I | exact notL_N | exact notL_R | exact catS_le (Nat.le_of_ble_eq_true rfl) | exact Nat.le_of_ble_eq_true rfl | exact ooRo (by assumption) | exact ooAt (by assumption) | exact ooRu (by assumption) | exact ooLo (by assumption) | exact ooHa (by assumption) | exact ooLe (by assumption) | exact ooFn | exact ooAn | exact ooPa | exact ooTo | exact ooWa | exact ooCh | rfl) only [x35_0, x35_1, x35_4, x35_5, x35_6, x35_7, x35_9, x35_12, x35_15, x35_16, x35_19, x35_20, x35_23, x35_26, x35_29, x35_30, x35_33, x35_36_2, x35_36_3, x35_36_4, x35_36, x35_64, x35_65, x35_66, x35_69, x35_70, x35_73, x35_74, x35_75, x35_78, x35_79, x35_82, x35_83, x35_86, x35_88, x35_91, x35_92, x35_93, x35_96, x35_97, x35_100, x35_101, x35_102, x35_105, x35_108, x35_109, x35_110, x35_113, x35_114, x35_115I, x35_115, x35_116, x35_119, x35_120, x35_123, x35_124, x35_127, x35_128, x35_129, x35_132, x35_135, x35_136, x35_137, x35_140, x35_141, x35_144, x35_147, x35_148, gPa_tokens, kd, gHa_ruleCount, gHa_rules, rl, Rr_rules, Int.toNat_natCast, e6, pHa_ruleCount, g1, Kc_some, if_pos, if_neg, ↓reduceIte, not_true_eq_false, not_false_eq_true]
              · rw [e1, andP_l, andP_l]
                unfold RnA at e5
                obtain ⟨v1, v2⟩ := ha_ru h.2.1 hk e2 fb e3
                have g2 : su τ b 1 (τ b 1 + 0) = τ := by rw [Int.add_zero, su_self]
                refine Or.inr ⟨e, τ, rfl, e2.sub (by omega) (by omega), v1, e4, fun u Q => ?_⟩
                rw [← out τ u Q, x35_8]
                simp (disch := first | assumption | omega | exact notL_I | exact notL_N | exact notL_R | exact catS_le (Nat.le_of_ble_eq_true rfl) | exact Nat.le_of_ble_eq_true rfl | exact ooRo (by assumption) | exact ooAt (by assumption) | exact ooRu (by assumption) | exact ooLo (by assumption) | exact ooHa (by assumption) | exact ooLe (by assumption) | exact ooFn | exact ooAn | exact ooPa | exact ooTo | exact ooWa | exact ooCh | rfl) only [x35_0, x35_1, x35_4, x35_5, x35_6, x35_7, x35_9, x35_12, x35_15, x35_16, x35_19, x35_20, x35_23, x35_26, x35_29, x35_30, x35_33, x35_36_2, x35_36_3, x35_36_4, x35_36, x35_64, x35_65, x35_66, x35_69, x35_70, x35_73, x35_74, x35_75, x35_78, x35_79, x35_82, x35_83, x35_86, x35_88, x35_91, x35_92, x35_93, x35_96, x35_97, x35_100, x35_101, x35_102, x35_105, x35_108, x35_109, x35_110, x35_113, x35_114, x35_115I, x35_115, x35_116, x35_119, x35_120, x35_123, x35_124, x35_127, x35_128, x35_129, x35_132, x35_135, x35_136, x35_137, x35_140, x35_141, x35_144, x35_147, x35_148, gPa_tokens, kd, gHa_ruleCount, gHa_rules, rl, Rr_rules, Int.toNat_natCast, e5, pHa_ruleCount, g2, Kc_some, if_pos, if_neg, ↓reduceIte, not_true_eq_false, not_false_eq_true]
          · rw [if_neg h4, andP_l]
            have n4 : kdT s.1 ≠ 4 := fun z => h4 (k4.mp z)
            have rf := fun u Q => s_refuse (sc := sc) (d := d - 1) (k := 1) (u := u) (Q := Q) (by omega) H
            refine Or.inr ⟨_, _, rfl, rf_v.1.b, h.2.1.c (rf_v.1.cl fb), rf_v.2, fun u Q => ?_⟩
            rw [← out _ u Q, x35_8]
            simp (disch := first | assumption | omega | exact notL_I | exact notL_N | exact notL_R | exact catS_le (Nat.le_of_ble_eq_true rfl) | exact Nat.le_of_ble_eq_true rfl | exact ooRo (by assumption) | exact ooAt (by assumption) | exact ooRu (by assumption) | exact ooLo (by assumption) | exact ooHa (by assumption) | exact ooLe (by assumption) | exact ooFn | exact ooAn | exact ooPa | exact ooTo | exact ooWa | exact ooCh | rfl) only [x35_0, x35_1, x35_4, x35_5, x35_6, x35_7, x35_9, x35_12, x35_15, x35_16, x35_19, x35_20, x35_23, x35_26, x35_29, x35_30, x35_33, x35_36_2, x35_36_3, x35_36_4, x35_36, x35_64, x35_65, x35_66, x35_69, x35_70, x35_73, x35_74, x35_75, x35_78, x35_79, x35_82, x35_83, x35_86, x35_88, x35_91, x35_92, x35_93, x35_96, x35_97, x35_100, x35_101, x35_102, x35_105, x35_108, x35_109, x35_110, x35_113, x35_114, x35_115I, x35_115, x35_116, x35_119, x35_120, x35_123, x35_124, x35_127, x35_128, x35_129, x35_132, x35_135, x35_136, x35_137, x35_140, x35_141, x35_144, x35_147, x35_148, gPa_tokens, kd, rf, Kc_some, if_pos, if_neg, ↓reduceIte, not_true_eq_false, not_false_eq_true]
theorem s_textC {s : Ps} {σ : St} (hd : 7 ≤ d) (ob : oHa b) (fb : far b 84) (W : WfHa σ b) (H : PzC f n s σ) :
    (∃ T' τ, txtP (nxT f n) 1001 T0x s = .inr T' ∧ FzB b 84 σ τ ∧ HtC τ b T' ∧ (τ 87 0 = 0 ∧ τ 87 1 = -1) ∧ RnA sc d 35 0 [some (vR 87), some (vR b), none, none] σ (some (vI 1)) τ) ∨
    (∃ e τ, txtP (nxT f n) 1001 T0x s = .inl e ∧ FzB b 84 σ τ ∧ WfHa τ b ∧ BdC τ e ∧ RnA sc d 35 0 [some (vR 87), some (vR b), none, none] σ (some (vI 0)) τ) := by
  obtain ⟨c1, c2, c3, c4, -⟩ := clH_v W
  have ch := fun u Q => s_clrH (sc := sc) (d := d - 1) (σ := σ) (u := u) (Q := Q) (b := b) ob (by omega)
  have h0 : HtC (clH σ b) b T0x := ⟨c3, c2, by rw [c4]; decide⟩
  have S0 : TxS T0x := ⟨fun t => ⟨Int.le_refl _, by show (0 : Int) ≤ 3; decide⟩, by decide, rfl⟩
  have run : ∀ (u : Bool × Nat × Nat × Int) (Q : Rs → HS → Prop), Ex sc d 35 0 [some (vR 87), some (vR b), none, none] [] (wH σ u) Q ↔ Ex sc d 35 8 [some (vR 87), some (vR b), some (vI 1), some (vI 0)] [] (wH (clH σ b) u) Q := by
    intro u Q
    simp (disch := first | assumption | omega | exact notL_I | exact notL_N | exact notL_R | exact catS_le (Nat.le_of_ble_eq_true rfl) | exact Nat.le_of_ble_eq_true rfl | exact ooRo (by assumption) | exact ooAt (by assumption) | exact ooRu (by assumption) | exact ooLo (by assumption) | exact ooHa (by assumption) | exact ooLe (by assumption) | exact ooFn | exact ooAn | exact ooPa | exact ooTo | exact ooWa | exact ooCh | rfl) only [x35_0, x35_1, x35_4, x35_5, x35_6, x35_7, x35_9, x35_12, x35_15, x35_16, x35_19, x35_20, x35_23, x35_26, x35_29, x35_30, x35_33, x35_36_2, x35_36_3, x35_36_4, x35_36, x35_64, x35_65, x35_66, x35_69, x35_70, x35_73, x35_74, x35_75, x35_78, x35_79, x35_82, x35_83, x35_86, x35_88, x35_91, x35_92, x35_93, x35_96, x35_97, x35_100, x35_101, x35_102, x35_105, x35_108, x35_109, x35_110, x35_113, x35_114, x35_115I, x35_115, x35_116, x35_119, x35_120, x35_123, x35_124, x35_127, x35_128, x35_129, x35_132, x35_135, x35_136, x35_137, x35_140, x35_141, x35_144, x35_147, x35_148, ch, Kc_none]
  have lt := l_textC (sc := sc) (d := d) (f := f) (n := n) hd ob fb 1001 0 T0x s (clH σ b) (by omega) h0 S0 (H.frB c1 fb)
  rw [Int.natCast_zero] at lt
  rcases lt with ⟨T2, ρ, q1, q2, q3, q4, q5, q6⟩ | ⟨e, ρ, q1, q2, q3, q4, q5⟩
  · exact Or.inl ⟨T2, ρ, q1, (c1.z fb).trans q2, q3, q5, fun u Q => (run u Q).trans (q6 u Q)⟩
  · exact Or.inr ⟨e, ρ, q1, (c1.z fb).trans q2, q3, q4, fun u Q => (run u Q).trans (q5 u Q)⟩
end H10
