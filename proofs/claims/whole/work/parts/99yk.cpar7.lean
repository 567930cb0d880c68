/-! the class reads: a rule whole, a table -/
section H7
variable {sc : Scr} {d : Nat} {f : Int → Int} {n : Int} {a b : Nat} {C : Int → Int}
theorem s_ruleC {s : Ps} {σ : St} (hd : 6 ≤ d) (oa : oRu a) (ob : oHa b) (fa : far a 7) (fb : far (b + 1) 1) (fab : b + 1 < a ∨ a + 7 ≤ b + 1) (hc : ∀ t, 0 ≤ C t ∧ C t ≤ 3) (hC : coC σ b = C) (H : PzC f n s σ) (W : WfRu σ a) :
    (∃ r s' τ, rulP (nxT f n) C (nxT f n s.2.2) = .inr (r, s') ∧ FzB a 7 σ τ ∧ PzC f n s' τ ∧ WfRu τ a ∧ ruC τ a = r ∧ RnA sc d 59 0 [some (vR 87), some (vR a), some (vR b), none] σ (some (vI 1)) τ) ∨
    (∃ e τ, rulP (nxT f n) C (nxT f n s.2.2) = .inl e ∧ FzB a 7 σ τ ∧ WfRu τ a ∧ BdC τ e ∧ RnA sc d 59 0 [some (vR 87), some (vR a), some (vR b), none] σ (some (vI 0)) τ) := by
  have fa' := fa
  unfold far at fa'
  have fb' := fb
  unfold far at fb'
  have oa1 := oa.ahead
  obtain ⟨u1, u2, u3, u4, u5, u6, u7⟩ := clU_v W
  have cu := fun u Q => s_clrU (sc := sc) (d := d - 1) (σ := σ) (u := u) (Q := Q) (a := a) oa (by omega)
  obtain ⟨τ, a1, a2, a3⟩ := s_takeT (sc := sc) (d := d - 1) (H.frB u1 fa)
  unfold RnA at a3
  have W1 := (u2.eq (τ := τ) (fun c x y => a1 c (by omega))).1
  have F1 : FzB a 7 σ τ := (u1.z fa).trans (Fzc.o89 a1).b
  have cτ : coC τ b = C := by rw [coC_eq (a1 (b + 1) (by omega)), coC_eq (u1 (b + 1) (by omega))]; exact hC
  rw [rul_s]
  have st : ∀ (u : Bool × Nat × Nat × Int) (Q : Rs → HS → Prop), Ex sc d 59 0 [some (vR 87), some (vR a), some (vR b), none] [] (wH σ u) Q ↔ Ex sc d 59 11 [some (vR 87), some (vR a), some (vR b), none] [] (wH τ u) Q := by
    intro u Q
    simp (disch := first | assumption | omega | exact notL_I | exact notL_N | exact notL_R | exact catS_le (Nat.le_of_ble_eq_true rfl) | exact Nat.le_of_ble_eq_true rfl | exact ooRo (by assumption) | exact ooAt (by assumption) | exact ooRu (by assumption) | exact ooLo (by assumption) | exact ooHa (by assumption) | exact ooLe (by assumption) | exact ooFn | exact ooAn | exact ooPa | exact ooTo | exact ooWa | exact ooCh | rfl) only [x59_0, x59_1, x59_4, x59_5, x59_8, x59_12, x59_13, x59_16, x59_17, x59_18, x59_21, x59_24, x59_25, x59_27, x59_30, x59_33, x59_34, x59_36, x59_39, x59_42_5, x59_42_6, x59_42_7, x59_42_8, x59_42, x59_72, x59_73, x59_74, x59_77, x59_78, x59_79, x59_82, x59_83, x59_84, x59_87, x59_88, x59_91, x59_92, x59_93, x59_96, x59_97, x59_98, x59_101, x59_102, x59_105, x59_106, x59_107, x59_110, x59_111, x59_114, x59_117, x59_118, x59_119, x59_122, x59_123, x59_124, x59_127, x59_129, x59_132, x59_133, x59_135, x59_138, x59_141, x59_142, x59_145, x59_146, cu, gPa_tokens, a3, Kc_none]
  rcases s_atoms (sc := sc) (d := d - 1) (b := b) (a := a + 1) (most := 3) (σ := τ) (C := C) (by omega) oa.ahead ob (by unfold far; omega) fb (by omega) hc (by omega) (by rw [a1 (a + 1) (by omega)]; exact u4) cτ a2 W1.2.2.2.1 with ⟨as, s', τ2, c1, c2, c3, c4, c5, c6, c7, c8, c9⟩ | ⟨e, τ2, c1, c4, c6, c7, c9⟩
  · have c1' : atmP (nxT f n) C 3 4 0 [] (nxT f n s.2.2) = .inr (as, s') := c1
    rw [c1', andP_r]
    have c9' : ∀ (u : Bool × Nat × Nat × Int) (Q : Rs → HS → Prop), Ex sc (d - 1) 62 0 [some (vR 87), some (vR (a + 1)), some (vR b), some (vI 3), none, none] [] (wH τ u) Q ↔ Q (.inl (some (vI 1))) (wH τ2 u) := c9
    obtain ⟨v1, v2, v3⟩ := ru_1 W1 c4 fa c6
    have F2 : FzB a 7 σ τ2 := F1.trans (c4.sub (by omega) (by omega))
    have k15 := (kd_iff c5.ok.1).2.2.2.2.2.2.2.2.2.2.2.2.2.2.2
    dsimp only
    rcases s_sign (sc := sc) (d := d - 1) (by omega) c5 k15 (by omega) with ⟨h6, ρ, b1, b2, b3⟩ | ⟨h6, b3⟩
    · rw [if_pos h6]
      unfold RnA at b3
      have W3 := (v1.eq (τ := ρ) (fun c x y => b1 c (by omega))).1
      have A3 : asC ρ (a + 1) = as := ((c6.eq (fun c x y => b1 c (by omega))).2).trans c7
      have cρ : coC ρ b = C := by rw [coC_eq (b1 (b + 1) (by omega)), coC_eq (c4.1 (b + 1) (by omega) (by omega) (by omega) (by omega))]; exact cτ
      have z4 : ρ (a + 4) 0 = 0 := by rw [b1 (a + 4) (by omega), v3 (a + 4) (by omega) (by omega), a1 (a + 4) (by omega)]; exact u5
      have y3 : ρ a 3 = -1 := by rw [b1 a (by omega), v2, a1 a (by omega)]; exact u6
      have y4 : ρ a 4 = -1 := by rw [b1 a (by omega), v2, a1 a (by omega)]; exact u7
      have lt := l_tail (sc := sc) (d := d) (b := b) (a := a) (σ := ρ) (by omega) oa ob fa fb fab hc cρ b2 W3 z4 y3 y4
      rw [A3] at lt
      have st2 : ∀ (u : Bool × Nat × Nat × Int) (Q : Rs → HS → Prop), Ex sc d 59 0 [some (vR 87), some (vR a), some (vR b), none] [] (wH σ u) Q ↔ Ex sc d 59 35 [some (vR 87), some (vR a), some (vR b), none] [] (wH ρ u) Q := by
        intro u Q
        rw [st u Q, x59_11]
        simp (disch := first | assumption | omega | exact notL_I | exact notL_N | exact notL_R | exact catS_le (Nat.le_of_ble_eq_true rfl) | exact Nat.le_of_ble_eq_true rfl | exact ooRo (by assumption) | exact ooAt (by assumption) | exact ooRu (by assumption) | exact ooLo (by assumption) | exact ooHa (by assumption) | exact ooLe (by assumption) | exact ooFn | exact ooAn | exact ooPa | exact ooTo | exact ooWa | exact ooCh | rfl) only [x59_0, x59_1, x59_4, x59_5, x59_8, x59_12, x59_13, x59_16, x59_17, x59_18, x59_21, x59_24, x59_25, x59_27, x59_30, x59_33, x59_34, x59_36, x59_39, x59_42_5, x59_42_6, x59_42_7, x59_42_8, x59_42, x59_72, x59_73, x59_74, x59_77, x59_78, x59_79, x59_82, x59_83, x59_84, x59_87, x59_88, x59_91, x59_92, x59_93, x59_96, x59_97, x59_98, x59_101, x59_102, x59_105, x59_106, x59_107, x59_110, x59_111, x59_114, x59_117, x59_118, x59_119, x59_122, x59_123, x59_124, x59_127, x59_129, x59_132, x59_133, x59_135, x59_138, x59_141, x59_142, x59_145, x59_146, gRu_ahead, c9', b3, Kc_some, if_pos, if_neg, ↓reduceIte, not_true_eq_false, not_false_eq_true]
      have F3 : FzB a 7 σ ρ := F2.trans (Fzc.o89 b1).b
      rcases lt with ⟨r, s2, X, q1, q2, q3, q4, q5, q6⟩ | ⟨e, X, q1, q2, q3, q4, q5⟩
      · rw [q1, andP_r]
        dsimp only
        have k12 := (kd_iff q3.ok.1).2.2.2.2.2.2.2.2.2.2.2.2.1
        rcases s_sgnP (sc := sc) (d := d - 1) (c := 59) (by omega) q3 k12 (by omega) with ⟨h59, Y, m1, m2, m3⟩ | ⟨h59, m3⟩
        · rw [h59, andP_r]
          unfold RnA at m3
          have w := q4.eq (τ := Y) (fun c x y => m1 c (by omega))
          refine Or.inl ⟨r, _, Y, rfl, (F3.trans q2).trans (Fzc.o89 m1).b, m2, w.1, w.2.trans q5, fun u Q => ?_⟩
          rw [st2 u Q, q6 u Q, x59_128]
          simp (disch := first | assumption | omega | exact notL_I | exact notL_N | exact notL_R | exact catS_le (Nat.le_of_ble_eq_true rfl) | exact Nat.le_of_ble_eq_true rfl | exact ooRo (by assumption) | exact ooAt (by assumption) | exact ooRu (by assumption) | exact ooLo (by assumption) | exact ooHa (by assumption) | exact ooLe (by assumption) | exact ooFn | exact ooAn | exact ooPa | exact ooTo | exact ooWa | exact ooCh | rfl) only [x59_0, x59_1, x59_4, x59_5, x59_8, x59_12, x59_13, x59_16, x59_17, x59_18, x59_21, x59_24, x59_25, x59_27, x59_30, x59_33, x59_34, x59_36, x59_39, x59_42_5, x59_42_6, x59_42_7, x59_42_8, x59_42, x59_72, x59_73, x59_74, x59_77, x59_78, x59_79, x59_82, x59_83, x59_84, x59_87, x59_88, x59_91, x59_92, x59_93, x59_96, x59_97, x59_98, x59_101, x59_102, x59_105, x59_106, x59_107, x59_110, x59_111, x59_114, x59_117, x59_118, x59_119, x59_122, x59_123, x59_124, x59_127, x59_129, x59_132, x59_133, x59_135, x59_138, x59_141, x59_142, x59_145, x59_146, m3, Kc_some, if_pos, if_neg, ↓reduceIte, not_true_eq_false, not_false_eq_true]
        · rw [h59, andP_l]
          unfold RnA at m3
          refine Or.inr ⟨_, _, rfl, (F3.trans q2).trans rf_v.1.b, (q4.eq (rf_v.1.cl fa)).1, rf_v.2, fun u Q => ?_⟩
          rw [st2 u Q, q6 u Q, x59_128]
          simp (disch := first | assumption | omega | exact notL_I | exact notL_N | exact notL_R | exact catS_le (Nat.le_of_ble_eq_true rfl) | exact Nat.le_of_ble_eq_true rfl | exact ooRo (by assumption) | exact ooAt (by assumption) | exact ooRu (by assumption) | exact ooLo (by assumption) | exact ooHa (by assumption) | exact ooLe (by assumption) | exact ooFn | exact ooAn | exact ooPa | exact ooTo | exact ooWa | exact ooCh | rfl) only [x59_0, x59_1, x59_4, x59_5, x59_8, x59_12, x59_13, x59_16, x59_17, x59_18, x59_21, x59_24, x59_25, x59_27, x59_30, x59_33, x59_34, x59_36, x59_39, x59_42_5, x59_42_6, x59_42_7, x59_42_8, x59_42, x59_72, x59_73, x59_74, x59_77, x59_78, x59_79, x59_82, x59_83, x59_84, x59_87, x59_88, x59_91, x59_92, x59_93, x59_96, x59_97, x59_98, x59_101, x59_102, x59_105, x59_106, x59_107, x59_110, x59_111, x59_114, x59_117, x59_118, x59_119, x59_122, x59_123, x59_124, x59_127, x59_129, x59_132, x59_133, x59_135, x59_138, x59_141, x59_142, x59_145, x59_146, m3, Kc_some, if_pos, if_neg, ↓reduceIte, not_true_eq_false, not_false_eq_true]
      · rw [q1, andP_l]
        refine Or.inr ⟨e, X, rfl, F3.trans q2, q3, q4, fun u Q => ?_⟩
        rw [st2 u Q, q5 u Q, x59_128]
        simp (disch := first | assumption | omega | exact notL_I | exact notL_N | exact notL_R | exact catS_le (Nat.le_of_ble_eq_true rfl) | exact Nat.le_of_ble_eq_true rfl | exact ooRo (by assumption) | exact ooAt (by assumption) | exact ooRu (by assumption) | exact ooLo (by assumption) | exact ooHa (by assumption) | exact ooLe (by assumption) | exact ooFn | exact ooAn | exact ooPa | exact ooTo | exact ooWa | exact ooCh | rfl) only [x59_0, x59_1, x59_4, x59_5, x59_8, x59_12, x59_13, x59_16, x59_17, x59_18, x59_21, x59_24, x59_25, x59_27, x59_30, x59_33, x59_34, x59_36, x59_39, x59_42_5, x59_42_6, x59_42_7, x59_42_8, x59_42, x59_72, x59_73, x59_74, x59_77, x59_78, x59_79, x59_82, x59_83, x59_84, x59_87, x59_88, x59_91, x59_92, x59_93, x59_96, x59_97, x59_98, x59_101, x59_102, x59_105, x59_106, x59_107, x59_110, x59_111, x59_114, x59_117, x59_118, x59_119, x59_122, x59_123, x59_124, x59_127, x59_129, x59_132, x59_133, x59_135, x59_138, x59_141, x59_142, x59_145, x59_146, if_pos, if_neg, ↓reduceIte, not_true_eq_false, not_false_eq_true]
    · rw [if_neg h6]
      unfold RnA at b3
      refine Or.inr ⟨_, _, rfl, F2.trans rf_v.1.b, (v1.eq (rf_v.1.cl fa)).1, rf_v.2, fun u Q => ?_⟩
      rw [st u Q, x59_11]
      simp (disch := first | assumption | omega | exact notL_I | exact notL_N | exact notL_R | exact catS_le (Nat.le_of_ble_eq_true rfl) | exact Nat.le_of_ble_eq_true rfl | exact ooRo (by assumption) | exact ooAt (by assumption) | exact ooRu (by assumption) | exact ooLo (by assumption) | exact ooHa (by assumption) | exact ooLe (by assumption) | exact ooFn | exact ooAn | exact ooPa | exact ooTo | exact ooWa | exact ooCh | rfl) only [x59_0, x59_1, x59_4, x59_5, x59_8, x59_12, x59_13, x59_16, x59_17, x59_18, x59_21, x59_24, x59_25, x59_27, x59_30, x59_33, x59_34, x59_36, x59_39, x59_42_5, x59_42_6, x59_42_7, x59_42_8, x59_42, x59_72, x59_73, x59_74, x59_77, x59_78, x59_79, x59_82, x59_83, x59_84, x59_87, x59_88, x59_91, x59_92, x59_93, x59_96, x59_97, x59_98, x59_101, x59_102, x59_105, x59_106, x59_107, x59_110, x59_111, x59_114, x59_117, x59_118, x59_119, x59_122, x59_123, x59_124, x59_127, x59_129, x59_132, x59_133, x59_135, x59_138, x59_141, x59_142, x59_145, x59_146, gRu_ahead, c9', b3, Kc_some, if_pos, if_neg, ↓reduceIte, not_true_eq_false, not_false_eq_true]
  · have c1' : atmP (nxT f n) C 3 4 0 [] (nxT f n s.2.2) = .inl e := c1
    rw [c1', andP_l]
    have c9' : ∀ (u : Bool × Nat × Nat × Int) (Q : Rs → HS → Prop), Ex sc (d - 1) 62 0 [some (vR 87), some (vR (a + 1)), some (vR b), some (vI 3), none, none] [] (wH τ u) Q ↔ Q (.inl (some (vI 0))) (wH τ2 u) := c9
    obtain ⟨v1, v2, v3⟩ := ru_1 W1 c4 fa c6
    refine Or.inr ⟨e, τ2, rfl, F1.trans (c4.sub (by omega) (by omega)), v1, c7, fun u Q => ?_⟩
    rw [st u Q, x59_11]
    simp (disch := first | assumption | omega | exact notL_I | exact notL_N | exact notL_R | exact catS_le (Nat.le_of_ble_eq_true rfl) | exact Nat.le_of_ble_eq_true rfl | exact ooRo (by assumption) | exact ooAt (by assumption) | exact ooRu (by assumption) | exact ooLo (by assumption) | exact ooHa (by assumption) | exact ooLe (by assumption) | exact ooFn | exact ooAn | exact ooPa | exact ooTo | exact ooWa | exact ooCh | rfl) only [x59_0, x59_1, x59_4, x59_5, x59_8, x59_12, x59_13, x59_16, x59_17, x59_18, x59_21, x59_24, x59_25, x59_27, x59_30, x59_33, x59_34, x59_36, x59_39, x59_42_5, x59_42_6, x59_42_7, x59_42_8, x59_42, x59_72, x59_73, x59_74, x59_77, x59_78, x59_79, x59_82, x59_83, x59_84, x59_87, x59_88, x59_91, x59_92, x59_93, x59_96, x59_97, x59_98, x59_101, x59_102, x59_105, x59_106, x59_107, x59_110, x59_111, x59_114, x59_117, x59_118, x59_119, x59_122, x59_123, x59_124, x59_127, x59_129, x59_132, x59_133, x59_135, x59_138, x59_141, x59_142, x59_145, x59_146, gRu_ahead, c9', Kc_some, if_pos, if_neg, ↓reduceIte, not_true_eq_false, not_false_eq_true]
/-- a told rule -/
theorem s_atEnd {s : Ps} {σ : St} (hd : 2 ≤ d) (H : PzC f n s σ) : (s.1 = 0 → RnA sc d 151 0 [some (vR 87)] σ (some (vI 1)) σ) ∧ (s.1 ≠ 0 → RnA sc d 151 0 [some (vR 87)] σ (some (vI 0)) (rfS σ 1 s.2.1)) := by
  have kd := fun u Q => s_kind (sc := sc) (d := d - 1) (u := u) (Q := Q) H
  have ki := kd_iff H.ok.1
  have kb := ki.1
  have k0 := ki.2.1
  have rf := fun u Q => s_refuse (sc := sc) (d := d - 1) (k := 1) (u := u) (Q := Q) (by omega) H
  constructor
  · intro h u Q
    have h0 := k0.mpr h
    simp (disch := first | assumption | omega | exact notL_I | exact notL_N | exact notL_R | exact catS_le (Nat.le_of_ble_eq_true rfl) | exact Nat.le_of_ble_eq_true rfl | exact ooRo (by assumption) | exact ooAt (by assumption) | exact ooRu (by assumption) | exact ooLo (by assumption) | exact ooHa (by assumption) | exact ooLe (by assumption) | exact ooFn | exact ooAn | exact ooPa | exact ooTo | exact ooWa | exact ooCh | rfl) only [x151_0, x151_1, x151_4, x151_7, x151_10, x151_11, x151_12, x151_15, x151_18, x151_19, x151_22, x151_23, gPa_tokens, kd, Kc_some, if_pos, if_neg, ↓reduceIte, not_true_eq_false, not_false_eq_true]
  · intro h u Q
    have h0 : kdT s.1 ≠ 0 := fun z => h (k0.mp z)
    simp (disch := first | assumption | omega | exact notL_I | exact notL_N | exact notL_R | exact catS_le (Nat.le_of_ble_eq_true rfl) | exact Nat.le_of_ble_eq_true rfl | exact ooRo (by assumption) | exact ooAt (by assumption) | exact ooRu (by assumption) | exact ooLo (by assumption) | exact ooHa (by assumption) | exact ooLe (by assumption) | exact ooFn | exact ooAn | exact ooPa | exact ooTo | exact ooWa | exact ooCh | rfl) only [x151_0, x151_1, x151_4, x151_7, x151_10, x151_11, x151_12, x151_15, x151_18, x151_19, x151_22, x151_23, gPa_tokens, kd, rf, Kc_some, if_pos, if_neg, ↓reduceIte, not_true_eq_false, not_false_eq_true]
theorem s_told {s : Ps} {σ : St} (hd : 7 ≤ d) (oa : oRu a) (ob : oHa b) (fa : far a 7) (fb : far (b + 1) 1) (fab : b + 1 < a ∨ a + 7 ≤ b + 1) (hc : ∀ t, 0 ≤ C t ∧ C t ≤ 3) (hC : coC σ b = C) (H : PzC f n s σ) (W : WfRu σ a) :
    (∃ r τ, tldP (nxT f n) C s = .inr r ∧ FzB a 7 σ τ ∧ WfRu τ a ∧ ruC τ a = r ∧ (τ 87 0 = 0 ∧ τ 87 1 = -1) ∧ RnA sc d 157 0 [some (vR 87), some (vR a), some (vR b)] σ (some (vI 1)) τ) ∨
    (∃ e τ, tldP (nxT f n) C s = .inl e ∧ FzB a 7 σ τ ∧ WfRu τ a ∧ BdC τ e ∧ RnA sc d 157 0 [some (vR 87), some (vR a), some (vR b)] σ (some (vI 0)) τ) := by
  have kd := fun u Q => s_kind (sc := sc) (d := d - 1) (u := u) (Q := Q) H
  have ki := kd_iff H.ok.1
  have kb := ki.1
  have k4 := ki.2.2.2.2.1
  unfold tldP
  by_cases h : s.1 = 4
  · rw [if_pos h]
    rw [k4.mpr h] at kd
    rcases s_ruleC (sc := sc) (d := d - 1) (b := b) (a := a) (σ := σ) (C := C) (by omega) oa ob fa fb fab hc hC H W with ⟨r, s', τ, e1, e2, e3, e4, e5, e6⟩ | ⟨e, τ, e1, e2, e3, e4, e5⟩
    · rw [e1, andP_r]
      dsimp only
      unfold RnA at e6
      have ae := s_atEnd (sc := sc) (d := d - 1) (by omega) e3
      by_cases h0 : s'.1 = 0
      · rw [if_pos h0]
        have z := ae.1 h0
        unfold RnA at z
        refine Or.inl ⟨r, τ, rfl, e2, e4, e5, e3.2.2.2, fun u Q => ?_⟩
        simp (disch := first | assumption | omega | exact notL_I | exact notL_N | exact notL_R | exact catS_le (Nat.le_of_ble_eq_true rfl) | exact Nat.le_of_ble_eq_true rfl | exact ooRo (by assumption) | exact ooAt (by assumption) | exact ooRu (by assumption) | exact ooLo (by assumption) | exact ooHa (by assumption) | exact ooLe (by assumption) | exact ooFn | exact ooAn | exact ooPa | exact ooTo | exact ooWa | exact ooCh | rfl) only [x157_0, x157_1, x157_4, x157_7, x157_8, x157_11, x157_12, x157_13, x157_16, x157_17, x157_18, x157_19, x157_20, x157_23, x157_26, x157_27, x157_30, x157_33, x157_34, x157_37, x157_38, gPa_tokens, kd, e6, z, Kc_some, if_pos, if_neg, ↓reduceIte, not_true_eq_false, not_false_eq_true]
      · rw [if_neg h0]
        have z := ae.2 h0
        unfold RnA at z
        refine Or.inr ⟨_, _, rfl, e2.trans rf_v.1.b, (e4.eq (rf_v.1.cl fa)).1, rf_v.2, fun u Q => ?_⟩
        simp (disch := first | assumption | omega | exact notL_I | exact notL_N | exact notL_R | exact catS_le (Nat.le_of_ble_eq_true rfl) | exact Nat.le_of_ble_eq_true rfl | exact ooRo (by assumption) | exact ooAt (by assumption) | exact ooRu (by assumption) | exact ooLo (by assumption) | exact ooHa (by assumption) | exact ooLe (by assumption) | exact ooFn | exact ooAn | exact ooPa | exact ooTo | exact ooWa | exact ooCh | rfl) only [x157_0, x157_1, x157_4, x157_7, x157_8, x157_11, x157_12, x157_13, x157_16, x157_17, x157_18, x157_19, x157_20, x157_23, x157_26, x157_27, x157_30, x157_33, x157_34, x157_37, x157_38, gPa_tokens, kd, e6, z, Kc_some, if_pos, if_neg, ↓reduceIte, not_true_eq_false, not_false_eq_true]
    · rw [e1, andP_l]
      unfold RnA at e5
      refine Or.inr ⟨e, τ, rfl, e2, e3, e4, fun u Q => ?_⟩
      simp (disch := first | assumption | omega | exact notL_I | exact notL_N | exact notL_R | exact catS_le (Nat.le_of_ble_eq_true rfl) | exact Nat.le_of_ble_eq_true rfl | exact ooRo (by assumption) | exact ooAt (by assumption) | exact ooRu (by assumption) | exact ooLo (by assumption) | exact ooHa (by assumption) | exact ooLe (by assumption) | exact ooFn | exact ooAn | exact ooPa | exact ooTo | exact ooWa | exact ooCh | rfl) only [x157_0, x157_1, x157_4, x157_7, x157_8, x157_11, x157_12, x157_13, x157_16, x157_17, x157_18, x157_19, x157_20, x157_23, x157_26, x157_27, x157_30, x157_33, x157_34, x157_37, x157_38, gPa_tokens, kd, e5, Kc_some, if_pos, if_neg, ↓reduceIte, not_true_eq_false, not_false_eq_true]
  · rw [if_neg h]
    have n4 : kdT s.1 ≠ 4 := fun z => h (k4.mp z)
    have rf := fun u Q => s_refuse (sc := sc) (d := d - 1) (k := 1) (u := u) (Q := Q) (by omega) H
    refine Or.inr ⟨_, _, rfl, rf_v.1.b, (W.eq (rf_v.1.cl fa)).1, rf_v.2, fun u Q => ?_⟩
    simp (disch := first | assumption | omega | exact notL_I | exact notL_N | exact notL_R | exact catS_le (Nat.le_of_ble_eq_true rfl) | exact Nat.le_of_ble_eq_true rfl | exact ooRo (by assumption) | exact ooAt (by assumption) | exact ooRu (by assumption) | exact ooLo (by assumption) | exact ooHa (by assumption) | exact ooLe (by assumption) | exact ooFn | exact ooAn | exact ooPa | exact ooTo | exact ooWa | exact ooCh | rfl) only [x157_0, x157_1, x157_4, x157_7, x157_8, x157_11, x157_12, x157_13, x157_16, x157_17, x157_18, x157_19, x157_20, x157_23, x157_26, x157_27, x157_30, x157_33, x157_34, x157_37, x157_38, gPa_tokens, kd, rf, Kc_some, if_pos, if_neg, ↓reduceIte, not_true_eq_false, not_false_eq_true]
end H7
