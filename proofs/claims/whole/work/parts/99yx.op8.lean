/-! ranks; the tape is given -/
section O8
variable {sc : Scr} {d : Nat} {σ τ : St} {A : AS}
set_option maxHeartbeats 1000000 in
theorem op_rank {h t c : Int} (hd : 100 ≤ d) (hh : inR h) (ht : inR t) (hc : inR c) (V : VV A σ) : Lk sc d 171 [some (vR 0), some (vI h), some (vI t), some (vI c), none] 272 [some (vR 373), some (vI h), some (vI t), some (vI c), none, none, none, none] σ := by
  obtain ⟨Vc, Vr, o⟩ := id V
  by_cases hr : 0 ≤ h ∧ h ≤ 2
  · obtain ⟨h0, h2⟩ := hr
    have ha := fun u Q => s_hallAt (sc := sc) (σ := σ) (d := d - 1) (u := u) (Q := Q) h0 h2
    have ob := hpb_o h0 h2
    have k := o.1 h h0 h2
    have c3 := k.1 t
    have eC : coC σ (hpb h) = (A.1 h).1 := congrArg (fun x : Hl => x.1) (Vc.1 h h0 h2).1
    have co := fun u Q => s_colsC (sc := sc) (σ := σ) (d := d - 1) (u := u) (Q := Q) (b := hpb h) (t := t) ob ht
    rw [eC] at co
    have is1 := fun (S : St) u Q => s_isIn (sc := sc) (σ := S) (u := u) (Q := Q) (d := d - 1) (v := t) (a := 0) (b := 25) ht ⟨by decide, by decide⟩ ⟨by decide, by decide⟩
    have is2 := fun (S : St) u Q => s_isIn (sc := sc) (σ := S) (u := u) (Q := Q) (d := d - 1) (v := c) (a := 0) (b := (A.1 h).1 t - 1) hc ⟨by decide, by decide⟩ ⟨by omega, by omega⟩
    have cr : ∀ S : St, VR A S → 0 ≤ t ∧ t ≤ 25 → ∀ u Q, Ex sc (d - 1) 193 0 [some (vR 373), some (vI h), some (vI t)] [] (wH S u) Q ↔ Q (.inl (some (vI ((A.1 h).1 t)))) (wH S u) := fun S VS hi u Q => by
      have eR : coR S h = (A.1 h).1 := congrArg (fun x : Hl => x.1) (VS.1 h h0 h2)
      rw [s_colsOf h0 (by omega) hi.1 hi.2, ← coR_in (σ := S) (h := h) hi.1 hi.2, eR]
    obtain ⟨q1, q2⟩ := hc
    by_cases hy : 0 ≤ c ∧ c < (A.1 h).1 t
    · have hi : 0 ≤ t ∧ t ≤ 25 := by
        by_cases z : 0 ≤ t ∧ t ≤ 25
        · exact z
        · have := k.2.1 t z
          omega
      simp only [if_pos hi] at is1
      simp only [if_pos (show 0 ≤ c ∧ c ≤ (A.1 h).1 t - 1 by omega)] at is2
      obtain ⟨τ, v, t1, t2, t3, t4⟩ := c_meas (sc := sc) (d := d - 1) (by omega) h0 h2 Vc o
      have Vr1 := Vr.up (fun c hc => t1 c (by omega) (by omega))
      have Vc1 : VC A τ := Vc.sc_ (fun c _ hc => t1 c (by omega) (by omega))
      have ry := r_yes (sc := sc) (d := d - 1) (σ := τ) (h := h) (by omega) h0 h2
      have fa := fun u Q => s_fails (sc := sc) (σ := τ) (u := u) (Q := Q) (d := d - 1) (b := 0) (Or.inl rfl)
      obtain ⟨ρ, w, p1, p2, p3, p4⟩ := m_meas (sc := sc) (d := d - 1) (by omega) h0 h2 (Vr1.th (x := 0)) o
      have cr2 := cr _ (Vr1.th (x := 0)) hi
      unfold RnA at t4 p4
      have Vrρ : VR A ρ := (Vr1.th (x := 0)).c (τ := ρ) (fun c hc hc2 => p1 c (by omega) (by omega) (by omega)) (fun j hj => by rw [p1 373 (by omega) (by omega) (by omega)])
      rcases t3 with ⟨rfl, y1, y2, y3⟩ | ⟨rfl, y1⟩
      · have ew : w = 1 := by
          rcases p3 with ⟨x', _⟩ | ⟨_, y'⟩
          · exact x'
          · exact absurd y' y1
        subst ew
        obtain ⟨X, x1, x2, x3, x4⟩ := s_ranks (sc := sc) (d := d) (h := h) (σ := ρ) (t := t) (c := c) k.2.2.2.1 k.1 k.2.2.1.2 y1 p2 hi.1 hi.2 hy.1 (by omega)
        have ek := rank_one y2 y3 x2 x3
        have er : τ 118 (t * 3 + c) = rkM X (3 * t + c) := by
          rw [← ek, rkC_in (by omega) (by omega), show 3 * t + c = t * 3 + c by omega]
        have rb := t2 (t * 3 + c) (by omega) (by omega)
        have rk := fun u Q => s_rankOf (sc := sc) (σ := τ) (d := d - 1) (u := u) (Q := Q) (t := t) (c := c) hi.1 hi.2 hy.1 (by omega)
        refine Lk.ok (v := τ 118 (t * 3 + c)) ⟨by omega, by omega⟩ o Vc1 (Vrρ.c (τ := X) (fun c hc hc2 => x1 c (by omega)) (fun j hj => by rw [x1 373 (by omega)])) (fun c hc => by rw [x1 c (by omega), p1 c (by omega) (by omega) (by omega), su_ne (by omega)]) (by rw [x1 373 (by omega), p1 373 (by omega) (by omega) (by omega), su_eq]) (fun u Q => ?_) (fun u Q => ?_)
        · simp (disch := first | assumption | omega | exact notL_I | exact notL_N | exact notL_R | exact catS_le (Nat.le_of_ble_eq_true rfl) | exact Nat.le_of_ble_eq_true rfl | exact ooRo (by assumption) | exact ooAt (by assumption) | exact ooRu (by assumption) | exact ooLo (by assumption) | exact ooHa (by assumption) | exact ooLe (by assumption) | exact ooFn | exact ooAn | exact ooPa | exact ooTo | exact ooWa | exact ooCh | rfl) only [x171_0, x171_1, x171_2, x171_5, x171_7, x171_8, x171_11, x171_12, x171_14, x171_15, x171_18, x171_21, x171_22, x171_23, x171_24, x171_27, x171_29, x171_32, x171_35, x171_36, x171_39, x171_40, x171_41, x171_44, x171_47, x171_48, ha, co, gCh_ways, t4, rk, Kc_some, if_pos, if_neg, ↓reduceIte, not_true_eq_false, not_false_eq_true]
        · rw [er, ← x4 u Q]
          simp (disch := first | omega | exact notL_I | exact notL_N | exact notL_R | exact oM | exact catS_le (Nat.le_of_ble_eq_true rfl) | exact Nat.le_of_ble_eq_true rfl | rfl) only [x272_0, x272_1, x272_2, x272_5, x272_8, x272_11, x272_12, x272_13, x272_14, x272_15, x272_17, x272_20, x272_23, x272_24, x272_25, x272_26, x272_27, x272_28, x272_31, x272_32, x272_33, x272_36, x272_39, x272_40, x272_41, x272_44, x272_47, x272_48, x272_50, x272_52, x272_54, x272_56, x272_59, x272_60, x272_63, x272_65, x272_66, x272_67, x272_70, x272_73, x272_74, x272_76, x272_78, x272_81, x272_82, x272_84, x272_85, x272_87, x272_89, x272_91, x272_94, x272_95, x272_97, x272_99, x272_101, x272_104, x272_105, x272_108, x272_110, x272_111, x272_112, x272_115, x272_117, x272_119, x272_120, x272_122, x272_123, x272_124, x272_127, x272_128, x272_131, x272_132, x272_133, x272_135, x272_136, x272_139, x272_141, x272_143, x272_144, x272_146, x272_147, x272_148, x272_151, x272_153, x272_154, x272_157, x272_159, x272_160, x272_163, x272_166, x272_167, x272_170, x272_172, x272_174, x272_175, x272_176, x272_178, x272_181, x272_184, x272_187, x272_190, x272_193, x272_194, x272_197, x272_198, x272_199, x272_200, x272_201, x272_202, x272_203, ry, fa, is1, is2, cr2, p4, Kc_some, if_pos, if_neg, ↓reduceIte, not_true_eq_false, not_false_eq_true]
      · have ew : w = 0 := by
          rcases p3 with ⟨_, y'⟩ | ⟨x', _⟩
          · exact absurd y1 y'
          · exact x'
        subst ew
        refine Lk.ok (v := -1) ⟨by decide, by decide⟩ o Vc1 Vrρ (fun c hc => by rw [p1 c (by omega) (by omega) (by omega), su_ne (by omega)]) (by rw [p1 373 (by omega) (by omega) (by omega), su_eq]) (fun u Q => ?_) (fun u Q => ?_)
        · simp (disch := first | assumption | omega | exact notL_I | exact notL_N | exact notL_R | exact catS_le (Nat.le_of_ble_eq_true rfl) | exact Nat.le_of_ble_eq_true rfl | exact ooRo (by assumption) | exact ooAt (by assumption) | exact ooRu (by assumption) | exact ooLo (by assumption) | exact ooHa (by assumption) | exact ooLe (by assumption) | exact ooFn | exact ooAn | exact ooPa | exact ooTo | exact ooWa | exact ooCh | rfl) only [x171_0, x171_1, x171_2, x171_5, x171_7, x171_8, x171_11, x171_12, x171_14, x171_15, x171_18, x171_21, x171_22, x171_23, x171_24, x171_27, x171_29, x171_32, x171_35, x171_36, x171_39, x171_40, x171_41, x171_44, x171_47, x171_48, ha, co, gCh_ways, t4, Kc_some, if_pos, if_neg, ↓reduceIte, not_true_eq_false, not_false_eq_true]
        · simp (disch := first | omega | exact notL_I | exact notL_N | exact notL_R | exact oM | exact catS_le (Nat.le_of_ble_eq_true rfl) | exact Nat.le_of_ble_eq_true rfl | rfl) only [x272_0, x272_1, x272_2, x272_5, x272_8, x272_11, x272_12, x272_13, x272_14, x272_15, x272_17, x272_20, x272_23, x272_24, x272_25, x272_26, x272_27, x272_28, x272_31, x272_32, x272_33, x272_36, x272_39, x272_40, x272_41, x272_44, x272_47, x272_48, x272_50, x272_52, x272_54, x272_56, x272_59, x272_60, x272_63, x272_65, x272_66, x272_67, x272_70, x272_73, x272_74, x272_76, x272_78, x272_81, x272_82, x272_84, x272_85, x272_87, x272_89, x272_91, x272_94, x272_95, x272_97, x272_99, x272_101, x272_104, x272_105, x272_108, x272_110, x272_111, x272_112, x272_115, x272_117, x272_119, x272_120, x272_122, x272_123, x272_124, x272_127, x272_128, x272_131, x272_132, x272_133, x272_135, x272_136, x272_139, x272_141, x272_143, x272_144, x272_146, x272_147, x272_148, x272_151, x272_153, x272_154, x272_157, x272_159, x272_160, x272_163, x272_166, x272_167, x272_170, x272_172, x272_174, x272_175, x272_176, x272_178, x272_181, x272_184, x272_187, x272_190, x272_193, x272_194, x272_197, x272_198, x272_199, x272_200, x272_201, x272_202, x272_203, ry, fa, is1, is2, cr2, p4, Kc_some, if_pos, if_neg, ↓reduceIte, not_true_eq_false, not_false_eq_true]
    · have ry := r_yes (sc := sc) (d := d - 1) (σ := σ) (h := h) (by omega) h0 h2
      have fa := fun u Q => s_fails (sc := sc) (σ := σ) (u := u) (Q := Q) (d := d - 1) (b := 0) (Or.inl rfl)
      refine Lk.eq V (v := -1) ⟨by decide, by decide⟩ (fun u Q => ?_) (fun u Q => ?_)
      · by_cases hc0 : c < 0
        · simp (disch := first | assumption | omega | exact notL_I | exact notL_N | exact notL_R | exact catS_le (Nat.le_of_ble_eq_true rfl) | exact Nat.le_of_ble_eq_true rfl | exact ooRo (by assumption) | exact ooAt (by assumption) | exact ooRu (by assumption) | exact ooLo (by assumption) | exact ooHa (by assumption) | exact ooLe (by assumption) | exact ooFn | exact ooAn | exact ooPa | exact ooTo | exact ooWa | exact ooCh | rfl) only [x171_0, x171_1, x171_2, x171_5, x171_7, x171_8, x171_11, x171_12, x171_14, x171_15, x171_18, x171_21, x171_22, x171_23, x171_24, x171_27, x171_29, x171_32, x171_35, x171_36, x171_39, x171_40, x171_41, x171_44, x171_47, x171_48, ha, Kc_some, if_pos, if_neg, ↓reduceIte, not_true_eq_false, not_false_eq_true]
        · simp (disch := first | assumption | omega | exact notL_I | exact notL_N | exact notL_R | exact catS_le (Nat.le_of_ble_eq_true rfl) | exact Nat.le_of_ble_eq_true rfl | exact ooRo (by assumption) | exact ooAt (by assumption) | exact ooRu (by assumption) | exact ooLo (by assumption) | exact ooHa (by assumption) | exact ooLe (by assumption) | exact ooFn | exact ooAn | exact ooPa | exact ooTo | exact ooWa | exact ooCh | rfl) only [x171_0, x171_1, x171_2, x171_5, x171_7, x171_8, x171_11, x171_12, x171_14, x171_15, x171_18, x171_21, x171_22, x171_23, x171_24, x171_27, x171_29, x171_32, x171_35, x171_36, x171_39, x171_40, x171_41, x171_44, x171_47, x171_48, ha, co, Kc_some, if_pos, if_neg, ↓reduceIte, not_true_eq_false, not_false_eq_true]
      · by_cases hi : 0 ≤ t ∧ t ≤ 25
        · have cr2 := cr _ (Vr.th (x := 0)) hi
          simp only [if_pos hi] at is1
          simp only [if_neg (show ¬ (0 ≤ c ∧ c ≤ (A.1 h).1 t - 1) by omega)] at is2
          simp (disch := first | omega | exact notL_I | exact notL_N | exact notL_R | exact oM | exact catS_le (Nat.le_of_ble_eq_true rfl) | exact Nat.le_of_ble_eq_true rfl | rfl) only [x272_0, x272_1, x272_2, x272_5, x272_8, x272_11, x272_12, x272_13, x272_14, x272_15, x272_17, x272_20, x272_23, x272_24, x272_25, x272_26, x272_27, x272_28, x272_31, x272_32, x272_33, x272_36, x272_39, x272_40, x272_41, x272_44, x272_47, x272_48, x272_50, x272_52, x272_54, x272_56, x272_59, x272_60, x272_63, x272_65, x272_66, x272_67, x272_70, x272_73, x272_74, x272_76, x272_78, x272_81, x272_82, x272_84, x272_85, x272_87, x272_89, x272_91, x272_94, x272_95, x272_97, x272_99, x272_101, x272_104, x272_105, x272_108, x272_110, x272_111, x272_112, x272_115, x272_117, x272_119, x272_120, x272_122, x272_123, x272_124, x272_127, x272_128, x272_131, x272_132, x272_133, x272_135, x272_136, x272_139, x272_141, x272_143, x272_144, x272_146, x272_147, x272_148, x272_151, x272_153, x272_154, x272_157, x272_159, x272_160, x272_163, x272_166, x272_167, x272_170, x272_172, x272_174, x272_175, x272_176, x272_178, x272_181, x272_184, x272_187, x272_190, x272_193, x272_194, x272_197, x272_198, x272_199, x272_200, x272_201, x272_202, x272_203, ry, fa, is1, is2, cr2, Kc_some, if_pos, if_neg, ↓reduceIte, not_true_eq_false, not_false_eq_true]
        · simp only [if_neg hi] at is1
          simp (disch := first | omega | exact notL_I | exact notL_N | exact notL_R | exact oM | exact catS_le (Nat.le_of_ble_eq_true rfl) | exact Nat.le_of_ble_eq_true rfl | rfl) only [x272_0, x272_1, x272_2, x272_5, x272_8, x272_11, x272_12, x272_13, x272_14, x272_15, x272_17, x272_20, x272_23, x272_24, x272_25, x272_26, x272_27, x272_28, x272_31, x272_32, x272_33, x272_36, x272_39, x272_40, x272_41, x272_44, x272_47, x272_48, x272_50, x272_52, x272_54, x272_56, x272_59, x272_60, x272_63, x272_65, x272_66, x272_67, x272_70, x272_73, x272_74, x272_76, x272_78, x272_81, x272_82, x272_84, x272_85, x272_87, x272_89, x272_91, x272_94, x272_95, x272_97, x272_99, x272_101, x272_104, x272_105, x272_108, x272_110, x272_111, x272_112, x272_115, x272_117, x272_119, x272_120, x272_122, x272_123, x272_124, x272_127, x272_128, x272_131, x272_132, x272_133, x272_135, x272_136, x272_139, x272_141, x272_143, x272_144, x272_146, x272_147, x272_148, x272_151, x272_153, x272_154, x272_157, x272_159, x272_160, x272_163, x272_166, x272_167, x272_170, x272_172, x272_174, x272_175, x272_176, x272_178, x272_181, x272_184, x272_187, x272_190, x272_193, x272_194, x272_197, x272_198, x272_199, x272_200, x272_201, x272_202, x272_203, ry, fa, is1, Kc_some, if_pos, if_neg, ↓reduceIte, not_true_eq_false, not_false_eq_true]
  · have rn := r_no (sc := sc) (d := d - 1) (σ := σ) (h := h) (by omega) hh hr
    have fa := fun u Q => s_fails (sc := sc) (σ := σ) (u := u) (Q := Q) (d := d - 1) (b := 1) (Or.inr rfl)
    refine Lk.no V (Or.inl ⟨rfl, by decide⟩) (fun u Q => ?_) (fun u Q => ?_)
    · have nh := fun u Q => s_noHallC (sc := sc) (σ := σ) (d := d - 1) (u := u) (Q := Q) hh hr
      simp (disch := first | assumption | omega | exact notL_I | exact notL_N | exact notL_R | exact catS_le (Nat.le_of_ble_eq_true rfl) | exact Nat.le_of_ble_eq_true rfl | exact ooRo (by assumption) | exact ooAt (by assumption) | exact ooRu (by assumption) | exact ooLo (by assumption) | exact ooHa (by assumption) | exact ooLe (by assumption) | exact ooFn | exact ooAn | exact ooPa | exact ooTo | exact ooWa | exact ooCh | rfl) only [x171_0, x171_1, x171_2, x171_5, x171_7, x171_8, x171_11, x171_12, x171_14, x171_15, x171_18, x171_21, x171_22, x171_23, x171_24, x171_27, x171_29, x171_32, x171_35, x171_36, x171_39, x171_40, x171_41, x171_44, x171_47, x171_48, nh]
      exact thrK rfl rfl
    · simp (disch := first | omega | exact notL_I | exact notL_N | exact notL_R | exact oM | exact catS_le (Nat.le_of_ble_eq_true rfl) | exact Nat.le_of_ble_eq_true rfl | rfl) only [x272_0, x272_1, x272_2, x272_5, x272_8, x272_11, x272_12, x272_13, x272_14, x272_15, x272_17, x272_20, x272_23, x272_24, x272_25, x272_26, x272_27, x272_28, x272_31, x272_32, x272_33, x272_36, x272_39, x272_40, x272_41, x272_44, x272_47, x272_48, x272_50, x272_52, x272_54, x272_56, x272_59, x272_60, x272_63, x272_65, x272_66, x272_67, x272_70, x272_73, x272_74, x272_76, x272_78, x272_81, x272_82, x272_84, x272_85, x272_87, x272_89, x272_91, x272_94, x272_95, x272_97, x272_99, x272_101, x272_104, x272_105, x272_108, x272_110, x272_111, x272_112, x272_115, x272_117, x272_119, x272_120, x272_122, x272_123, x272_124, x272_127, x272_128, x272_131, x272_132, x272_133, x272_135, x272_136, x272_139, x272_141, x272_143, x272_144, x272_146, x272_147, x272_148, x272_151, x272_153, x272_154, x272_157, x272_159, x272_160, x272_163, x272_166, x272_167, x272_170, x272_172, x272_174, x272_175, x272_176, x272_178, x272_181, x272_184, x272_187, x272_190, x272_193, x272_194, x272_197, x272_198, x272_199, x272_200, x272_201, x272_202, x272_203, rn, fa, Kc_some, if_pos, if_neg, ↓reduceIte, not_true_eq_false, not_false_eq_true]
      rfl
/-- the class gives the tape to be read -/
theorem s_give (hd : 6 ≤ d) (T : TpC σ (σ 0 3)) : ∃ τ, (∀ c, c ≠ 0 → c ≠ 87 → (c < 89 ∨ 92 < c) → τ c = σ c) ∧ τ 0 3 = 0 ∧ (∀ j, j ≠ 0 → j ≠ 1 → τ 87 j = σ 87 j) ∧ PzC (σ 86) (σ 0 3) (nxT (σ 86) (σ 0 3) 0) τ ∧ RnA sc d 24 0 [some (vR 0)] σ none τ := by
  have t0 := T.1
  have T1 : TpC (su (su σ 87 0 0) 87 1 (-1)) (σ 0 3) := ⟨t0, fun k k0 k1 => by rw [su_ne (by omega), su_ne (by omega)]; exact T.2 k k0 k1⟩
  obtain ⟨τ, a1, a2, a3, a4⟩ := s_scan (sc := sc) (d := d - 2) (σ := su (su σ 87 0 0) 87 1 (-1)) (by omega) T1
  have e86 : su (su σ 87 0 0) 87 1 (-1) 86 = σ 86 := by rw [su_ne (by omega), su_ne (by omega)]
  rw [e86] at a3
  unfold RnA at a4
  have g0 : τ 87 0 = 0 := by rw [a1 87 (by omega), su_off (by omega), su_eq]
  have g1 : τ 87 1 = -1 := by rw [a1 87 (by omega), su_eq]
  have tv := tkL_v (f := σ 86) (n := σ 0 3) 1001 0 (by omega) (by omega) (by omega)
  have P : PzC (σ 86) (σ 0 3) (nxT (σ 86) (σ 0 3) 0) τ := ⟨t0, a3, ⟨0, tv.2.2.1, a2⟩, g0, g1⟩
  refine ⟨su τ 0 3 0, fun c x y z => by rw [su_ne x, a1 c z, su_ne y, su_ne y], su_eq, fun j x y => by rw [su_ne (by omega), a1 87 (by omega), su_off y, su_off x], P.su_ (by omega), fun u Q => ?_⟩
  have d2 : d - 1 - 1 = d - 2 := by omega
  simp (disch := first | assumption | omega | exact notL_I | exact notL_N | exact notL_R | exact catS_le (Nat.le_of_ble_eq_true rfl) | exact Nat.le_of_ble_eq_true rfl | exact ooRo (by assumption) | exact ooAt (by assumption) | exact ooRu (by assumption) | exact ooLo (by assumption) | exact ooHa (by assumption) | exact ooLe (by assumption) | exact ooFn | exact ooAn | exact ooPa | exact ooTo | exact ooWa | exact ooCh | rfl) only [x24_0, x24_1, x24_4, x24_5, x24_8, x24_9, x24_12, x24_15, x24_16, x24_17, x24_20, x25_0, x25_1, x25_2, x25_5, x25_6, x25_7, x25_10, x25_11, x25_14, x25_15, x25_16, x25_19, gCh_parser, gCh_tape, gCh_tapeLength, pCh_tapeLength, pPa_fault, pPa_faultPlace, gPa_tokens, d2, a4, Kc_none]
/-- the reference tells what was wrong -/
theorem s_tellsW {e : Fa} (hw : inR (σ 373 18)) (h1 : (if σ 373 18 = 0 then -1 else σ 373 19) = e.2) (u : Bool × Nat × Nat × Int) (Q : Rs → HS → Prop) : Ex sc d 213 0 [some (vR 373)] [] (wH σ u) Q ↔ Q (.inl none) (wH (su (su (su σ 373 20 (σ 373 18)) 373 21 e.2) 373 14 0) u) := by
  have e18 : su σ 373 20 (σ 373 18) 373 18 = σ 373 18 := su_off (by omega)
  have e19 : su σ 373 20 (σ 373 18) 373 19 = σ 373 19 := su_off (by omega)
  obtain ⟨w1, w2⟩ := hw
  rw [← h1]
  by_cases h : σ 373 18 = 0
  · rw [if_pos h]
    simp (disch := first | omega | exact notL_I | exact notL_N | exact notL_R | exact oM | exact catS_le (Nat.le_of_ble_eq_true rfl) | exact Nat.le_of_ble_eq_true rfl | rfl) only [x213_0, x213_1, x213_2, x213_5, x213_8, x213_9, x213_10, x213_13, x213_16, x213_17, x213_20, x213_21, x213_24, x213_27, x213_28, x213_29, x213_32, gM_wrong, pM_faultKind, e18, pM_faultPlace, pM_taped, if_pos, if_neg, ↓reduceIte, not_true_eq_false, not_false_eq_true]
  · rw [if_neg h]
    simp (disch := first | omega | exact notL_I | exact notL_N | exact notL_R | exact oM | exact catS_le (Nat.le_of_ble_eq_true rfl) | exact Nat.le_of_ble_eq_true rfl | rfl) only [x213_0, x213_1, x213_2, x213_5, x213_8, x213_9, x213_10, x213_13, x213_16, x213_17, x213_20, x213_21, x213_24, x213_27, x213_28, x213_29, x213_32, gM_wrong, gM_wrongAt, pM_faultKind, e18, e19, pM_faultPlace, pM_taped, if_pos, if_neg, ↓reduceIte, not_true_eq_false, not_false_eq_true]
end O8
