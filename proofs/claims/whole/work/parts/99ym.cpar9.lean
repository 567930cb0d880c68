/-! the class reads: tables, rows -/
theorem ok_row {t : Int} {l : List Int} (h : ∀ c ∈ l, okC true c) : ∀ i : Nat, -1 ≤ l.getD i (-1) ∧ l.getD i (-1) ≤ 1099 := by
  intro i
  rw [List.getD_eq_getElem?_getD]
  cases e : l[i]? with
  | none => exact ⟨by show (-1 : Int) ≤ -1; decide, by show (-1 : Int) ≤ 1099; decide⟩
  | some c =>
    have := h c (List.mem_of_getElem? e)
    unfold okC at this
    rw [if_pos rfl] at this
    unfold isTm at this
    exact ⟨by show -1 ≤ c; omega, by show c ≤ 1099; omega⟩
section H9
variable {sc : Scr} {d : Nat} {f : Int → Int} {n : Int} {b : Nat}
set_option maxHeartbeats 1000000 in
theorem s_tableC {T : Tx} {s0 : Ps} {σ : St} (hd : 4 ≤ d) (ob : oHa b) (fb : far b 84) (h : HtC σ b T) (S : TxS T) (H : PzC f n s0 σ) :
    (∃ T' s' τ, tblP (nxT f n) T (nxT f n s0.2.2) = .inr (T', s') ∧ FzB b 84 σ τ ∧ PzC f n s' τ ∧ HtC τ b T' ∧ TxS T' ∧ RnA sc d 40 0 [some (vR 87), some (vR b), none] σ (some (vI 1)) τ) ∨
    (∃ e τ, tblP (nxT f n) T (nxT f n s0.2.2) = .inl e ∧ FzB b 84 σ τ ∧ WfHa τ b ∧ BdC τ e ∧ RnA sc d 40 0 [some (vR 87), some (vR b), none] σ (some (vI 0)) τ) := by
  have fb' := fb
  unfold far at fb'
  obtain ⟨τ, a1, a2, a3⟩ := s_takeT (sc := sc) (d := d - 1) H
  unfold RnA at a3
  generalize nxT f n s0.2.2 = s at *
  have F1 : FzB b 84 σ τ := (Fzc.o89 a1).b
  have h1 : HtC τ b T := h.c (fun c x y => a1 c (by omega))
  have hC : coC τ b = T.1 := congrArg (fun x : Hl => x.1) h1.1
  have kd := fun u Q => s_kind (sc := sc) (d := d - 1) (u := u) (Q := Q) a2
  have va := fun u Q => s_value (sc := sc) (d := d - 1) (u := u) (Q := Q) a2
  have rf := fun k u Q => s_refuse (sc := sc) (d := d - 1) (k := k) (u := u) (Q := Q) (by omega) a2
  have ki := kd_iff a2.ok.1
  have kb := ki.1
  have k6 := ki.2.2.2.2.2.2.1
  have vv := vl_v a2.ok.1
  have bad : ∀ (k : Int), (∀ (u : Bool × Nat × Nat × Int) (Q : Rs → HS → Prop), Ex sc d 40 0 [some (vR 87), some (vR b), none] [] (wH σ u) Q ↔ Q (.inl (some (vI (0)))) (wH (rfS τ k s.2.1) u)) → ∃ e X, (.inl (k, s.2.1) : Fa ⊕ (Tx × Ps)) = .inl e ∧ FzB b 84 σ X ∧ WfHa X b ∧ BdC X e ∧ RnA sc d 40 0 [some (vR 87), some (vR b), none] σ (some (vI 0)) X := fun k hr => ⟨_, _, rfl, F1.trans rf_v.1.b, h1.2.1.c (rf_v.1.cl fb), rf_v.2, hr⟩
  unfold tblP
  by_cases ht : isTb s
  · rw [if_pos ht]
    have ht' : 100 ≤ s.1 ∧ s.1 ≤ 125 := ht
    rw [k6.mpr ht'] at kd
    rw [vv.1 ht'] at va
    have co := fun u Q => s_colsC (sc := sc) (d := d - 1) (σ := τ) (u := u) (Q := Q) (b := b) (t := s.1 - 100) ob ⟨by omega, by omega⟩
    rw [hC] at co
    have c3 := S.1 (s.1 - 100)
    have st6 := S.2.1
    have hb0 := h1.2.2
    by_cases h2 : 0 < T.1 (s.1 - 100)
    · rw [if_pos h2]
      refine Or.inr (bad 2 (fun u Q => ?_))
      simp (disch := first | assumption | omega | exact notL_I | exact notL_N | exact notL_R | exact catS_le (Nat.le_of_ble_eq_true rfl) | exact Nat.le_of_ble_eq_true rfl | exact ooRo (by assumption) | exact ooAt (by assumption) | exact ooRu (by assumption) | exact ooLo (by assumption) | exact ooHa (by assumption) | exact ooLe (by assumption) | exact ooFn | exact ooAn | exact ooPa | exact ooTo | exact ooWa | exact ooCh | rfl) only [x40_0, x40_1, x40_4, x40_7, x40_8, x40_11, x40_14, x40_16, x40_19, x40_20, x40_21, x40_24, x40_25, x40_26, x40_29, x40_32, x40_33, x40_34, x40_35, x40_38, x40_41, x40_42, x40_43, x40_46, x40_47, x40_48, x40_51, x40_53, x40_56, x40_57, x40_58, x40_61, x40_62, x40_63, x40_66, x40_69, x40_70, x40_73, x40_76, x40_78, x40_81, x40_82, x40_83, x40_86, x40_87, x40_88, x40_91, x40_94, x40_95, x40_98, x40_99, x40_102, x40_105, x40_106, x40_109, x40_110, x40_111, x40_114, x40_115, x40_116, x40_117, x40_118, x40_121, x40_124, x40_127, x40_128, x40_131, x40_134, x40_135, x40_137, x40_140, gPa_tokens, a3, kd, va, co, rf, Kc_some, Kc_none, if_pos, if_neg, ↓reduceIte, not_true_eq_false, not_false_eq_true]
    · rw [if_neg h2]
      by_cases h6 : tabF T.1 26 0 = 6
      · rw [if_pos h6]
        refine Or.inr (bad 4 (fun u Q => ?_))
        simp (disch := first | assumption | omega | exact notL_I | exact notL_N | exact notL_R | exact catS_le (Nat.le_of_ble_eq_true rfl) | exact Nat.le_of_ble_eq_true rfl | exact ooRo (by assumption) | exact ooAt (by assumption) | exact ooRu (by assumption) | exact ooLo (by assumption) | exact ooHa (by assumption) | exact ooLe (by assumption) | exact ooFn | exact ooAn | exact ooPa | exact ooTo | exact ooWa | exact ooCh | rfl) only [x40_0, x40_1, x40_4, x40_7, x40_8, x40_11, x40_14, x40_16, x40_19, x40_20, x40_21, x40_24, x40_25, x40_26, x40_29, x40_32, x40_33, x40_34, x40_35, x40_38, x40_41, x40_42, x40_43, x40_46, x40_47, x40_48, x40_51, x40_53, x40_56, x40_57, x40_58, x40_61, x40_62, x40_63, x40_66, x40_69, x40_70, x40_73, x40_76, x40_78, x40_81, x40_82, x40_83, x40_86, x40_87, x40_88, x40_91, x40_94, x40_95, x40_98, x40_99, x40_102, x40_105, x40_106, x40_109, x40_110, x40_111, x40_114, x40_115, x40_116, x40_117, x40_118, x40_121, x40_124, x40_127, x40_128, x40_131, x40_134, x40_135, x40_137, x40_140, gPa_tokens, a3, kd, va, co, gHa_tableCount, hb0, rf, Kc_some, Kc_none, if_pos, if_neg, ↓reduceIte, not_true_eq_false, not_false_eq_true]
      · rw [if_neg h6]
        obtain ⟨ρ, b1, b2, b3⟩ := s_takeT (sc := sc) (d := d - 1) a2
        unfold RnA at b3
        have h2' : HtC ρ b T := h1.c (fun c x y => b1 c (by omega))
        have F2 : FzB b 84 σ ρ := F1.trans (Fzc.o89 b1).b
        have kd2 := fun u Q => s_kind (sc := sc) (d := d - 1) (u := u) (Q := Q) b2
        have va2 := fun u Q => s_value (sc := sc) (d := d - 1) (u := u) (Q := Q) b2
        have rf2 := fun k u Q => s_refuse (sc := sc) (d := d - 1) (k := k) (u := u) (Q := Q) (by omega) b2
        have ki2 := kd_iff b2.ok.1
        have kb2 := ki2.1
        have k8 := ki2.2.2.2.2.2.2.2.2.1
        have vv2 := vl_v b2.ok.1
        have st : ∀ (u : Bool × Nat × Nat × Int) (Q : Rs → HS → Prop), Ex sc d 40 0 [some (vR 87), some (vR b), none] [] (wH σ u) Q ↔ Ex sc d 40 69 [some (vR 87), some (vR b), some (vI (s.1 - 100))] [] (wH ρ u) Q := by
          intro u Q
          simp (disch := first | assumption | omega | exact notL_I | exact notL_N | exact notL_R | exact catS_le (Nat.le_of_ble_eq_true rfl) | exact Nat.le_of_ble_eq_true rfl | exact ooRo (by assumption) | exact ooAt (by assumption) | exact ooRu (by assumption) | exact ooLo (by assumption) | exact ooHa (by assumption) | exact ooLe (by assumption) | exact ooFn | exact ooAn | exact ooPa | exact ooTo | exact ooWa | exact ooCh | rfl) only [x40_0, x40_1, x40_4, x40_7, x40_8, x40_11, x40_14, x40_16, x40_19, x40_20, x40_21, x40_24, x40_25, x40_26, x40_29, x40_32, x40_33, x40_34, x40_35, x40_38, x40_41, x40_42, x40_43, x40_46, x40_47, x40_48, x40_51, x40_53, x40_56, x40_57, x40_58, x40_61, x40_62, x40_63, x40_66, x40_70, x40_73, x40_76, x40_78, x40_81, x40_82, x40_83, x40_86, x40_87, x40_88, x40_91, x40_94, x40_95, x40_98, x40_99, x40_102, x40_105, x40_106, x40_109, x40_110, x40_111, x40_114, x40_115, x40_116, x40_117, x40_118, x40_121, x40_124, x40_127, x40_128, x40_131, x40_134, x40_135, x40_137, x40_140, gPa_tokens, a3, kd, va, co, gHa_tableCount, hb0, b3, Kc_some, Kc_none, if_pos, if_neg, ↓reduceIte, not_true_eq_false, not_false_eq_true]
        generalize nxT f n s.2.2 = s1 at *
        have bad2 : ∀ (k : Int), (∀ (u : Bool × Nat × Nat × Int) (Q : Rs → HS → Prop), Ex sc d 40 0 [some (vR 87), some (vR b), none] [] (wH σ u) Q ↔ Q (.inl (some (vI (0)))) (wH (rfS ρ k s1.2.1) u)) → ∃ e X, (.inl (k, s1.2.1) : Fa ⊕ (Tx × Ps)) = .inl e ∧ FzB b 84 σ X ∧ WfHa X b ∧ BdC X e ∧ RnA sc d 40 0 [some (vR 87), some (vR b), none] σ (some (vI 0)) X := fun k hr => ⟨_, _, rfl, F2.trans rf_v.1.b, h2'.2.1.c (rf_v.1.cl fb), rf_v.2, hr⟩
        by_cases hn : isNm s1
        · rw [if_pos hn]
          have hn' : 300 ≤ s1.1 ∧ s1.1 ≤ 399 := hn
          rw [k8.mpr hn'] at kd2
          rw [vv2.2.2.1 hn'] at va2
          by_cases h3 : 301 ≤ s1.1 ∧ s1.1 ≤ 303
          · rw [if_pos h3]
            obtain ⟨x1, x2, x3⟩ := ht_tab (t := s.1 - 100) (m := s1.1 - 300) h2' S (by omega) (by omega) (by omega) (by omega) (by omega) h6
            have ad := fun u Q => s_addTable (sc := sc) (d := d - 1) (σ := ρ) (u := u) (Q := Q) (b := b) (t := s.1 - 100) (m := s1.1 - 300) ob (by omega) (by omega)
            have P3 := b2.frB x3 fb
            have F3 : FzB b 84 σ _ := F2.trans (x3.z fb)
            generalize su (su ρ (b + 1) (s.1 - 100) (s1.1 - 300)) b 0 (ρ b 0 + 1) = X at *
            obtain ⟨Y, y1, y2, y3⟩ := s_takeT (sc := sc) (d := d - 1) P3
            unfold RnA at y3
            have h4 : HtC Y b _ := x1.c (fun c x y => y1 c (by omega))
            have F4 : FzB b 84 σ Y := F3.trans (Fzc.o89 y1).b
            have k12 := (kd_iff y2.ok.1).2.2.2.2.2.2.2.2.2.2.2.2.1
            rcases s_sgnP (sc := sc) (d := d - 1) (c := 59) (by omega) y2 k12 (by omega) with ⟨h59, Z, m1, m2, m3⟩ | ⟨h59, m3⟩
            · rw [h59, andP_r]
              unfold RnA at m3
              refine Or.inl ⟨_, _, Z, rfl, F4.trans (Fzc.o89 m1).b, m2, h4.c (fun c x y => m1 c (by omega)), x2, fun u Q => ?_⟩
              rw [st u Q, x40_69]
              simp (disch := first | assumption | omega | exact notL_I | exact notL_N | exact notL_R | exact catS_le (Nat.le_of_ble_eq_true rfl) | exact Nat.le_of_ble_eq_true rfl | exact ooRo (by assumption) | exact ooAt (by assumption) | exact ooRu (by assumption) | exact ooLo (by assumption) | exact ooHa (by assumption) | exact ooLe (by assumption) | exact ooFn | exact ooAn | exact ooPa | exact ooTo | exact ooWa | exact ooCh | rfl) only [x40_0, x40_1, x40_4, x40_7, x40_8, x40_11, x40_14, x40_16, x40_19, x40_20, x40_21, x40_24, x40_25, x40_26, x40_29, x40_32, x40_33, x40_34, x40_35, x40_38, x40_41, x40_42, x40_43, x40_46, x40_47, x40_48, x40_51, x40_53, x40_56, x40_57, x40_58, x40_61, x40_62, x40_63, x40_66, x40_70, x40_73, x40_76, x40_78, x40_81, x40_82, x40_83, x40_86, x40_87, x40_88, x40_91, x40_94, x40_95, x40_98, x40_99, x40_102, x40_105, x40_106, x40_109, x40_110, x40_111, x40_114, x40_115, x40_116, x40_117, x40_118, x40_121, x40_124, x40_127, x40_128, x40_131, x40_134, x40_135, x40_137, x40_140, gPa_tokens, kd2, va2, ad, y3, m3, Kc_some, Kc_none, if_pos, if_neg, ↓reduceIte, not_true_eq_false, not_false_eq_true]
            · rw [h59, andP_l]
              unfold RnA at m3
              refine Or.inr ⟨_, _, rfl, F4.trans rf_v.1.b, h4.2.1.c (rf_v.1.cl fb), rf_v.2, fun u Q => ?_⟩
              rw [st u Q, x40_69]
              simp (disch := first | assumption | omega | exact notL_I | exact notL_N | exact notL_R | exact catS_le (Nat.le_of_ble_eq_true rfl) | exact Nat.le_of_ble_eq_true rfl | exact ooRo (by assumption) | exact ooAt (by assumption) | exact ooRu (by assumption) | exact ooLo (by assumption) | exact ooHa (by assumption) | exact ooLe (by assumption) | exact ooFn | exact ooAn | exact ooPa | exact ooTo | exact ooWa | exact ooCh | rfl) only [x40_0, x40_1, x40_4, x40_7, x40_8, x40_11, x40_14, x40_16, x40_19, x40_20, x40_21, x40_24, x40_25, x40_26, x40_29, x40_32, x40_33, x40_34, x40_35, x40_38, x40_41, x40_42, x40_43, x40_46, x40_47, x40_48, x40_51, x40_53, x40_56, x40_57, x40_58, x40_61, x40_62, x40_63, x40_66, x40_70, x40_73, x40_76, x40_78, x40_81, x40_82, x40_83, x40_86, x40_87, x40_88, x40_91, x40_94, x40_95, x40_98, x40_99, x40_102, x40_105, x40_106, x40_109, x40_110, x40_111, x40_114, x40_115, x40_116, x40_117, x40_118, x40_121, x40_124, x40_127, x40_128, x40_131, x40_134, x40_135, x40_137, x40_140, gPa_tokens, kd2, va2, ad, y3, m3, Kc_some, Kc_none, if_pos, if_neg, ↓reduceIte, not_true_eq_false, not_false_eq_true]
          · rw [if_neg h3]
            refine Or.inr (bad2 3 (fun u Q => ?_))
            rw [st u Q, x40_69]
            by_cases hlo : s1.1 - 300 < 1
            · simp (disch := first | assumption | omega | exact notL_I | exact notL_N | exact notL_R | exact catS_le (Nat.le_of_ble_eq_true rfl) | exact Nat.le_of_ble_eq_true rfl | exact ooRo (by assumption) | exact ooAt (by assumption) | exact ooRu (by assumption) | exact ooLo (by assumption) | exact ooHa (by assumption) | exact ooLe (by assumption) | exact ooFn | exact ooAn | exact ooPa | exact ooTo | exact ooWa | exact ooCh | rfl) only [x40_0, x40_1, x40_4, x40_7, x40_8, x40_11, x40_14, x40_16, x40_19, x40_20, x40_21, x40_24, x40_25, x40_26, x40_29, x40_32, x40_33, x40_34, x40_35, x40_38, x40_41, x40_42, x40_43, x40_46, x40_47, x40_48, x40_51, x40_53, x40_56, x40_57, x40_58, x40_61, x40_62, x40_63, x40_66, x40_70, x40_73, x40_76, x40_78, x40_81, x40_82, x40_83, x40_86, x40_87, x40_88, x40_91, x40_94, x40_95, x40_98, x40_99, x40_102, x40_105, x40_106, x40_109, x40_110, x40_111, x40_114, x40_115, x40_116, x40_117, x40_118, x40_121, x40_124, x40_127, x40_128, x40_131, x40_134, x40_135, x40_137, x40_140, gPa_tokens, kd2, va2, rf2, Kc_some, Kc_none, if_pos, if_neg, ↓reduceIte, not_true_eq_false, not_false_eq_true]
            · simp (disch := first | assumption | omega | exact notL_I | exact notL_N | exact notL_R | exact catS_le (Nat.le_of_ble_eq_true rfl) | exact Nat.le_of_ble_eq_true rfl | exact ooRo (by assumption) | exact ooAt (by assumption) | exact ooRu (by assumption) | exact ooLo (by assumption) | exact ooHa (by assumption) | exact ooLe (by assumption) | exact ooFn | exact ooAn | exact ooPa | exact ooTo | exact ooWa | exact ooCh | rfl) only [x40_0, x40_1, x40_4, x40_7, x40_8, x40_11, x40_14, x40_16, x40_19, x40_20, x40_21, x40_24, x40_25, x40_26, x40_29, x40_32, x40_33, x40_34, x40_35, x40_38, x40_41, x40_42, x40_43, x40_46, x40_47, x40_48, x40_51, x40_53, x40_56, x40_57, x40_58, x40_61, x40_62, x40_63, x40_66, x40_70, x40_73, x40_76, x40_78, x40_81, x40_82, x40_83, x40_86, x40_87, x40_88, x40_91, x40_94, x40_95, x40_98, x40_99, x40_102, x40_105, x40_106, x40_109, x40_110, x40_111, x40_114, x40_115, x40_116, x40_117, x40_118, x40_121, x40_124, x40_127, x40_128, x40_131, x40_134, x40_135, x40_137, x40_140, gPa_tokens, kd2, va2, rf2, Kc_some, Kc_none, if_pos, if_neg, ↓reduceIte, not_true_eq_false, not_false_eq_true]
        · rw [if_neg hn]
          have n8 : kdT s1.1 ≠ 8 := fun z => hn (k8.mp z)
          refine Or.inr (bad2 1 (fun u Q => ?_))
          rw [st u Q, x40_69]
          simp (disch := first | assumption | omega | exact notL_I | exact notL_N | exact notL_R | exact catS_le (Nat.le_of_ble_eq_true rfl) | exact Nat.le_of_ble_eq_true rfl | exact ooRo (by assumption) | exact ooAt (by assumption) | exact ooRu (by assumption) | exact ooLo (by assumption) | exact ooHa (by assumption) | exact ooLe (by assumption) | exact ooFn | exact ooAn | exact ooPa | exact ooTo | exact ooWa | exact ooCh | rfl) only [x40_0, x40_1, x40_4, x40_7, x40_8, x40_11, x40_14, x40_16, x40_19, x40_20, x40_21, x40_24, x40_25, x40_26, x40_29, x40_32, x40_33, x40_34, x40_35, x40_38, x40_41, x40_42, x40_43, x40_46, x40_47, x40_48, x40_51, x40_53, x40_56, x40_57, x40_58, x40_61, x40_62, x40_63, x40_66, x40_70, x40_73, x40_76, x40_78, x40_81, x40_82, x40_83, x40_86, x40_87, x40_88, x40_91, x40_94, x40_95, x40_98, x40_99, x40_102, x40_105, x40_106, x40_109, x40_110, x40_111, x40_114, x40_115, x40_116, x40_117, x40_118, x40_121, x40_124, x40_127, x40_128, x40_131, x40_134, x40_135, x40_137, x40_140, gPa_tokens, kd2, rf2, Kc_some, Kc_none, if_pos, if_neg, ↓reduceIte, not_true_eq_false, not_false_eq_true]
  · rw [if_neg ht]
    have n6 : kdT s.1 ≠ 6 := fun z => ht (k6.mp z)
    refine Or.inr (bad 1 (fun u Q => ?_))
    simp (disch := first | assumption | omega | exact notL_I | exact notL_N | exact notL_R | exact catS_le (Nat.le_of_ble_eq_true rfl) | exact Nat.le_of_ble_eq_true rfl | exact ooRo (by assumption) | exact ooAt (by assumption) | exact ooRu (by assumption) | exact ooLo (by assumption) | exact ooHa (by assumption) | exact ooLe (by assumption) | exact ooFn | exact ooAn | exact ooPa | exact ooTo | exact ooWa | exact ooCh | rfl) only [x40_0, x40_1, x40_4, x40_7, x40_8, x40_11, x40_14, x40_16, x40_19, x40_20, x40_21, x40_24, x40_25, x40_26, x40_29, x40_32, x40_33, x40_34, x40_35, x40_38, x40_41, x40_42, x40_43, x40_46, x40_47, x40_48, x40_51, x40_53, x40_56, x40_57, x40_58, x40_61, x40_62, x40_63, x40_66, x40_69, x40_70, x40_73, x40_76, x40_78, x40_81, x40_82, x40_83, x40_86, x40_87, x40_88, x40_91, x40_94, x40_95, x40_98, x40_99, x40_102, x40_105, x40_106, x40_109, x40_110, x40_111, x40_114, x40_115, x40_116, x40_117, x40_118, x40_121, x40_124, x40_127, x40_128, x40_131, x40_134, x40_135, x40_137, x40_140, gPa_tokens, a3, kd, rf, Kc_some, Kc_none, if_pos, if_neg, ↓reduceIte, not_true_eq_false, not_false_eq_true]
set_option maxHeartbeats 1000000 in
theorem s_rowC {T : Tx} {s0 : Ps} {σ : St} (hd : 5 ≤ d) (ob : oHa b) (fb : far b 84) (h : HtC σ b T) (S : TxS T) (H : PzC f n s0 σ) :
    (∃ T' s' τ, rowP (nxT f n) T (nxT f n s0.2.2) = .inr (T', s') ∧ FzB b 84 σ τ ∧ PzC f n s' τ ∧ HtC τ b T' ∧ TxS T' ∧ RnA sc d 49 0 [some (vR 87), some (vR b), none, none, none] σ (some (vI 1)) τ) ∨
    (∃ e τ, rowP (nxT f n) T (nxT f n s0.2.2) = .inl e ∧ FzB b 84 σ τ ∧ WfHa τ b ∧ BdC τ e ∧ RnA sc d 49 0 [some (vR 87), some (vR b), none, none, none] σ (some (vI 0)) τ) := by
  have fb' := fb
  unfold far at fb'
  have orr := ob.rows
  obtain ⟨τ, a1, a2, a3⟩ := s_takeT (sc := sc) (d := d - 1) H
  unfold RnA at a3
  generalize nxT f n s0.2.2 = s at *
  have F1 : FzB b 84 σ τ := (Fzc.o89 a1).b
  have h1 : HtC τ b T := h.c (fun c x y => a1 c (by omega))
  have hC : coC τ b = T.1 := congrArg (fun x : Hl => x.1) h1.1
  have va := fun u Q => s_value (sc := sc) (d := d - 1) (u := u) (Q := Q) a2
  have pl := fun u Q => s_place (sc := sc) (d := d - 1) (u := u) (Q := Q) a2
  have vv := vl_v a2.ok.1
  have kn := s_known (sc := sc) (d := d - 1) (b := b) (σ := τ) (s := s) ob (by omega) (by rw [hC]; exact S.1) a2
  rw [hC] at kn
  unfold rowP
  rcases kn with ⟨t, e1, e2, t0, t1, ct, r1⟩ | ⟨e, e1, e2, r1⟩
  · rw [e1, andP_r]
    unfold RnA at r1
    rw [vv.1 (by omega), ← e2] at va
    obtain ⟨ρ, b1, b2, b3⟩ := s_takeT (sc := sc) (d := d - 1) a2
    unfold RnA at b3
    have F2 : Fzc τ ρ := Fzc.o89 b1
    have k9 := (kd_iff b2.ok.1).2.2.2.2.2.2.2.2.2.1
    unfold sevP
    have st : ∀ (u : Bool × Nat × Nat × Int) (Q : Rs → HS → Prop), Ex sc d 49 0 [some (vR 87), some (vR b), none, none, none] [] (wH σ u) Q ↔ Ex sc d 49 40 [some (vR 87), some (vR b), some (vI t), some (vI s.2.1), none] [] (wH ρ u) Q := by
      intro u Q
      simp (disch := first | assumption | omega | exact notL_I | exact notL_N | exact notL_R | exact catS_le (Nat.le_of_ble_eq_true rfl) | exact Nat.le_of_ble_eq_true rfl | exact ooRo (by assumption) | exact ooAt (by assumption) | exact ooRu (by assumption) | exact ooLo (by assumption) | exact ooHa (by assumption) | exact ooLe (by assumption) | exact ooFn | exact ooAn | exact ooPa | exact ooTo | exact ooWa | exact ooCh | rfl) only [x49_0, x49_1, x49_4, x49_7, x49_8, x49_9, x49_12, x49_15, x49_16, x49_17, x49_18, x49_21, x49_24, x49_25, x49_26, x49_29, x49_32, x49_33, x49_34, x49_37, x49_41, x49_43, x49_46, x49_49, x49_50, x49_51, x49_52, x49_55, x49_56, x49_59, x49_62, x49_63, x49_64, x49_65, x49_68, x49_69, x49_70, x49_73, x49_74, x49_75, x49_76, x49_79, x49_80, x49_81, x49_82, x49_85, x49_86, x49_87, x49_90, x49_91, x49_94, x49_95, x49_98, x49_101, x49_103, x49_106, x49_107, x49_110, x49_111, x49_112, x49_115, x49_116, x49_117, x49_118, x49_121, x49_122, x49_123, x49_124, x49_127, x49_128, x49_129, x49_132, x49_133, x49_136, x49_137, x49_138, x49_139, x49_142, x49_144, x49_146, x49_149, gPa_tokens, a3, r1, va, pl, b3, Kc_some, Kc_none, if_pos, if_neg, ↓reduceIte, not_true_eq_false, not_false_eq_true]
    rcases s_sgnP (sc := sc) (d := d - 1) (c := 40) (by omega) b2 k9 (by omega) with ⟨h540, X, x1, x2, x3⟩ | ⟨h540, x3⟩
    · rw [h540, andP_r]
      unfold RnA at x3
      have F3 : Fzc τ X := F2.trans (Fzc.o89 x1)
      have cX : coC X b = T.1 := by rw [coC_eq (F3.cl fb (b + 1) (by omega) (by omega))]; exact hC
      have co := fun u Q => s_colsC (sc := sc) (d := d - 1) (σ := X) (u := u) (Q := Q) (b := b) (t := t) ob ⟨by omega, by omega⟩
      rw [cX] at co
      rcases s_cells (sc := sc) (d := d - 1) (row := true) (m := T.1 t) (by omega) (by omega) (S.1 t).2 x2 with ⟨l, s3, Y, c1, c2, c3, c4, c5, c6, c7⟩ | ⟨e, Y, c1, c2, c3, c4⟩
      · rw [c1, andP_r]
        dsimp only
        unfold RnA at c7
        rw [bI_t] at c7
        have F4 : Fzc τ Y := F3.trans c3
        have h4 : HtC Y b T := h1.c (F4.cl fb)
        have FY : FzB b 84 σ Y := F1.trans F4.b
        have q0 : Y 93 0 = l.getD 0 (-1) := c5 0 (by omega)
        have q1 : Y 93 1 = l.getD 1 (-1) := c5 1 (by omega)
        have q2 : Y 93 2 = l.getD 2 (-1) := c5 2 (by omega)
        have okr := ok_row (t := t) c6
        have fi := fun u Q => s_findC (sc := sc) (d := d - 1) (σ := Y) (u := u) (Q := Q) (r := b + 3) (t := t) (x := l.getD 0 (-1)) (y := l.getD 1 (-1)) (z := l.getD 2 (-1)) orr ⟨by omega, by omega⟩ ⟨by have := okr 0; omega, by have := okr 0; omega⟩ ⟨by have := okr 1; omega, by have := okr 1; omega⟩ ⟨by have := okr 2; omega, by have := okr 2; omega⟩ h4.2.1.2.2.2.1
        have rsY : rsC Y (b + 3) = T.2.2.1 := congrArg (fun x : Hl => x.2.2.2.1) h4.1
        rw [rsY] at fi
        have pf := pos_find (L := T.2.2.1) (g := (t, l.getD 0 (-1), l.getD 1 (-1), l.getD 2 (-1)))
        have pb : -1 ≤ posF (fun w => decide (w.2 = (t, l.getD 0 (-1), l.getD 1 (-1), l.getD 2 (-1)))) T.2.2.1 0 ∧ posF (fun w => decide (w.2 = (t, l.getD 0 (-1), l.getD 1 (-1), l.getD 2 (-1)))) T.2.2.1 0 ≤ 40 := by
          by_cases z : posF (fun w => decide (w.2 = (t, l.getD 0 (-1), l.getD 1 (-1), l.getD 2 (-1)))) T.2.2.1 0 = -1
          · omega
          · have := pos_some T.2.2.1 0 _ rfl z
            have el := rsC_len (σ := Y) (r := b + 3) h4.2.1.2.2.2.1.1.1
            rw [rsY] at el
            have := h4.2.1.2.2.2.1.1.2
            omega
        have eg : atL t l = (t, l.getD 0 (-1), l.getD 1 (-1), l.getD 2 (-1)) := rfl
        rw [eg]
        have st2 : ∀ (u : Bool × Nat × Nat × Int) (Q : Rs → HS → Prop), Ex sc d 49 0 [some (vR 87), some (vR b), none, none, none] [] (wH σ u) Q ↔ Ex sc d 49 64 [some (vR 87), some (vR b), some (vI t), some (vI s.2.1), none] [] (wH Y u) Q := by
          intro u Q
          rw [st u Q, x49_40]
          simp (disch := first | assumption | omega | exact notL_I | exact notL_N | exact notL_R | exact catS_le (Nat.le_of_ble_eq_true rfl) | exact Nat.le_of_ble_eq_true rfl | exact ooRo (by assumption) | exact ooAt (by assumption) | exact ooRu (by assumption) | exact ooLo (by assumption) | exact ooHa (by assumption) | exact ooLe (by assumption) | exact ooFn | exact ooAn | exact ooPa | exact ooTo | exact ooWa | exact ooCh | rfl) only [x49_0, x49_1, x49_4, x49_7, x49_8, x49_9, x49_12, x49_15, x49_16, x49_17, x49_18, x49_21, x49_24, x49_25, x49_26, x49_29, x49_32, x49_33, x49_34, x49_37, x49_41, x49_43, x49_46, x49_49, x49_50, x49_51, x49_52, x49_55, x49_56, x49_59, x49_62, x49_63, x49_65, x49_68, x49_69, x49_70, x49_73, x49_74, x49_75, x49_76, x49_79, x49_80, x49_81, x49_82, x49_85, x49_86, x49_87, x49_90, x49_91, x49_94, x49_95, x49_98, x49_101, x49_103, x49_106, x49_107, x49_110, x49_111, x49_112, x49_115, x49_116, x49_117, x49_118, x49_121, x49_122, x49_123, x49_124, x49_127, x49_128, x49_129, x49_132, x49_133, x49_136, x49_137, x49_138, x49_139, x49_142, x49_144, x49_146, x49_149, x3, co, c7, Kc_some, Kc_none, if_pos, if_neg, ↓reduceIte, not_true_eq_false, not_false_eq_true]
        have k12 := fun {s' : Ps} {Z : St} (P : PzC f n s' Z) => (kd_iff P.ok.1).2.2.2.2.2.2.2.2.2.2.2.2.1
        by_cases hf : findL T.2.2.1 (t, l.getD 0 (-1), l.getD 1 (-1), l.getD 2 (-1)) = none
        · rw [if_pos hf]
          have hp := pf.mpr hf
          rw [hp] at fi
          have ad := fun u Q => s_addC (sc := sc) (d := d - 1) (σ := Y) (u := u) (Q := Q) (r := b + 3) (t := t) (x := l.getD 0 (-1)) (y := l.getD 1 (-1)) (z := l.getD 2 (-1)) orr ⟨by have := okr 0; omega, by have := okr 0; omega⟩ ⟨by have := okr 1; omega, by have := okr 1; omega⟩ ⟨by have := okr 2; omega, by have := okr 2; omega⟩ h4.2.1.2.2.2.1 (by omega)
          by_cases h40 : T.2.2.1.length = 40
          · rw [if_pos h40]
            have el := rsC_len (σ := Y) (r := b + 3) h4.2.1.2.2.2.1.1.1
            rw [rsY] at el
            have ad2 : ∀ (u : Bool × Nat × Nat × Int) (Q : Rs → HS → Prop), Ex sc (d - 1) 55 0 [some (vR (b + 3)), some (vI t), some (vI (l.getD 0 (-1))), some (vI (l.getD 1 (-1))), some (vI (l.getD 2 (-1)))] [] (wH Y u) Q ↔ Q (.inl (some (vI (-1)))) (wH Y u) := fun u Q => by
              rw [ad u Q, if_neg (by omega)]
            have ra := fun u Q => s_refAt (sc := sc) (d := d - 1) (σ := Y) (k := 4) (p := s.2.1) (u := u) (Q := Q)
            refine Or.inr ⟨_, _, rfl, FY.trans rf_v.1.b, h4.2.1.c (rf_v.1.cl fb), rf_v.2, fun u Q => ?_⟩
            rw [st2 u Q, x49_64]
            simp (disch := first | assumption | omega | exact notL_I | exact notL_N | exact notL_R | exact catS_le (Nat.le_of_ble_eq_true rfl) | exact Nat.le_of_ble_eq_true rfl | exact ooRo (by assumption) | exact ooAt (by assumption) | exact ooRu (by assumption) | exact ooLo (by assumption) | exact ooHa (by assumption) | exact ooLe (by assumption) | exact ooFn | exact ooAn | exact ooPa | exact ooTo | exact ooWa | exact ooCh | rfl) only [x49_0, x49_1, x49_4, x49_7, x49_8, x49_9, x49_12, x49_15, x49_16, x49_17, x49_18, x49_21, x49_24, x49_25, x49_26, x49_29, x49_32, x49_33, x49_34, x49_37, x49_41, x49_43, x49_46, x49_49, x49_50, x49_51, x49_52, x49_55, x49_56, x49_59, x49_62, x49_63, x49_65, x49_68, x49_69, x49_70, x49_73, x49_74, x49_75, x49_76, x49_79, x49_80, x49_81, x49_82, x49_85, x49_86, x49_87, x49_90, x49_91, x49_94, x49_95, x49_98, x49_99, x49_101, x49_103, x49_106, x49_107, x49_110, x49_111, x49_112, x49_115, x49_116, x49_117, x49_118, x49_121, x49_122, x49_123, x49_124, x49_127, x49_128, x49_129, x49_132, x49_133, x49_136, x49_137, x49_138, x49_139, x49_142, x49_143, x49_144, x49_146, x49_149, gHa_rows, gPa_cells, RPa_cells, q0, q1, q2, fi, ad2, ra, Kc_some, Kc_none, if_pos, if_neg, ↓reduceIte, not_true_eq_false, not_false_eq_true]
          · rw [if_neg h40]
            obtain ⟨y1, y2, y3, y4⟩ := ht_row (g := (t, l.getD 0 (-1), l.getD 1 (-1), l.getD 2 (-1))) h4 S ⟨t0, t1⟩ (okr 0) (okr 1) (okr 2) h40
            have yb := h4.2.1.2.2.2.1.2.1
            have ad2 : ∀ (u : Bool × Nat × Nat × Int) (Q : Rs → HS → Prop), Ex sc (d - 1) 55 0 [some (vR (b + 3)), some (vI t), some (vI (l.getD 0 (-1))), some (vI (l.getD 1 (-1))), some (vI (l.getD 2 (-1)))] [] (wH Y u) Q ↔ Q (.inl (some (vI (Y (b + 3) 1 + 1 - 1)))) (wH (adS Y (b + 3) t (l.getD 0 (-1)) (l.getD 1 (-1)) (l.getD 2 (-1))) u) := fun u Q => by
              rw [ad u Q, if_pos y1]
            have P5 : PzC f n s3 (adS Y (b + 3) t (l.getD 0 (-1)) (l.getD 1 (-1)) (l.getD 2 (-1))) := c4.frB y4 fb
            have F5 : FzB b 84 σ (adS Y (b + 3) t (l.getD 0 (-1)) (l.getD 1 (-1)) (l.getD 2 (-1))) := FY.trans (y4.z fb)
            dsimp only at y2
            generalize adS Y (b + 3) t (l.getD 0 (-1)) (l.getD 1 (-1)) (l.getD 2 (-1)) = Z at *
            rcases s_sgnP (sc := sc) (d := d - 1) (c := 59) (by omega) P5 (k12 P5) (by omega) with ⟨h59, V, m1, m2, m3⟩ | ⟨h59, m3⟩
            · rw [h59, andP_r]
              unfold RnA at m3
              refine Or.inl ⟨_, _, V, rfl, F5.trans (Fzc.o89 m1).b, m2, y2.c (fun c x y => m1 c (by omega)), y3, fun u Q => ?_⟩
              rw [st2 u Q, x49_64]
              simp (disch := first | assumption | omega | exact notL_I | exact notL_N | exact notL_R | exact catS_le (Nat.le_of_ble_eq_true rfl) | exact Nat.le_of_ble_eq_true rfl | exact ooRo (by assumption) | exact ooAt (by assumption) | exact ooRu (by assumption) | exact ooLo (by assumption) | exact ooHa (by assumption) | exact ooLe (by assumption) | exact ooFn | exact ooAn | exact ooPa | exact ooTo | exact ooWa | exact ooCh | rfl) only [x49_0, x49_1, x49_4, x49_7, x49_8, x49_9, x49_12, x49_15, x49_16, x49_17, x49_18, x49_21, x49_24, x49_25, x49_26, x49_29, x49_32, x49_33, x49_34, x49_37, x49_41, x49_43, x49_46, x49_49, x49_50, x49_51, x49_52, x49_55, x49_56, x49_59, x49_62, x49_63, x49_65, x49_68, x49_69, x49_70, x49_73, x49_74, x49_75, x49_76, x49_79, x49_80, x49_81, x49_82, x49_85, x49_86, x49_87, x49_90, x49_91, x49_94, x49_95, x49_98, x49_99, x49_101, x49_103, x49_106, x49_107, x49_110, x49_111, x49_112, x49_115, x49_116, x49_117, x49_118, x49_121, x49_122, x49_123, x49_124, x49_127, x49_128, x49_129, x49_132, x49_133, x49_136, x49_137, x49_138, x49_139, x49_142, x49_143, x49_144, x49_146, x49_149, gHa_rows, gPa_cells, RPa_cells, q0, q1, q2, fi, ad2, m3, Kc_some, Kc_none, if_pos, if_neg, ↓reduceIte, not_true_eq_false, not_false_eq_true]
            · rw [h59, andP_l]
              unfold RnA at m3
              refine Or.inr ⟨_, _, rfl, F5.trans rf_v.1.b, y2.2.1.c (rf_v.1.cl fb), rf_v.2, fun u Q => ?_⟩
              rw [st2 u Q, x49_64]
              simp (disch := first | assumption | omega | exact notL_I | exact notL_N | exact notL_R | exact catS_le (Nat.le_of_ble_eq_true rfl) | exact Nat.le_of_ble_eq_true rfl | exact ooRo (by assumption) | exact ooAt (by assumption) | exact ooRu (by assumption) | exact ooLo (by assumption) | exact ooHa (by assumption) | exact ooLe (by assumption) | exact ooFn | exact ooAn | exact ooPa | exact ooTo | exact ooWa | exact ooCh | rfl) only [x49_0, x49_1, x49_4, x49_7, x49_8, x49_9, x49_12, x49_15, x49_16, x49_17, x49_18, x49_21, x49_24, x49_25, x49_26, x49_29, x49_32, x49_33, x49_34, x49_37, x49_41, x49_43, x49_46, x49_49, x49_50, x49_51, x49_52, x49_55, x49_56, x49_59, x49_62, x49_63, x49_65, x49_68, x49_69, x49_70, x49_73, x49_74, x49_75, x49_76, x49_79, x49_80, x49_81, x49_82, x49_85, x49_86, x49_87, x49_90, x49_91, x49_94, x49_95, x49_98, x49_99, x49_101, x49_103, x49_106, x49_107, x49_110, x49_111, x49_112, x49_115, x49_116, x49_117, x49_118, x49_121, x49_122, x49_123, x49_124, x49_127, x49_128, x49_129, x49_132, x49_133, x49_136, x49_137, x49_138, x49_139, x49_142, x49_143, x49_144, x49_146, x49_149, gHa_rows, gPa_cells, RPa_cells, q0, q1, q2, fi, ad2, m3, Kc_some, Kc_none, if_pos, if_neg, ↓reduceIte, not_true_eq_false, not_false_eq_true]
        · rw [if_neg hf]
          have hp : posF (fun w => decide (w.2 = (t, l.getD 0 (-1), l.getD 1 (-1), l.getD 2 (-1)))) T.2.2.1 0 ≠ -1 := fun z => hf (pf.mp z)
          generalize posF (fun w => decide (w.2 = (t, l.getD 0 (-1), l.getD 1 (-1), l.getD 2 (-1)))) T.2.2.1 0 = p at *
          rcases s_sgnP (sc := sc) (d := d - 1) (c := 59) (by omega) c4 (k12 c4) (by omega) with ⟨h59, V, m1, m2, m3⟩ | ⟨h59, m3⟩
          · rw [h59, andP_r]
            unfold RnA at m3
            refine Or.inl ⟨_, _, V, rfl, FY.trans (Fzc.o89 m1).b, m2, h4.c (fun c x y => m1 c (by omega)), S, fun u Q => ?_⟩
            rw [st2 u Q, x49_64]
            simp (disch := first | assumption | omega | exact notL_I | exact notL_N | exact notL_R | exact catS_le (Nat.le_of_ble_eq_true rfl) | exact Nat.le_of_ble_eq_true rfl | exact ooRo (by assumption) | exact ooAt (by assumption) | exact ooRu (by assumption) | exact ooLo (by assumption) | exact ooHa (by assumption) | exact ooLe (by assumption) | exact ooFn | exact ooAn | exact ooPa | exact ooTo | exact ooWa | exact ooCh | rfl) only [x49_0, x49_1, x49_4, x49_7, x49_8, x49_9, x49_12, x49_15, x49_16, x49_17, x49_18, x49_21, x49_24, x49_25, x49_26, x49_29, x49_32, x49_33, x49_34, x49_37, x49_41, x49_43, x49_46, x49_49, x49_50, x49_51, x49_52, x49_55, x49_56, x49_59, x49_62, x49_63, x49_65, x49_68, x49_69, x49_70, x49_73, x49_74, x49_75, x49_76, x49_79, x49_80, x49_81, x49_82, x49_85, x49_86, x49_87, x49_90, x49_91, x49_94, x49_95, x49_98, x49_99, x49_101, x49_103, x49_106, x49_107, x49_110, x49_111, x49_112, x49_115, x49_116, x49_117, x49_118, x49_121, x49_122, x49_123, x49_124, x49_127, x49_128, x49_129, x49_132, x49_133, x49_136, x49_137, x49_138, x49_139, x49_142, x49_143, x49_144, x49_146, x49_149, gHa_rows, gPa_cells, RPa_cells, q0, q1, q2, fi, m3, Kc_some, Kc_none, if_pos, if_neg, ↓reduceIte, not_true_eq_false, not_false_eq_true]
          · rw [h59, andP_l]
            unfold RnA at m3
            refine Or.inr ⟨_, _, rfl, FY.trans rf_v.1.b, h4.2.1.c (rf_v.1.cl fb), rf_v.2, fun u Q => ?_⟩
            rw [st2 u Q, x49_64]
            simp (disch := first | assumption | omega | exact notL_I | exact notL_N | exact notL_R | exact catS_le (Nat.le_of_ble_eq_true rfl) | exact Nat.le_of_ble_eq_true rfl | exact ooRo (by assumption) | exact ooAt (by assumption) | exact ooRu (by assumption) | exact ooLo (by assumption) | exact ooHa (by assumption) | exact ooLe (by assumption) | exact ooFn | exact ooAn | exact ooPa | exact ooTo | exact ooWa | exact ooCh | rfl) only [x49_0, x49_1, x49_4, x49_7, x49_8, x49_9, x49_12, x49_15, x49_16, x49_17, x49_18, x49_21, x49_24, x49_25, x49_26, x49_29, x49_32, x49_33, x49_34, x49_37, x49_41, x49_43, x49_46, x49_49, x49_50, x49_51, x49_52, x49_55, x49_56, x49_59, x49_62, x49_63, x49_65, x49_68, x49_69, x49_70, x49_73, x49_74, x49_75, x49_76, x49_79, x49_80, x49_81, x49_82, x49_85, x49_86, x49_87, x49_90, x49_91, x49_94, x49_95, x49_98, x49_99, x49_101, x49_103, x49_106, x49_107, x49_110, x49_111, x49_112, x49_115, x49_116, x49_117, x49_118, x49_121, x49_122, x49_123, x49_124, x49_127, x49_128, x49_129, x49_132, x49_133, x49_136, x49_137, x49_138, x49_139, x49_142, x49_143, x49_144, x49_146, x49_149, gHa_rows, gPa_cells, RPa_cells, q0, q1, q2, fi, m3, Kc_some, Kc_none, if_pos, if_neg, ↓reduceIte, not_true_eq_false, not_false_eq_true]
      · rw [c1, andP_l]
        unfold RnA at c4
        rw [bI_t] at c4
        have F4 : Fzc τ Y := F3.trans c2
        refine Or.inr ⟨e, Y, rfl, F1.trans F4.b, h1.2.1.c (F4.cl fb), c3, fun u Q => ?_⟩
        rw [st u Q, x49_40]
        simp (disch := first | assumption | omega | exact notL_I | exact notL_N | exact notL_R | exact catS_le (Nat.le_of_ble_eq_true rfl) | exact Nat.le_of_ble_eq_true rfl | exact ooRo (by assumption) | exact ooAt (by assumption) | exact ooRu (by assumption) | exact ooLo (by assumption) | exact ooHa (by assumption) | exact ooLe (by assumption) | exact ooFn | exact ooAn | exact ooPa | exact ooTo | exact ooWa | exact ooCh | rfl) only [x49_0, x49_1, x49_4, x49_7, x49_8, x49_9, x49_12, x49_15, x49_16, x49_17, x49_18, x49_21, x49_24, x49_25, x49_26, x49_29, x49_32, x49_33, x49_34, x49_37, x49_41, x49_43, x49_46, x49_49, x49_50, x49_51, x49_52, x49_55, x49_56, x49_59, x49_62, x49_63, x49_64, x49_65, x49_68, x49_69, x49_70, x49_73, x49_74, x49_75, x49_76, x49_79, x49_80, x49_81, x49_82, x49_85, x49_86, x49_87, x49_90, x49_91, x49_94, x49_95, x49_98, x49_99, x49_101, x49_103, x49_106, x49_107, x49_110, x49_111, x49_112, x49_115, x49_116, x49_117, x49_118, x49_121, x49_122, x49_123, x49_124, x49_127, x49_128, x49_129, x49_132, x49_133, x49_136, x49_137, x49_138, x49_139, x49_142, x49_143, x49_144, x49_146, x49_149, x3, co, c4, Kc_some, Kc_none, if_pos, if_neg, ↓reduceIte, not_true_eq_false, not_false_eq_true]
    · rw [h540, andP_l, andP_l]
      unfold RnA at x3
      have F3 : Fzc τ (rfS ρ 1 (nxT f n s.2.2).2.1) := F2.trans rf_v.1
      refine Or.inr ⟨_, _, rfl, F1.trans F3.b, h1.2.1.c (F3.cl fb), rf_v.2, fun u Q => ?_⟩
      rw [st u Q, x49_40]
      simp (disch := first | assumption | omega | exact notL_I | exact notL_N | exact notL_R | exact catS_le (Nat.le_of_ble_eq_true rfl) | exact Nat.le_of_ble_eq_true rfl | exact ooRo (by assumption) | exact ooAt (by assumption) | exact ooRu (by assumption) | exact ooLo (by assumption) | exact ooHa (by assumption) | exact ooLe (by assumption) | exact ooFn | exact ooAn | exact ooPa | exact ooTo | exact ooWa | exact ooCh | rfl) only [x49_0, x49_1, x49_4, x49_7, x49_8, x49_9, x49_12, x49_15, x49_16, x49_17, x49_18, x49_21, x49_24, x49_25, x49_26, x49_29, x49_32, x49_33, x49_34, x49_37, x49_41, x49_43, x49_46, x49_49, x49_50, x49_51, x49_52, x49_55, x49_56, x49_59, x49_62, x49_63, x49_64, x49_65, x49_68, x49_69, x49_70, x49_73, x49_74, x49_75, x49_76, x49_79, x49_80, x49_81, x49_82, x49_85, x49_86, x49_87, x49_90, x49_91, x49_94, x49_95, x49_98, x49_99, x49_101, x49_103, x49_106, x49_107, x49_110, x49_111, x49_112, x49_115, x49_116, x49_117, x49_118, x49_121, x49_122, x49_123, x49_124, x49_127, x49_128, x49_129, x49_132, x49_133, x49_136, x49_137, x49_138, x49_139, x49_142, x49_143, x49_144, x49_146, x49_149, x3, Kc_some, Kc_none, if_pos, if_neg, ↓reduceIte, not_true_eq_false, not_false_eq_true]
  · rw [e1, andP_l]
    unfold RnA at r1
    refine Or.inr ⟨e, _, rfl, F1.trans rf_v.1.b, h1.2.1.c (rf_v.1.cl fb), e2, fun u Q => ?_⟩
    simp (disch := first | assumption | omega | exact notL_I | exact notL_N | exact notL_R | exact catS_le (Nat.le_of_ble_eq_true rfl) | exact Nat.le_of_ble_eq_true rfl | exact ooRo (by assumption) | exact ooAt (by assumption) | exact ooRu (by assumption) | exact ooLo (by assumption) | exact ooHa (by assumption) | exact ooLe (by assumption) | exact ooFn | exact ooAn | exact ooPa | exact ooTo | exact ooWa | exact ooCh | rfl) only [x49_0, x49_1, x49_4, x49_7, x49_8, x49_9, x49_12, x49_15, x49_16, x49_17, x49_18, x49_21, x49_24, x49_25, x49_26, x49_29, x49_32, x49_33, x49_34, x49_37, x49_41, x49_43, x49_46, x49_49, x49_50, x49_51, x49_52, x49_55, x49_56, x49_59, x49_62, x49_63, x49_64, x49_65, x49_68, x49_69, x49_70, x49_73, x49_74, x49_75, x49_76, x49_79, x49_80, x49_81, x49_82, x49_85, x49_86, x49_87, x49_90, x49_91, x49_94, x49_95, x49_98, x49_99, x49_101, x49_103, x49_106, x49_107, x49_110, x49_111, x49_112, x49_115, x49_116, x49_117, x49_118, x49_121, x49_122, x49_123, x49_124, x49_127, x49_128, x49_129, x49_132, x49_133, x49_136, x49_137, x49_138, x49_139, x49_142, x49_143, x49_144, x49_146, x49_149, gPa_tokens, a3, r1, Kc_some, Kc_none, if_pos, if_neg, ↓reduceIte, not_true_eq_false, not_false_eq_true]
end H9
