/-! questions to the class: answers in order -/
def CdI (l : List Int) (σ : St) : Prop := σ 119 0 = (l.length : Int) ∧ (∀ (i : Nat) (c : Int), l[i]? = some c → σ 120 i = c) ∧ srtC l ∧ ∀ c ∈ l, 0 ≤ c ∧ c < 1000000
theorem CdI.c {l : List Int} {σ τ : St} (H : CdI l σ) (h1 : τ 119 0 = σ 119 0) (h2 : τ 120 = σ 120) : CdI l τ := by
  unfold CdI
  rw [h1, h2]
  exact H
section Y1
variable {sc : Scr}
theorem l_insC {l : List Int} {σ : St} {d : Nat} {e : Int} (H : CdI l σ) (hl : l.length ≤ 1600) (he : 0 ≤ e ∧ e < 1000000) : ∀ (k : Nat), k ≤ l.length → (∀ b ∈ l.drop k, e ≤ b) →
    ∃ k', k' ≤ k ∧ (∀ b ∈ l.drop k', e ≤ b) ∧ (k' = 0 ∨ ∃ c, l[k' - 1]? = some c ∧ c < e) ∧ ∀ (u : Bool × Nat × Nat × Int) (Q : Rs → HS → Prop), Ex sc d 154 10 [some (vR 119), some (vI e), some (vI ((k : Int))), some (vI ((k : Int)))] [] (wH σ u) Q ↔ Ex sc d 154 36 [some (vR 119), some (vI e), some (vI ((k' : Int))), some (vI ((k' : Int)))] [] (wH σ u) Q := by
  intro k
  induction k with
  | zero =>
    intro hk hb
    refine ⟨0, Nat.le_refl _, hb, Or.inl rfl, fun u Q => ?_⟩
    rw [x154_10]
    simp (disch := first | assumption | omega | exact notL_I | exact notL_N | exact notL_R | exact catS_le (Nat.le_of_ble_eq_true rfl) | exact Nat.le_of_ble_eq_true rfl | exact ooRo (by assumption) | exact ooAt (by assumption) | exact ooRu (by assumption) | exact ooLo (by assumption) | exact ooHa (by assumption) | exact ooLe (by assumption) | exact ooFn | exact ooAn | exact ooPa | exact ooTo | exact ooWa | exact ooCh | rfl) only [x154_0, x154_1, x154_4, x154_5, x154_6, x154_9, x154_11, x154_14, x154_15, x154_18, x154_19, x154_20, x154_21, x154_22, x154_23, x154_26, x154_27, x154_28, x154_29, x154_30, x154_33, x154_37, x154_38, x154_41, x154_44, x154_45, x154_48, x154_49, x154_50, x154_51, x154_54, x154_55, x154_58, x154_59, x154_60, x154_61, x154_64, x154_65, x154_68, x154_71, x154_74, x154_75, x154_76, x154_79, x154_80, x154_81, x154_84, x154_85, x154_86, x154_87, x154_88, x154_91, x154_92, x154_93, x154_96, x154_97, x154_100, x154_101, x154_102, x154_103, x154_104I, x154_104, x154_105, x154_108, x154_109, x154_110, x154_113, Int.natCast_zero, if_pos, if_neg, ↓reduceIte, not_true_eq_false, not_false_eq_true]
  | succ k ih =>
    intro hk hb
    have hkl : k < l.length := by omega
    have c1 : l[k]? = some l[k] := List.getElem?_eq_getElem hkl
    have c2 := H.2.2.2 _ (List.getElem_mem hkl)
    have c3 := H.2.1 k _ c1
    generalize l[k] = c at *
    have ek : ((k + 1 : Nat) : Int) - 1 = (k : Int) := by omega
    have ek2 : ((k + 1 : Nat) : Int) + -1 = (k : Int) := by omega
    by_cases hlt : e ≤ c
    · obtain ⟨k', a1, a2, a3, a4⟩ := ih (by omega) (by
        intro b hb'
        rw [List.drop_eq_getElem_cons hkl] at hb'
        rcases List.mem_cons.mp hb' with rfl | h
        · rw [List.getElem?_eq_getElem hkl] at c1
          rw [Option.some.inj c1]
          exact hlt
        · exact hb b h)
      refine ⟨k', by omega, a2, a3, fun u Q => ?_⟩
      rw [x154_10]
      simp (disch := first | assumption | omega | exact notL_I | exact notL_N | exact notL_R | exact catS_le (Nat.le_of_ble_eq_true rfl) | exact Nat.le_of_ble_eq_true rfl | exact ooRo (by assumption) | exact ooAt (by assumption) | exact ooRu (by assumption) | exact ooLo (by assumption) | exact ooHa (by assumption) | exact ooLe (by assumption) | exact ooFn | exact ooAn | exact ooPa | exact ooTo | exact ooWa | exact ooCh | rfl) only [x154_0, x154_1, x154_4, x154_5, x154_6, x154_9, x154_11, x154_14, x154_15, x154_18, x154_19, x154_20, x154_21, x154_22, x154_23, x154_26, x154_27, x154_28, x154_29, x154_30, x154_33, x154_37, x154_38, x154_41, x154_44, x154_45, x154_48, x154_49, x154_50, x154_51, x154_54, x154_55, x154_58, x154_59, x154_60, x154_61, x154_64, x154_65, x154_68, x154_71, x154_74, x154_75, x154_76, x154_79, x154_80, x154_81, x154_84, x154_85, x154_86, x154_87, x154_88, x154_91, x154_92, x154_93, x154_96, x154_97, x154_100, x154_101, x154_102, x154_103, x154_104I, x154_104, x154_105, x154_108, x154_109, x154_110, x154_113, gAn_codes, RAn_codes, ek, ek2, c3, if_pos, if_neg, ↓reduceIte, not_true_eq_false, not_false_eq_true]
      exact a4 u Q
    · refine ⟨k + 1, Nat.le_refl _, hb, Or.inr ⟨c, by rw [Nat.add_sub_cancel]; exact c1, by omega⟩, fun u Q => ?_⟩
      rw [x154_10]
      simp (disch := first | assumption | omega | exact notL_I | exact notL_N | exact notL_R | exact catS_le (Nat.le_of_ble_eq_true rfl) | exact Nat.le_of_ble_eq_true rfl | exact ooRo (by assumption) | exact ooAt (by assumption) | exact ooRu (by assumption) | exact ooLo (by assumption) | exact ooHa (by assumption) | exact ooLe (by assumption) | exact ooFn | exact ooAn | exact ooPa | exact ooTo | exact ooWa | exact ooCh | rfl) only [x154_0, x154_1, x154_4, x154_5, x154_6, x154_9, x154_11, x154_14, x154_15, x154_18, x154_19, x154_20, x154_21, x154_22, x154_23, x154_26, x154_27, x154_28, x154_29, x154_30, x154_33, x154_37, x154_38, x154_41, x154_44, x154_45, x154_48, x154_49, x154_50, x154_51, x154_54, x154_55, x154_58, x154_59, x154_60, x154_61, x154_64, x154_65, x154_68, x154_71, x154_74, x154_75, x154_76, x154_79, x154_80, x154_81, x154_84, x154_85, x154_86, x154_87, x154_88, x154_91, x154_92, x154_93, x154_96, x154_97, x154_100, x154_101, x154_102, x154_103, x154_104I, x154_104, x154_105, x154_108, x154_109, x154_110, x154_113, gAn_codes, RAn_codes, ek, c3, if_pos, if_neg, ↓reduceIte, not_true_eq_false, not_false_eq_true]
theorem s_insC {l : List Int} {σ : St} {d : Nat} {e : Int} (H : CdI l σ) (hl : l.length < 1600) (he : 0 ≤ e ∧ e < 1000000) :
    ∃ τ, (∀ c, c ≠ 119 → c ≠ 120 → τ c = σ c) ∧ τ 119 1 = σ 119 1 ∧ CdI (insC l e) τ ∧ RnA sc d 154 0 [some (vR 119), some (vI e), none, none] σ none τ := by
  obtain ⟨k', p1, p2, p3, p4⟩ := l_insC (sc := sc) (d := d) H (by omega) he l.length (Nat.le_refl _) (fun b hb => by rw [List.drop_length] at hb; cases hb)
  obtain ⟨H1, H2, H3, H4⟩ := H
  have ent : ∀ (u : Bool × Nat × Nat × Int) (Q : Rs → HS → Prop), Ex sc d 154 0 [some (vR 119), some (vI e), none, none] [] (wH σ u) Q ↔ Ex sc d 154 36 [some (vR 119), some (vI e), some (vI ((k' : Int))), some (vI ((k' : Int)))] [] (wH σ u) Q := by
    intro u Q
    rw [← p4 u Q]
    simp (disch := first | assumption | omega | exact notL_I | exact notL_N | exact notL_R | exact catS_le (Nat.le_of_ble_eq_true rfl) | exact Nat.le_of_ble_eq_true rfl | exact ooRo (by assumption) | exact ooAt (by assumption) | exact ooRu (by assumption) | exact ooLo (by assumption) | exact ooHa (by assumption) | exact ooLe (by assumption) | exact ooFn | exact ooAn | exact ooPa | exact ooTo | exact ooWa | exact ooCh | rfl) only [x154_0, x154_1, x154_4, x154_5, x154_6, x154_9, x154_11, x154_14, x154_15, x154_18, x154_19, x154_20, x154_21, x154_22, x154_23, x154_26, x154_27, x154_28, x154_29, x154_30, x154_33, x154_37, x154_38, x154_41, x154_44, x154_45, x154_48, x154_49, x154_50, x154_51, x154_54, x154_55, x154_58, x154_59, x154_60, x154_61, x154_64, x154_65, x154_68, x154_71, x154_74, x154_75, x154_76, x154_79, x154_80, x154_81, x154_84, x154_85, x154_86, x154_87, x154_88, x154_91, x154_92, x154_93, x154_96, x154_97, x154_100, x154_101, x154_102, x154_103, x154_104I, x154_104, x154_105, x154_108, x154_109, x154_110, x154_113, gAn_count, H1, if_pos, if_neg, ↓reduceIte, not_true_eq_false, not_false_eq_true]
  have htk : ∀ a ∈ l.take k', a < e := by
    rcases p3 with p3 | ⟨c, c1, c2⟩
    · subst p3
      intro a ha
      rw [List.take_zero] at ha
      cases ha
    · by_cases hk1 : 1 ≤ k'
      · have := take_lt H3 c1 c2
        rw [Nat.sub_add_cancel hk1] at this
        exact this
      · obtain rfl : k' = 0 := by omega
        intro a ha
        rw [List.take_zero] at ha
        cases ha
  by_cases hm : e ∈ l
  · rw [ins_r2 l H3 hm]
    -- it is the one there
    obtain ⟨i, hi, ei⟩ := List.mem_iff_getElem.mp hm
    have hik : k' ≤ i := by
      by_cases c : k' ≤ i
      · exact c
      · exfalso
        have : l[i] ∈ l.take k' := by
          rw [List.mem_iff_getElem?]
          exact ⟨i, by rw [List.getElem?_take_of_lt (by omega)]; exact List.getElem?_eq_getElem hi⟩
        have := htk _ this
        omega
    have hkl : k' < l.length := by omega
    have hke : l[k'] = e := by
      by_cases c : i = k'
      · subst c
        exact ei
      · have a := srtC_lt H3 (List.getElem?_eq_getElem hkl) (List.getElem?_eq_getElem hi) (by omega)
        have b := p2 l[k'] (by rw [List.drop_eq_getElem_cons hkl]; exact List.mem_cons_self)
        omega
    have c3 := H2 k' _ (List.getElem?_eq_getElem hkl)
    rw [hke] at c3
    refine ⟨σ, fun _ _ _ => rfl, rfl, ⟨H1, H2, H3, H4⟩, fun u Q => ?_⟩
    rw [ent u Q, x154_36]
    simp (disch := first | assumption | omega | exact notL_I | exact notL_N | exact notL_R | exact catS_le (Nat.le_of_ble_eq_true rfl) | exact Nat.le_of_ble_eq_true rfl | exact ooRo (by assumption) | exact ooAt (by assumption) | exact ooRu (by assumption) | exact ooLo (by assumption) | exact ooHa (by assumption) | exact ooLe (by assumption) | exact ooFn | exact ooAn | exact ooPa | exact ooTo | exact ooWa | exact ooCh | rfl) only [x154_0, x154_1, x154_4, x154_5, x154_6, x154_9, x154_11, x154_14, x154_15, x154_18, x154_19, x154_20, x154_21, x154_22, x154_23, x154_26, x154_27, x154_28, x154_29, x154_30, x154_33, x154_37, x154_38, x154_41, x154_44, x154_45, x154_48, x154_49, x154_50, x154_51, x154_54, x154_55, x154_58, x154_59, x154_60, x154_61, x154_64, x154_65, x154_68, x154_71, x154_74, x154_75, x154_76, x154_79, x154_80, x154_81, x154_84, x154_85, x154_86, x154_87, x154_88, x154_91, x154_92, x154_93, x154_96, x154_97, x154_100, x154_101, x154_102, x154_103, x154_104I, x154_104, x154_105, x154_108, x154_109, x154_110, x154_113, gAn_count, gAn_codes, RAn_codes, H1, c3, if_pos, if_neg, ↓reduceIte, not_true_eq_false, not_false_eq_true]
  · have hgt : ∀ b ∈ l.drop k', e < b := fun b hb => by
      have := p2 b hb
      have : b ≠ e := fun z => hm (by rw [← z]; exact List.mem_of_mem_drop hb)
      omega
    have ei := ins_r1 hgt htk
    have hlen : (insC l e).length = l.length + 1 := by
      rw [ei, List.length_append, List.length_cons, List.length_take, List.length_drop]
      omega
    refine ⟨su (su (scp σ 120 (k' : Int) 120 ((k' : Int) + 1) ((l.length : Int) - k')) 120 (k' : Int) e) 119 0 ((l.length : Int) + 1), fun c a b => by rw [su_ne a, su_ne b, scp_ne b], by rw [su_off (by omega), su_ne (by omega), scp_ne (by omega)], ⟨by rw [su_eq, hlen]; omega, fun i c hc => ?_, ins_srt l H3, fun c hc => ?_⟩, fun u Q => ?_⟩
    · rw [ei] at hc
      rw [su_ne (by omega)]
      have hlk : (l.take k').length = k' := by rw [List.length_take]; omega
      by_cases h1 : i < k'
      · rw [List.getElem?_append_left (by omega), List.getElem?_take_of_lt h1] at hc
        rw [su_off (by omega), scp_at, if_neg (by omega)]
        exact H2 i c hc
      · rw [List.getElem?_append_right (by omega), hlk] at hc
        by_cases h2 : i = k'
        · subst h2
          rw [Nat.sub_self, List.getElem?_cons_zero] at hc
          rw [su_eq]
          exact Option.some.inj hc
        · rw [show i - k' = (i - k' - 1) + 1 by omega, List.getElem?_cons_succ, List.getElem?_drop] at hc
          have hb := (List.getElem?_eq_some_iff.mp hc).1
          have := H2 _ c hc
          rw [su_off (by omega), scp_at, if_pos (by omega), ← this]
          congr 1
          omega
    · rcases ins_mem l hc with rfl | hc
      · exact he
      · exact H4 c hc
    · rw [ent u Q, x154_36]
      have cpy := fun (f : HS → Prop) (u : Bool × Nat × Nat × Int) => Cp_w (σ := σ) (u := u) (f := f) (a := 120) (b := 120) (sp := (k' : Int)) (dp := (k' : Int) + 1) (n := (l.length : Int) - k') sAn_codes.1 sAn_codes.1 sAn_codes.2 sAn_codes.2 (by decide) (by decide) (by omega) (by omega) (by omega) (by omega) (by omega)
      have s0 : scp σ 120 (k' : Int) 120 ((k' : Int) + 1) ((l.length : Int) - k') 119 0 = (l.length : Int) := by rw [scp_ne (by omega)]; exact H1
      by_cases hkl : k' < l.length
      · have c3 := H2 k' _ (List.getElem?_eq_getElem hkl)
        have cr := H4 _ (List.getElem_mem hkl)
        have hne : l[k'] ≠ e := fun z => hm (by rw [← z]; exact List.getElem_mem hkl)
        generalize l[k'] = c at *
        simp (disch := first | assumption | omega | exact notL_I | exact notL_N | exact notL_R | exact catS_le (Nat.le_of_ble_eq_true rfl) | exact Nat.le_of_ble_eq_true rfl | exact ooRo (by assumption) | exact ooAt (by assumption) | exact ooRu (by assumption) | exact ooLo (by assumption) | exact ooHa (by assumption) | exact ooLe (by assumption) | exact ooFn | exact ooAn | exact ooPa | exact ooTo | exact ooWa | exact ooCh | rfl) only [x154_0, x154_1, x154_4, x154_5, x154_6, x154_9, x154_11, x154_14, x154_15, x154_18, x154_19, x154_20, x154_21, x154_22, x154_23, x154_26, x154_27, x154_28, x154_29, x154_30, x154_33, x154_37, x154_38, x154_41, x154_44, x154_45, x154_48, x154_49, x154_50, x154_51, x154_54, x154_55, x154_58, x154_59, x154_60, x154_61, x154_64, x154_65, x154_68, x154_71, x154_74, x154_75, x154_76, x154_79, x154_80, x154_81, x154_84, x154_85, x154_86, x154_87, x154_88, x154_91, x154_92, x154_93, x154_96, x154_97, x154_100, x154_101, x154_102, x154_103, x154_104I, x154_104, x154_105, x154_108, x154_109, x154_110, x154_113, gAn_count, gAn_codes, RAn_codes, WAn_codes, pAn_count, H1, c3, cpy, s0, su_ne, if_pos, if_neg, ↓reduceIte, not_true_eq_false, not_false_eq_true]
      · simp (disch := first | assumption | omega | exact notL_I | exact notL_N | exact notL_R | exact catS_le (Nat.le_of_ble_eq_true rfl) | exact Nat.le_of_ble_eq_true rfl | exact ooRo (by assumption) | exact ooAt (by assumption) | exact ooRu (by assumption) | exact ooLo (by assumption) | exact ooHa (by assumption) | exact ooLe (by assumption) | exact ooFn | exact ooAn | exact ooPa | exact ooTo | exact ooWa | exact ooCh | rfl) only [x154_0, x154_1, x154_4, x154_5, x154_6, x154_9, x154_11, x154_14, x154_15, x154_18, x154_19, x154_20, x154_21, x154_22, x154_23, x154_26, x154_27, x154_28, x154_29, x154_30, x154_33, x154_37, x154_38, x154_41, x154_44, x154_45, x154_48, x154_49, x154_50, x154_51, x154_54, x154_55, x154_58, x154_59, x154_60, x154_61, x154_64, x154_65, x154_68, x154_71, x154_74, x154_75, x154_76, x154_79, x154_80, x154_81, x154_84, x154_85, x154_86, x154_87, x154_88, x154_91, x154_92, x154_93, x154_96, x154_97, x154_100, x154_101, x154_102, x154_103, x154_104I, x154_104, x154_105, x154_108, x154_109, x154_110, x154_113, gAn_count, gAn_codes, RAn_codes, WAn_codes, pAn_count, H1, cpy, s0, su_ne, if_pos, if_neg, ↓reduceIte, not_true_eq_false, not_false_eq_true]
end Y1
