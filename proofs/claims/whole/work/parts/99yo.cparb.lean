/-! the class reads: a question -/
/-- what changes while asked letters are read -/
def FzA (σ τ : St) : Prop := (∀ c, c ≠ 87 → c ≠ 88 → c ≠ 89 → c ≠ 93 → τ c = σ c) ∧ ∀ j, j ≠ 0 → j ≠ 1 → j ≠ 3 → τ 87 j = σ 87 j
theorem FzA.refl {σ : St} : FzA σ σ := ⟨fun _ _ _ _ _ => rfl, fun _ _ _ _ => rfl⟩
theorem FzA.trans {σ τ ρ : St} (h1 : FzA σ τ) (h2 : FzA τ ρ) : FzA σ ρ := ⟨fun c a b e z => (h2.1 c a b e z).trans (h1.1 c a b e z), fun j a b e => (h2.2 j a b e).trans (h1.2 j a b e)⟩
theorem Fzc.a {σ τ : St} (h : Fzc σ τ) : FzA σ τ := ⟨fun c a _ b e => h.1 c a b e, fun j a b _ => h.2 j a b⟩
/-- what changes while a question is read -/
def FzQ (σ τ : St) : Prop := (∀ c, c ≠ 87 → c ≠ 88 → c ≠ 89 → c ≠ 93 → (c < 95 ∨ 98 ≤ c) → τ c = σ c) ∧ ∀ j, j ≠ 0 → j ≠ 1 → j ≠ 3 → τ 87 j = σ 87 j
theorem FzQ.trans {σ τ ρ : St} (h1 : FzQ σ τ) (h2 : FzQ τ ρ) : FzQ σ ρ := ⟨fun c a b e z y => (h2.1 c a b e z y).trans (h1.1 c a b e z y), fun j a b e => (h2.2 j a b e).trans (h1.2 j a b e)⟩
theorem FzA.q {σ τ : St} (h : FzA σ τ) : FzQ σ τ := ⟨fun c a b e z _ => h.1 c a b e z, h.2⟩
theorem FzB.q {σ τ : St} (h : FzB 95 3 σ τ) : FzQ σ τ := ⟨fun c a _ b e z => h.1 c a b e z, fun j a b _ => h.2 j a b⟩
section H11
variable {sc : Scr} {d : Nat} {f : Int → Int} {n : Int}
set_option maxHeartbeats 1000000 in
theorem l_askC {as : List At} (hd : 3 ≤ d) : ∀ (k i : Nat) (acc : List Int) (s : Ps) (σ : St), i + k = 4 → acc.length = i → i ≤ 3 → PzC f n s σ → AsI acc σ → WfAt σ 95 → asC σ 95 = as →
    (∃ A s' τ, askP (nxT f n) as k i acc s = .inr (A, s') ∧ FzA σ τ ∧ PzC f n s' τ ∧ AsI A τ ∧ ∀ (u : Bool × Nat × Nat × Int) (Q : Rs → HS → Prop) (l3 : Option V), notL l3 = true → (Ex sc d 150 7 [some (vR 87), some (vR 95), some (vI ((i : Int))), l3] [] (wH σ u) Q ↔ Q (.inl (some (vI (1)))) (wH τ u))) ∨
    (∃ e τ, askP (nxT f n) as k i acc s = .inl e ∧ FzA σ τ ∧ BdC τ e ∧ ∀ (u : Bool × Nat × Nat × Int) (Q : Rs → HS → Prop) (l3 : Option V), notL l3 = true → (Ex sc d 150 7 [some (vR 87), some (vR 95), some (vI ((i : Int))), l3] [] (wH σ u) Q ↔ Q (.inl (some (vI (0)))) (wH τ u))) := by
  have oa : oAt 95 := oRu_94.ahead
  intro k
  induction k with
  | zero => intro i acc s σ h1 h2 h3; omega
  | succ k ih =>
    intro i acc s σ hik hal hi3 H A W hA
    have kd := fun u Q => s_kind (sc := sc) (d := d - 1) (u := u) (Q := Q) H
    have va := fun u Q => s_value (sc := sc) (d := d - 1) (u := u) (Q := Q) H
    have rf := fun k u Q => s_refuse (sc := sc) (d := d - 1) (k := k) (u := u) (Q := Q) (by omega) H
    have ki := kd_iff H.ok.1
    have kb := ki.1
    have k7 := ki.2.2.2.2.2.2.2.1
    have vv := vl_v H.ok.1
    rw [askP]
    by_cases hv : isVr s
    · rw [if_pos hv]
      have hv' : 200 ≤ s.1 ∧ s.1 ≤ 225 := hv
      rw [k7.mpr hv'] at kd
      rw [vv.2.1 hv'] at va
      by_cases h3 : (i : Int) = 3
      · rw [if_pos h3]
        refine Or.inr ⟨_, _, rfl, rf_v.1.a, rf_v.2, fun u Q l3 n3 => ?_⟩
        rw [x150_7]
        simp (disch := first | assumption | omega | exact notL_I | exact notL_N | exact notL_R | exact catS_le (Nat.le_of_ble_eq_true rfl) | exact Nat.le_of_ble_eq_true rfl | exact ooRo (by assumption) | exact ooAt (by assumption) | exact ooRu (by assumption) | exact ooLo (by assumption) | exact ooHa (by assumption) | exact ooLe (by assumption) | exact ooFn | exact ooAn | exact ooPa | exact ooTo | exact ooWa | exact ooCh | rfl) only [x150_0, x150_1, x150_2, x150_5, x150_6, x150_8, x150_9, x150_12, x150_13, x150_16, x150_19, x150_21, x150_24, x150_25, x150_26, x150_29, x150_30, x150_31, x150_32, x150_35, x150_36, x150_37, x150_40, x150_41, x150_44, x150_45, x150_48, x150_51, x150_52, x150_53, x150_54, x150_55, x150_58, x150_61, x150_62, x150_63, x150_66, x150_67, x150_68, x150_71, x150_72, x150_73, x150_74, x150_75, x150_76, x150_77, x150_78, x150_81, x150_82, x150_85, x150_88, x150_89, x150_92, x150_95, x150_97, x150_100, x150_101, x150_102, x150_103, x150_106, x150_109, x150_112, x150_115, x150_116, x150_117, x150_120, gPa_tokens, kd, rf, Kc_some, if_pos, if_neg, ↓reduceIte, not_true_eq_false, not_false_eq_true]
      · rw [if_neg h3]
        have me := fun u Q => s_mentA (sc := sc) (σ := σ) (d := d - 1) (u := u) (Q := Q) (a := 95) (v := 2000 + (s.1 - 200)) oa ⟨by omega, by omega⟩ W
        rw [hA] at me
        cases hm : mentL as (2000 + (s.1 - 200)) with
        | false =>
          rw [if_neg (by simp)]
          rw [hm, bI_f] at me
          refine Or.inr ⟨_, _, rfl, rf_v.1.a, rf_v.2, fun u Q l3 n3 => ?_⟩
          rw [x150_7]
          simp (disch := first | assumption | omega | exact notL_I | exact notL_N | exact notL_R | exact catS_le (Nat.le_of_ble_eq_true rfl) | exact Nat.le_of_ble_eq_true rfl | exact ooRo (by assumption) | exact ooAt (by assumption) | exact ooRu (by assumption) | exact ooLo (by assumption) | exact ooHa (by assumption) | exact ooLe (by assumption) | exact ooFn | exact ooAn | exact ooPa | exact ooTo | exact ooWa | exact ooCh | rfl) only [x150_0, x150_1, x150_2, x150_5, x150_6, x150_8, x150_9, x150_12, x150_13, x150_16, x150_19, x150_21, x150_24, x150_25, x150_26, x150_29, x150_30, x150_31, x150_32, x150_35, x150_36, x150_37, x150_40, x150_41, x150_44, x150_45, x150_48, x150_51, x150_52, x150_53, x150_54, x150_55, x150_58, x150_61, x150_62, x150_63, x150_66, x150_67, x150_68, x150_71, x150_72, x150_73, x150_74, x150_75, x150_76, x150_77, x150_78, x150_81, x150_82, x150_85, x150_88, x150_89, x150_92, x150_95, x150_97, x150_100, x150_101, x150_102, x150_103, x150_106, x150_109, x150_112, x150_115, x150_116, x150_117, x150_120, gPa_tokens, kd, va, me, rf, Kc_some, if_pos, if_neg, ↓reduceIte, not_true_eq_false, not_false_eq_true]
        | true =>
          rw [if_pos rfl]
          rw [hm, bI_t] at me
          have F1 : FzA σ (su (su σ 88 i (2000 + (s.1 - 200))) 87 3 (i + 1)) := ⟨fun c a b _ _ => by rw [su_ne a, su_ne b], fun j _ _ e => by rw [su_off e, su_ne (by omega)]⟩
          have P1 : PzC f n s (su (su σ 88 i (2000 + (s.1 - 200))) 87 3 (i + 1)) := H.fr (by rw [su_ne (by omega), su_ne (by omega)]) (by rw [su_ne (by omega), su_ne (by omega)]) (by rw [su_ne (by omega), su_ne (by omega)]) (by rw [su_ne (by omega), su_ne (by omega)]) (by rw [su_off (by omega), su_ne (by omega)]) (by rw [su_off (by omega), su_ne (by omega)])
          have A1 : AsI (acc ++ [s.1 - 200]) (su (su σ 88 i (2000 + (s.1 - 200))) 87 3 (i + 1)) := by
            obtain ⟨b1, b2, b3⟩ := A
            refine ⟨by rw [List.length_append, List.length_singleton]; omega, by rw [su_eq, List.length_append, List.length_singleton]; omega, fun j v hj => ?_⟩
            rw [su_ne (by omega), su_at]
            rw [List.getElem?_append] at hj
            by_cases hjl : j < acc.length
            · rw [if_pos hjl] at hj
              rw [if_neg (by omega)]
              exact b3 j v hj
            · rw [if_neg hjl] at hj
              have hl := (List.getElem?_eq_some_iff.mp hj).1
              rw [List.length_singleton] at hl
              have ej : j = i := by omega
              subst ej
              rw [hal, Nat.sub_self] at hj
              have ev : s.1 - 200 = v := Option.some.inj hj
              rw [if_pos rfl]
              omega
          have W1 := W.eq (τ := su (su σ 88 i (2000 + (s.1 - 200))) 87 3 (i + 1)) (fun c x y => by rw [su_ne (by omega), su_ne (by omega)])
          rw [hA] at W1
          have st : ∀ (u : Bool × Nat × Nat × Int) (Q : Rs → HS → Prop) (l3 : Option V), notL l3 = true → (Ex sc d 150 7 [some (vR 87), some (vR 95), some (vI ((i : Int))), l3] [] (wH σ u) Q ↔ Ex sc d 150 81 [some (vR 87), some (vR 95), some (vI ((i : Int))), some (vI (2000 + (s.1 - 200)))] [] (wH (su (su σ 88 i (2000 + (s.1 - 200))) 87 3 (i + 1)) u) Q) := by
            intro u Q l3 n3
            rw [x150_7]
            simp (disch := first | assumption | omega | exact notL_I | exact notL_N | exact notL_R | exact catS_le (Nat.le_of_ble_eq_true rfl) | exact Nat.le_of_ble_eq_true rfl | exact ooRo (by assumption) | exact ooAt (by assumption) | exact ooRu (by assumption) | exact ooLo (by assumption) | exact ooHa (by assumption) | exact ooLe (by assumption) | exact ooFn | exact ooAn | exact ooPa | exact ooTo | exact ooWa | exact ooCh | rfl) only [x150_0, x150_1, x150_2, x150_5, x150_6, x150_8, x150_9, x150_12, x150_13, x150_16, x150_19, x150_21, x150_24, x150_25, x150_26, x150_29, x150_30, x150_31, x150_32, x150_35, x150_36, x150_37, x150_40, x150_41, x150_44, x150_45, x150_48, x150_51, x150_52, x150_53, x150_54, x150_55, x150_58, x150_61, x150_62, x150_63, x150_66, x150_67, x150_68, x150_71, x150_72, x150_73, x150_74, x150_75, x150_76, x150_77, x150_78, x150_82, x150_85, x150_88, x150_89, x150_92, x150_95, x150_97, x150_100, x150_101, x150_102, x150_103, x150_106, x150_109, x150_112, x150_115, x150_116, x150_117, x150_120, gPa_tokens, kd, va, me, gPa_asked, WPa_asked, pPa_askedCount, Kc_some, if_pos, if_neg, ↓reduceIte, not_true_eq_false, not_false_eq_true]
          generalize su (su σ 88 i (2000 + (s.1 - 200))) 87 3 ((i : Int) + 1) = X at *
          obtain ⟨Y, y1, y2, y3⟩ := s_takeT (sc := sc) (d := d - 1) P1
          unfold RnA at y3
          have A2 : AsI (acc ++ [s.1 - 200]) Y := by
            unfold AsI
            rw [y1 87 (by omega), y1 88 (by omega)]
            exact A1
          have W2 := W1.1.eq (τ := Y) (fun c x y => y1 c (by omega))
          have F2 : FzA σ Y := F1.trans (Fzc.o89 y1).a
          have kd2 := fun u Q => s_kind (sc := sc) (d := d - 1) (u := u) (Q := Q) y2
          have ki2 := kd_iff y2.ok.1
          have kb2 := ki2.1
          have k11 := ki2.2.2.2.2.2.2.2.2.2.2.2.1
          by_cases h544 : (nxT f n s.2.2).1 = 544
          · rw [if_pos h544]
            rw [k11.mpr h544] at kd2
            obtain ⟨Z, z1, z2, z3⟩ := s_takeT (sc := sc) (d := d - 1) y2
            unfold RnA at z3
            have A3 : AsI (acc ++ [s.1 - 200]) Z := by
              unfold AsI
              rw [z1 87 (by omega), z1 88 (by omega)]
              exact A2
            have W3 := W2.1.eq (τ := Z) (fun c x y => z1 c (by omega))
            have F3 : FzA σ Z := F2.trans (Fzc.o89 z1).a
            have go : ∀ (u : Bool × Nat × Nat × Int) (Q : Rs → HS → Prop) (l3 : Option V), notL l3 = true → (Ex sc d 150 7 [some (vR 87), some (vR 95), some (vI ((i : Int))), l3] [] (wH σ u) Q ↔ Ex sc d 150 7 [some (vR 87), some (vR 95), some (vI (((i + 1 : Nat) : Int))), some (vI (2000 + (s.1 - 200)))] [] (wH Z u) Q) := by
              intro u Q l3 n3
              rw [st u Q l3 n3, x150_81, show ((i + 1 : Nat) : Int) = (i : Int) + 1 by omega]
              simp (disch := first | assumption | omega | exact notL_I | exact notL_N | exact notL_R | exact catS_le (Nat.le_of_ble_eq_true rfl) | exact Nat.le_of_ble_eq_true rfl | exact ooRo (by assumption) | exact ooAt (by assumption) | exact ooRu (by assumption) | exact ooLo (by assumption) | exact ooHa (by assumption) | exact ooLe (by assumption) | exact ooFn | exact ooAn | exact ooPa | exact ooTo | exact ooWa | exact ooCh | rfl) only [x150_0, x150_1, x150_2, x150_5, x150_6, x150_8, x150_9, x150_12, x150_13, x150_16, x150_19, x150_21, x150_24, x150_25, x150_26, x150_29, x150_30, x150_31, x150_32, x150_35, x150_36, x150_37, x150_40, x150_41, x150_44, x150_45, x150_48, x150_51, x150_52, x150_53, x150_54, x150_55, x150_58, x150_61, x150_62, x150_63, x150_66, x150_67, x150_68, x150_71, x150_72, x150_73, x150_74, x150_75, x150_76, x150_77, x150_78, x150_82, x150_85, x150_88, x150_89, x150_92, x150_95, x150_97, x150_100, x150_101, x150_102, x150_103, x150_106, x150_109, x150_112, x150_115, x150_116, x150_117, x150_120, gPa_tokens, y3, kd2, z3, Kc_some, Kc_none, if_pos, if_neg, ↓reduceIte, not_true_eq_false, not_false_eq_true]
            rcases ih (i + 1) (acc ++ [s.1 - 200]) _ Z (by omega) (by rw [List.length_append, List.length_singleton]; omega) (by omega) z2 A3 W3.1 (by rw [W3.2, W2.2]; exact W1.2) with ⟨A', s', τ, q1, q2, q3, q4, q5⟩ | ⟨e, τ, q1, q2, q3, q4⟩
            · exact Or.inl ⟨A', s', τ, q1, F3.trans q2, q3, q4, fun u Q l3 n3 => (go u Q l3 n3).trans (q5 u Q _ notL_I)⟩
            · exact Or.inr ⟨e, τ, q1, F3.trans q2, q3, fun u Q l3 n3 => (go u Q l3 n3).trans (q4 u Q _ notL_I)⟩
          · rw [if_neg h544]
            have n11 : kdT (nxT f n s.2.2).1 ≠ 11 := fun z => h544 (k11.mp z)
            refine Or.inl ⟨_, _, Y, rfl, F2, y2, A2, fun u Q l3 n3 => ?_⟩
            rw [st u Q l3 n3, x150_81]
            simp (disch := first | assumption | omega | exact notL_I | exact notL_N | exact notL_R | exact catS_le (Nat.le_of_ble_eq_true rfl) | exact Nat.le_of_ble_eq_true rfl | exact ooRo (by assumption) | exact ooAt (by assumption) | exact ooRu (by assumption) | exact ooLo (by assumption) | exact ooHa (by assumption) | exact ooLe (by assumption) | exact ooFn | exact ooAn | exact ooPa | exact ooTo | exact ooWa | exact ooCh | rfl) only [x150_0, x150_1, x150_2, x150_5, x150_6, x150_8, x150_9, x150_12, x150_13, x150_16, x150_19, x150_21, x150_24, x150_25, x150_26, x150_29, x150_30, x150_31, x150_32, x150_35, x150_36, x150_37, x150_40, x150_41, x150_44, x150_45, x150_48, x150_51, x150_52, x150_53, x150_54, x150_55, x150_58, x150_61, x150_62, x150_63, x150_66, x150_67, x150_68, x150_71, x150_72, x150_73, x150_74, x150_75, x150_76, x150_77, x150_78, x150_82, x150_85, x150_88, x150_89, x150_92, x150_95, x150_97, x150_100, x150_101, x150_102, x150_103, x150_106, x150_109, x150_112, x150_115, x150_116, x150_117, x150_120, gPa_tokens, y3, kd2, Kc_some, Kc_none, if_pos, if_neg, ↓reduceIte, not_true_eq_false, not_false_eq_true]
    · rw [if_neg hv]
      have n7 : kdT s.1 ≠ 7 := fun z => hv (k7.mp z)
      refine Or.inr ⟨_, _, rfl, rf_v.1.a, rf_v.2, fun u Q l3 n3 => ?_⟩
      rw [x150_7]
      simp (disch := first | assumption | omega | exact notL_I | exact notL_N | exact notL_R | exact catS_le (Nat.le_of_ble_eq_true rfl) | exact Nat.le_of_ble_eq_true rfl | exact ooRo (by assumption) | exact ooAt (by assumption) | exact ooRu (by assumption) | exact ooLo (by assumption) | exact ooHa (by assumption) | exact ooLe (by assumption) | exact ooFn | exact ooAn | exact ooPa | exact ooTo | exact ooWa | exact ooCh | rfl) only [x150_0, x150_1, x150_2, x150_5, x150_6, x150_8, x150_9, x150_12, x150_13, x150_16, x150_19, x150_21, x150_24, x150_25, x150_26, x150_29, x150_30, x150_31, x150_32, x150_35, x150_36, x150_37, x150_40, x150_41, x150_44, x150_45, x150_48, x150_51, x150_52, x150_53, x150_54, x150_55, x150_58, x150_61, x150_62, x150_63, x150_66, x150_67, x150_68, x150_71, x150_72, x150_73, x150_74, x150_75, x150_76, x150_77, x150_78, x150_81, x150_82, x150_85, x150_88, x150_89, x150_92, x150_95, x150_97, x150_100, x150_101, x150_102, x150_103, x150_106, x150_109, x150_112, x150_115, x150_116, x150_117, x150_120, gPa_tokens, kd, rf, Kc_some, if_pos, if_neg, ↓reduceIte, not_true_eq_false, not_false_eq_true]
set_option maxHeartbeats 1000000 in
theorem s_questC {b : Nat} {s : Ps} {σ : St} {C : Int → Int} (hd : 5 ≤ d) (ob : oHa b) (fb : far (b + 1) 1) (fab : b + 1 < 95 ∨ 98 ≤ b + 1) (hc : ∀ t, 0 ≤ C t ∧ C t ≤ 3) (hC : coC σ b = C) (H : PzC f n s σ) (W : WfAt σ 95) :
    (∃ as A τ, qstP (nxT f n) C s = .inr (as, A) ∧ FzQ σ τ ∧ WfAt τ 95 ∧ asC τ 95 = as ∧ (1 ≤ as.length ∧ as.length ≤ 2) ∧ AsI A τ ∧ (τ 87 0 = 0 ∧ τ 87 1 = -1) ∧ RnA sc d 149 0 [some (vR 87), some (vR 95), some (vR b)] σ (some (vI 1)) τ) ∨
    (∃ e τ, qstP (nxT f n) C s = .inl e ∧ FzQ σ τ ∧ WfAt τ 95 ∧ BdC τ e ∧ RnA sc d 149 0 [some (vR 87), some (vR 95), some (vR b)] σ (some (vI 0)) τ) := by
  have oa : oAt 95 := oRu_94.ahead
  have fa : far 95 3 := by unfold far; omega
  have fb' := fb
  unfold far at fb'
  have ca := fun u Q => s_clrA (sc := sc) (d := d - 1) (σ := σ) (u := u) (Q := Q) (a := 95) oa
  have F0 : FrB 95 3 σ (su σ 95 0 0) := fun c hc => su_ne (by omega)
  have W0 : WfAt (su σ 95 0 0) 95 := ⟨by rw [su_eq]; omega, by rw [su_ne (by omega)]; exact W.2.1, by rw [su_ne (by omega)]; exact W.2.2⟩
  have wq : ∀ {τ ρ : St}, WfAt τ 95 → Fzc τ ρ → WfAt ρ 95 := fun w h => (w.eq (h.cl fa)).1
  unfold qstP
  rcases s_atoms (sc := sc) (d := d - 1) (b := b) (a := 95) (most := 2) (σ := su σ 95 0 0) (C := C) (by omega) oa ob fa fb (by omega) hc (by omega) su_eq (by rw [coC_eq (su_ne (by omega))]; exact hC) (H.frB F0 fa) W0 with ⟨as, s', τ, c1, c2, c3, c4, c5, c6, c7, c8, c9⟩ | ⟨e, τ, c1, c4, c6, c7, c9⟩
  · have c1' : atmP (nxT f n) C 2 3 0 [] s = .inr (as, s') := c1
    rw [c1', andP_r]
    dsimp only
    have c9' : ∀ (u : Bool × Nat × Nat × Int) (Q : Rs → HS → Prop), Ex sc (d - 1) 62 0 [some (vR 87), some (vR 95), some (vR b), some (vI 2), none, none] [] (wH (su σ 95 0 0) u) Q ↔ Q (.inl (some (vI 1))) (wH τ u) := c9
    have F1 : FzQ σ τ := (F0.z fa).q.trans c4.q
    have k15 := (kd_iff c5.ok.1).2.2.2.2.2.2.2.2.2.2.2.2.2.2.2
    rcases s_sign (sc := sc) (d := d - 1) (by omega) c5 k15 (by omega) with ⟨h6, ρ, b1, b2, b3⟩ | ⟨h6, b3⟩
    · rw [if_pos h6]
      unfold RnA at b3
      have W2 := c6.eq (τ := ρ) (fun c x y => b1 c (by omega))
      have F2 : FzQ σ ρ := F1.trans (Fzc.o89 b1).a.q
      -- the letters
      have F3 : FzA ρ (su ρ 87 3 0) := ⟨fun c a _ _ _ => su_ne a, fun j _ _ e => su_off e⟩
      have P3 : PzC f n (nxT f n s'.2.2) (su ρ 87 3 0) := b2.fr (su_ne (by omega)) (su_ne (by omega)) (su_ne (by omega)) (su_ne (by omega)) (su_off (by omega)) (su_off (by omega))
      have W3 := W2.1.eq (τ := su ρ 87 3 0) (fun c x y => su_ne (by omega))
      have la := l_askC (sc := sc) (d := d - 1) (f := f) (n := n) (as := as) (by omega) 4 0 [] _ (su ρ 87 3 0) (by omega) rfl (by omega) P3 ⟨Nat.zero_le _, su_eq, fun k v h => by cases h⟩ W3.1 (by rw [W3.2, W2.2]; exact c7)
      rw [Int.natCast_zero] at la
      have ra : ∀ (u : Bool × Nat × Nat × Int) (Q : Rs → HS → Prop), Ex sc (d - 1) 150 0 [some (vR 87), some (vR 95), none, none] [] (wH ρ u) Q ↔ Ex sc (d - 1) 150 7 [some (vR 87), some (vR 95), some (vI 0), none] [] (wH (su ρ 87 3 0) u) Q := by
        intro u Q
        simp (disch := first | assumption | omega | exact notL_I | exact notL_N | exact notL_R | exact catS_le (Nat.le_of_ble_eq_true rfl) | exact Nat.le_of_ble_eq_true rfl | exact ooRo (by assumption) | exact ooAt (by assumption) | exact ooRu (by assumption) | exact ooLo (by assumption) | exact ooHa (by assumption) | exact ooLe (by assumption) | exact ooFn | exact ooAn | exact ooPa | exact ooTo | exact ooWa | exact ooCh | rfl) only [x150_0, x150_1, x150_2, x150_5, x150_6, x150_8, x150_9, x150_12, x150_13, x150_16, x150_19, x150_21, x150_24, x150_25, x150_26, x150_29, x150_30, x150_31, x150_32, x150_35, x150_36, x150_37, x150_40, x150_41, x150_44, x150_45, x150_48, x150_51, x150_52, x150_53, x150_54, x150_55, x150_58, x150_61, x150_62, x150_63, x150_66, x150_67, x150_68, x150_71, x150_72, x150_73, x150_74, x150_75, x150_76, x150_77, x150_78, x150_81, x150_82, x150_85, x150_88, x150_89, x150_92, x150_95, x150_97, x150_100, x150_101, x150_102, x150_103, x150_106, x150_109, x150_112, x150_115, x150_116, x150_117, x150_120, pPa_askedCount]
      have wa : ∀ {τ2 : St}, FzA (su ρ 87 3 0) τ2 → WfAt τ2 95 ∧ asC τ2 95 = as := fun h => by
        have := W3.1.eq (τ := _) (fun c x y => h.1 c (by omega) (by omega) (by omega) (by omega))
        exact ⟨this.1, by rw [this.2, W3.2, W2.2]; exact c7⟩
      rcases la with ⟨A, s2, X, q1, q2, q3, q4, q5⟩ | ⟨e, X, q1, q2, q3, q4⟩
      · rw [q1, andP_r]
        dsimp only
        have q6 := fun u Q => (ra u Q).trans (q5 u Q none notL_N)
        have WX := wa q2
        have FX : FzQ σ X := (F2.trans F3.q).trans q2.q
        have k12 := (kd_iff q3.ok.1).2.2.2.2.2.2.2.2.2.2.2.2.1
        rcases s_sgnP (sc := sc) (d := d - 1) (c := 59) (by omega) q3 k12 (by omega) with ⟨h59, Y, m1, m2, m3⟩ | ⟨h59, m3⟩
        · rw [h59, andP_r]
          unfold RnA at m3
          have FY : FzQ σ Y := FX.trans (Fzc.o89 m1).a.q
          have WY := WX.1.eq (τ := Y) (fun c x y => m1 c (by omega))
          have AY : AsI A Y := by
            unfold AsI
            rw [m1 87 (by omega), m1 88 (by omega)]
            exact q4
          have ae := s_atEnd (sc := sc) (d := d - 1) (by omega) m2
          by_cases h0 : (nxT f n s2.2.2).1 = 0
          · rw [if_pos h0]
            have z := ae.1 h0
            unfold RnA at z
            refine Or.inl ⟨as, A, Y, rfl, FY, WY.1, WY.2.trans WX.2, ⟨c2, c3⟩, AY, m2.2.2.2, fun u Q => ?_⟩
            simp (disch := first | assumption | omega | exact notL_I | exact notL_N | exact notL_R | exact catS_le (Nat.le_of_ble_eq_true rfl) | exact Nat.le_of_ble_eq_true rfl | exact ooRo (by assumption) | exact ooAt (by assumption) | exact ooRu (by assumption) | exact ooLo (by assumption) | exact ooHa (by assumption) | exact ooLe (by assumption) | exact ooFn | exact ooAn | exact ooPa | exact ooTo | exact ooWa | exact ooCh | rfl) only [x149_0, x149_1, x149_4, x149_5, x149_6, x149_7, x149_8, x149_11, x149_14, x149_15, x149_17, x149_20, x149_23, x149_24, x149_25, x149_28, x149_31, x149_32, x149_34, x149_37, x149_40, x149_41, x149_44, x149_47, x149_48, x149_51, x149_52, ca, c9', b3, q6, m3, z, Kc_some, Kc_none, if_pos, if_neg, ↓reduceIte, not_true_eq_false, not_false_eq_true]
          · rw [if_neg h0]
            have z := ae.2 h0
            unfold RnA at z
            refine Or.inr ⟨_, _, rfl, FY.trans rf_v.1.a.q, wq WY.1 rf_v.1, rf_v.2, fun u Q => ?_⟩
            simp (disch := first | assumption | omega | exact notL_I | exact notL_N | exact notL_R | exact catS_le (Nat.le_of_ble_eq_true rfl) | exact Nat.le_of_ble_eq_true rfl | exact ooRo (by assumption) | exact ooAt (by assumption) | exact ooRu (by assumption) | exact ooLo (by assumption) | exact ooHa (by assumption) | exact ooLe (by assumption) | exact ooFn | exact ooAn | exact ooPa | exact ooTo | exact ooWa | exact ooCh | rfl) only [x149_0, x149_1, x149_4, x149_5, x149_6, x149_7, x149_8, x149_11, x149_14, x149_15, x149_17, x149_20, x149_23, x149_24, x149_25, x149_28, x149_31, x149_32, x149_34, x149_37, x149_40, x149_41, x149_44, x149_47, x149_48, x149_51, x149_52, ca, c9', b3, q6, m3, z, Kc_some, Kc_none, if_pos, if_neg, ↓reduceIte, not_true_eq_false, not_false_eq_true]
        · rw [h59, andP_l]
          unfold RnA at m3
          refine Or.inr ⟨_, _, rfl, FX.trans rf_v.1.a.q, wq WX.1 rf_v.1, rf_v.2, fun u Q => ?_⟩
          simp (disch := first | assumption | omega | exact notL_I | exact notL_N | exact notL_R | exact catS_le (Nat.le_of_ble_eq_true rfl) | exact Nat.le_of_ble_eq_true rfl | exact ooRo (by assumption) | exact ooAt (by assumption) | exact ooRu (by assumption) | exact ooLo (by assumption) | exact ooHa (by assumption) | exact ooLe (by assumption) | exact ooFn | exact ooAn | exact ooPa | exact ooTo | exact ooWa | exact ooCh | rfl) only [x149_0, x149_1, x149_4, x149_5, x149_6, x149_7, x149_8, x149_11, x149_14, x149_15, x149_17, x149_20, x149_23, x149_24, x149_25, x149_28, x149_31, x149_32, x149_34, x149_37, x149_40, x149_41, x149_44, x149_47, x149_48, x149_51, x149_52, ca, c9', b3, q6, m3, Kc_some, Kc_none, if_pos, if_neg, ↓reduceIte, not_true_eq_false, not_false_eq_true]
      · rw [q1, andP_l]
        have q6 := fun u Q => (ra u Q).trans (q4 u Q none notL_N)
        refine Or.inr ⟨e, X, rfl, (F2.trans F3.q).trans q2.q, (wa q2).1, q3, fun u Q => ?_⟩
        simp (disch := first | assumption | omega | exact notL_I | exact notL_N | exact notL_R | exact catS_le (Nat.le_of_ble_eq_true rfl) | exact Nat.le_of_ble_eq_true rfl | exact ooRo (by assumption) | exact ooAt (by assumption) | exact ooRu (by assumption) | exact ooLo (by assumption) | exact ooHa (by assumption) | exact ooLe (by assumption) | exact ooFn | exact ooAn | exact ooPa | exact ooTo | exact ooWa | exact ooCh | rfl) only [x149_0, x149_1, x149_4, x149_5, x149_6, x149_7, x149_8, x149_11, x149_14, x149_15, x149_17, x149_20, x149_23, x149_24, x149_25, x149_28, x149_31, x149_32, x149_34, x149_37, x149_40, x149_41, x149_44, x149_47, x149_48, x149_51, x149_52, ca, c9', b3, q6, Kc_some, Kc_none, if_pos, if_neg, ↓reduceIte, not_true_eq_false, not_false_eq_true]
    · rw [if_neg h6]
      unfold RnA at b3
      refine Or.inr ⟨_, _, rfl, F1.trans rf_v.1.a.q, wq c6 rf_v.1, rf_v.2, fun u Q => ?_⟩
      simp (disch := first | assumption | omega | exact notL_I | exact notL_N | exact notL_R | exact catS_le (Nat.le_of_ble_eq_true rfl) | exact Nat.le_of_ble_eq_true rfl | exact ooRo (by assumption) | exact ooAt (by assumption) | exact ooRu (by assumption) | exact ooLo (by assumption) | exact ooHa (by assumption) | exact ooLe (by assumption) | exact ooFn | exact ooAn | exact ooPa | exact ooTo | exact ooWa | exact ooCh | rfl) only [x149_0, x149_1, x149_4, x149_5, x149_6, x149_7, x149_8, x149_11, x149_14, x149_15, x149_17, x149_20, x149_23, x149_24, x149_25, x149_28, x149_31, x149_32, x149_34, x149_37, x149_40, x149_41, x149_44, x149_47, x149_48, x149_51, x149_52, ca, c9', b3, Kc_some, Kc_none, if_pos, if_neg, ↓reduceIte, not_true_eq_false, not_false_eq_true]
  · have c1' : atmP (nxT f n) C 2 3 0 [] s = .inl e := c1
    rw [c1', andP_l]
    have c9' : ∀ (u : Bool × Nat × Nat × Int) (Q : Rs → HS → Prop), Ex sc (d - 1) 62 0 [some (vR 87), some (vR 95), some (vR b), some (vI 2), none, none] [] (wH (su σ 95 0 0) u) Q ↔ Q (.inl (some (vI 0))) (wH τ u) := c9
    refine Or.inr ⟨e, τ, rfl, (F0.z fa).q.trans c4.q, c6, c7, fun u Q => ?_⟩
    simp (disch := first | assumption | omega | exact notL_I | exact notL_N | exact notL_R | exact catS_le (Nat.le_of_ble_eq_true rfl) | exact Nat.le_of_ble_eq_true rfl | exact ooRo (by assumption) | exact ooAt (by assumption) | exact ooRu (by assumption) | exact ooLo (by assumption) | exact ooHa (by assumption) | exact ooLe (by assumption) | exact ooFn | exact ooAn | exact ooPa | exact ooTo | exact ooWa | exact ooCh | rfl) only [x149_0, x149_1, x149_4, x149_5, x149_6, x149_7, x149_8, x149_11, x149_14, x149_15, x149_17, x149_20, x149_23, x149_24, x149_25, x149_28, x149_31, x149_32, x149_34, x149_37, x149_40, x149_41, x149_44, x149_47, x149_48, x149_51, x149_52, ca, c9', Kc_some, Kc_none, if_pos, if_neg, ↓reduceIte, not_true_eq_false, not_false_eq_true]
end H11
