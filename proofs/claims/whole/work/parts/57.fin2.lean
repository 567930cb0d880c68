/-! fits, canStand, isFulfilled of the class's finder -/
theorem oAt_far {a : Nat} (o : oAt a) : a + 2 < 101 ∨ 106 < a := by
  by_cases h : a + 2 < 101 ∨ 106 < a
  · exact h
  · exfalso
    have h1 := congrArg (fun q => (q.1, q.2.1)) o.2.1
    rcases (show a = 99 ∨ a = 100 ∨ a = 101 ∨ a = 102 ∨ a = 103 ∨ a = 104 ∨ a = 105 ∨ a = 106 by omega) with rfl | rfl | rfl | rfl | rfl | rfl | rfl | rfl <;> exact absurd h1 (by decide)
theorem oRo_far {a : Nat} (o : oRo a) : a + 4 < 101 ∨ 106 < a := by
  by_cases h : a + 4 < 101 ∨ 106 < a
  · exact h
  · exfalso
    have h1 := congrArg (fun q => (q.1, q.2.1)) o.2.1
    rcases (show a = 97 ∨ a = 98 ∨ a = 99 ∨ a = 100 ∨ a = 101 ∨ a = 102 ∨ a = 103 ∨ a = 104 ∨ a = 105 ∨ a = 106 by omega) with rfl | rfl | rfl | rfl | rfl | rfl | rfl | rfl | rfl | rfl <;> exact absurd h1 (by decide)
theorem FnF.at_ {σ τ : St} {a : Nat} (F : FnF σ τ) (o : oAt a) : τ a = σ a ∧ τ (a + 1) = σ (a + 1) ∧ τ (a + 2) = σ (a + 2) := by
  have h := oAt_far o
  exact ⟨F.1 _ (by omega) (by omega) (by omega), F.1 _ (by omega) (by omega) (by omega), F.1 _ (by omega) (by omega) (by omega)⟩
theorem FnF.ro {σ τ : St} {r : Nat} (F : FnF σ τ) (o : oRo r) : ∀ c, r ≤ c → c ≤ r + 4 → τ c = σ c := by
  have h := oRo_far o
  exact fun c c0 c1 => F.1 _ (by omega) (by omega) (by omega)
theorem FnF.as_ {σ τ : St} {a : Nat} (F : FnF σ τ) (o : oAt a) : asC τ a = asC σ a := asC_c (by rw [(F.at_ o).1]) (F.at_ o).2.1 (F.at_ o).2.2
theorem FnF.rs {σ τ : St} {r : Nat} (F : FnF σ τ) (o : oRo r) : rsC τ r = rsC σ r := rsC_c (fun c c0 c1 => F.ro o c c0 (by omega))
theorem FnF.wa {σ τ : St} {a : Nat} (F : FnF σ τ) (o : oAt a) (W : WfAt σ a) : WfAt τ a := W.c (by rw [(F.at_ o).1]) (F.at_ o).2.1 (F.at_ o).2.2
theorem FnF.wr {σ τ : St} {r : Nat} (F : FnF σ τ) (o : oRo r) (W : WfRo σ r) : WfRo τ r := W.c (F.ro o)
/-- rows have terms where atoms of their table have places -/
def fitT (a w : At) : Prop := a.1 = w.1 → (2000 ≤ a.2.1 → w.2.1 ≠ -1) ∧ (2000 ≤ a.2.2.1 → w.2.2.1 ≠ -1) ∧ (2000 ≤ a.2.2.2 → w.2.2.2 ≠ -1)
section F2
variable {sc : Scr}
theorem s_fitsC {d a r : Nat} {σ : St} {i p : Int} {n : Nat} (oa : oAt a) (or : oRo r) (Wa : WfAt σ a) (Wr : WfRo σ r) (i0 : 0 ≤ i) (i1 : i ≤ 2) (p0 : 0 ≤ p) (p1 : p ≤ 39) (hT : fitT (atK σ a i) (rwC σ r p).2) (T : TrF σ n) (hd : 2 ≤ d) :
    ∃ τ n', FnF σ τ ∧ TrF τ n' ∧ n ≤ n' ∧ (∀ k, k ≤ n → bF τ k = bF σ k) ∧ ((∃ β, fitA (bF σ n) (atK σ a i) (rwC σ r p).2 = some β ∧ bF τ n' = β ∧ RnA sc d 101 0 [some (vR 101), some (vR a), some (vI i), some (vR r), some (vI p), none, none, none, none, none] σ (some (vI 1)) τ) ∨ (fitA (bF σ n) (atK σ a i) (rwC σ r p).2 = none ∧ n' = n ∧ RnA sc d 101 0 [some (vR 101), some (vR a), some (vI i), some (vR r), some (vI p), none, none, none, none, none] σ (some (vI 0)) τ)) := by
  have fa := oAt_far oa
  have fr := oRo_far or
  have wt := Wa.2.1 i i0 (by omega)
  have wt2 := (Wr.2.2.1 p p0 (by omega)).2
  by_cases ht : σ (a + 1) i = σ (r + 2) p
  · obtain ⟨t0, t1, t2⟩ := hT ht
    have eA : fitA (bF σ n) (atK σ a i) (rwC σ r p).2 = (fit1 (bF σ n) (σ (a + 2) (i * 3)) (σ (r + 3) (p * 3))).bind fun β => (fit1 β (σ (a + 2) (i * 3 + 1)) (σ (r + 3) (p * 3 + 1))).bind fun β => fit1 β (σ (a + 2) (i * 3 + 2)) (σ (r + 3) (p * 3 + 2)) := if_pos ht
    rw [eA]
    have en : ∀ (u : Bool × Nat × Nat × Int) (Q : Rs → HS → Prop), Ex sc d 101 0 [some (vR 101), some (vR a), some (vI i), some (vR r), some (vI p), none, none, none, none, none] [] (wH σ u) Q ↔ Ex sc d 101 27 [some (vR 101), some (vR a), some (vI i), some (vR r), some (vI p), some (vI ((n : Int))), some (vI 0), none, none, none] [] (wH σ u) Q := by
      intro u Q
      simp (disch := first | assumption | omega | exact notL_I | exact notL_N | exact notL_R | exact catS_le (Nat.le_of_ble_eq_true rfl) | exact ooRo (by assumption) | exact ooAt (by assumption) | exact ooRu (by assumption) | exact ooLo (by assumption) | exact ooHa (by assumption) | exact ooLe (by assumption) | exact ooFn | exact ooAn | exact ooPa | exact ooTo | exact ooWa | exact ooCh | rfl) only [x101_0, x101_1, x101_4, x101_5, x101_6, x101_7, x101_10, x101_12, x101_13, x101_16, x101_17, x101_18, x101_19, x101_22, x101_24, x101_25, x101_29, x101_30, x101_33, x101_34, x101_37, x101_38, x101_39, x101_40, x101_42, x101_43, x101_44, x101_46, x101_47, x101_50, x101_52, x101_53, x101_54, x101_56, x101_57, x101_58, x101_60, x101_61, x101_63, x101_66, x101_68, x101_70, x101_73, x101_76, x101_78, x101_79, x101_82, x101_83, x101_85, x101_88, x101_89, x101_91, x101_94, x101_97, x101_99, x101_101, x101_104, x101_105, x101_107, x101_110, x101_111, x101_112, x101_115, x101_118, x101_119, gAt_table, RAt_table, gRo_table, RRo_table, ht, gFn_trailSize, T.1, if_pos, if_neg, ↓reduceIte, not_true_eq_false, not_false_eq_true]
    have hx := T.2.1.le26
    rcases l_fitC (sc := sc) (d := d) (σ := σ) (i := i) (p := p) (c := 0) (n0 := n) oa or (by omega) i0 i1 p0 p1 (by omega) (by omega) (by rw [Int.add_zero]) (by rw [Int.add_zero]) (Wa.2.2 _ (by omega) (by omega)) (Wr.2.2.2.1 _ (by omega) (by omega)) t0 T (Nat.le_refl _) (by omega) (l7 := none) (l8 := none) (l9 := none) notL_N notL_N with ⟨e1, τ, h1, h2, h3, h4⟩ | ⟨β1, τ1, n1, e1, F1, T1, le1, b1, k1, x1, h1⟩
    · refine ⟨τ, n, h1, h2, Nat.le_refl _, h3, Or.inr ⟨by rw [e1]; rfl, rfl, fun u Q => (en u Q).trans (h4 u Q)⟩⟩
    · have A1 := F1.at_ oa
      have R1 := F1.ro or
      rw [e1, Option.bind_some]
      have hq1 : τ1 (a + 2) = σ (a + 2) := A1.2.2
      have hr1 : τ1 (r + 3) = σ (r + 3) := R1 _ (by omega) (by omega)
      rcases l_fitC (sc := sc) (d := d) (σ := τ1) (i := i) (p := p) (c := 0 + 1) (P := σ (a + 2) (i * 3 + 1)) (t := σ (r + 3) (p * 3 + 1)) (n0 := n) oa or (by omega) i0 i1 p0 p1 (by omega) (by omega) (by rw [hq1]; rfl) (by rw [hr1]; rfl) (Wa.2.2 _ (by omega) (by omega)) (Wr.2.2.2.1 _ (by omega) (by omega)) t1 T1 le1 (by omega) (l7 := some (vI (σ (a + 2) (i * 3)))) (l8 := some (vI (σ (r + 3) (p * 3)))) (l9 := some (vI x1)) notL_I notL_I with ⟨e2, τ, g1, g2, g3, g4⟩ | ⟨β2, τ2, n2, e2, F2, T2, le2, b2, k2, x2, h2⟩
      · rw [b1] at e2
        refine ⟨τ, n, F1.trans g1, g2, Nat.le_refl _, fun k hk => (g3 k hk).trans (k1 k hk), Or.inr ⟨by rw [e2]; rfl, rfl, fun u Q => (en u Q).trans ((h1 u Q).trans (g4 u Q))⟩⟩
      · have A2 := (F1.trans F2).at_ oa
        have R2 := (F1.trans F2).ro or
        rw [b1] at e2
        rw [e2, Option.bind_some]
        have hq2 : τ2 (a + 2) = σ (a + 2) := A2.2.2
        have hr2 : τ2 (r + 3) = σ (r + 3) := R2 _ (by omega) (by omega)
        rcases l_fitC (sc := sc) (d := d) (σ := τ2) (i := i) (p := p) (c := 0 + 1 + 1) (P := σ (a + 2) (i * 3 + 2)) (t := σ (r + 3) (p * 3 + 2)) (n0 := n) oa or (by omega) i0 i1 p0 p1 (by omega) (by omega) (by rw [hq2]; rfl) (by rw [hr2]; rfl) (Wa.2.2 _ (by omega) (by omega)) (Wr.2.2.2.1 _ (by omega) (by omega)) t2 T2 (by omega) (by omega) (l7 := some (vI (σ (a + 2) (i * 3 + 1)))) (l8 := some (vI (σ (r + 3) (p * 3 + 1)))) (l9 := some (vI x2)) notL_I notL_I with ⟨e3, τ, g1, g2, g3, g4⟩ | ⟨β3, τ3, n3, e3, F3, T3, le3, b3, k3, x3, h3⟩
        · rw [b2] at e3
          refine ⟨τ, n, (F1.trans F2).trans g1, g2, Nat.le_refl _, fun k hk => (g3 k hk).trans ((k2 k (by omega)).trans (k1 k hk)), Or.inr ⟨e3, rfl, fun u Q => (en u Q).trans ((h1 u Q).trans ((h2 u Q).trans (g4 u Q)))⟩⟩
        · rw [b2] at e3
          refine ⟨τ3, n3, (F1.trans F2).trans F3, T3, by omega, fun k hk => (k3 k (by omega)).trans ((k2 k (by omega)).trans (k1 k hk)), Or.inl ⟨β3, e3, b3, fun u Q => (en u Q).trans ((h1 u Q).trans ((h2 u Q).trans ((h3 u Q).trans ?_)))⟩⟩
          rw [x101_27]
          simp (disch := first | assumption | omega | exact notL_I | exact notL_N | exact notL_R | exact catS_le (Nat.le_of_ble_eq_true rfl) | exact ooRo (by assumption) | exact ooAt (by assumption) | exact ooRu (by assumption) | exact ooLo (by assumption) | exact ooHa (by assumption) | exact ooLe (by assumption) | exact ooFn | exact ooAn | exact ooPa | exact ooTo | exact ooWa | exact ooCh | rfl) only [x101_0, x101_1, x101_4, x101_5, x101_6, x101_7, x101_10, x101_12, x101_13, x101_16, x101_17, x101_18, x101_19, x101_22, x101_24, x101_25, x101_29, x101_30, x101_33, x101_34, x101_37, x101_38, x101_39, x101_40, x101_42, x101_43, x101_44, x101_46, x101_47, x101_50, x101_52, x101_53, x101_54, x101_56, x101_57, x101_58, x101_60, x101_61, x101_63, x101_66, x101_68, x101_70, x101_73, x101_76, x101_78, x101_79, x101_82, x101_83, x101_85, x101_88, x101_89, x101_91, x101_94, x101_97, x101_99, x101_101, x101_104, x101_105, x101_107, x101_110, x101_111, x101_112, x101_115, x101_118, x101_119, if_pos, if_neg, ↓reduceIte, not_true_eq_false, not_false_eq_true]
  · refine ⟨σ, n, FnF.refl, T, Nat.le_refl _, fun _ _ => rfl, Or.inr ⟨if_neg ht, rfl, fun u Q => ?_⟩⟩
    simp (disch := first | assumption | omega | exact notL_I | exact notL_N | exact notL_R | exact catS_le (Nat.le_of_ble_eq_true rfl) | exact ooRo (by assumption) | exact ooAt (by assumption) | exact ooRu (by assumption) | exact ooLo (by assumption) | exact ooHa (by assumption) | exact ooLe (by assumption) | exact ooFn | exact ooAn | exact ooPa | exact ooTo | exact ooWa | exact ooCh | rfl) only [x101_0, x101_1, x101_4, x101_5, x101_6, x101_7, x101_10, x101_12, x101_13, x101_16, x101_17, x101_18, x101_19, x101_22, x101_24, x101_25, x101_29, x101_30, x101_33, x101_34, x101_37, x101_38, x101_39, x101_40, x101_42, x101_43, x101_44, x101_46, x101_47, x101_50, x101_52, x101_53, x101_54, x101_56, x101_57, x101_58, x101_60, x101_61, x101_63, x101_66, x101_68, x101_70, x101_73, x101_76, x101_78, x101_79, x101_82, x101_83, x101_85, x101_88, x101_89, x101_91, x101_94, x101_97, x101_99, x101_101, x101_104, x101_105, x101_107, x101_110, x101_111, x101_112, x101_115, x101_118, x101_119, gAt_table, RAt_table, gRo_table, RRo_table, if_pos, if_neg, ↓reduceIte, not_true_eq_false, not_false_eq_true]
/-- canStand, atoms from a given one on -/
theorem s_canStand {a r : Nat} (oa : oAt a) (or : oRo r) : ∀ (m d : Nat) (i : Int) (σ : St) (n : Nat), WfAt σ a → WfRo σ r → TrF σ n → 0 ≤ i → i + m = σ a 0 → 3 + m ≤ d → (∀ b ∈ asC σ a, ∀ w ∈ rsC σ r, fitT b w.2) →
    ∃ τ, FnF σ τ ∧ TrF τ n ∧ (∀ k, k ≤ n → bF τ k = bF σ k) ∧ RnA sc d 105 0 [some (vR 101), some (vR a), some (vI i), some (vR r), none, none, none] σ (some (vI (bI (standsL (rsC σ r) (akF σ a m i) (bF σ n))))) τ := by
  intro m
  induction m with
  | zero =>
    intro d i σ n Wa Wr T i0 im hd hT
    have w := Wa.1
    refine ⟨σ, FnF.refl, T, fun _ _ => rfl, fun u Q => ?_⟩
    rw [akF, standsL, bI_t]
    simp (disch := first | assumption | omega | exact notL_I | exact notL_N | exact notL_R | exact catS_le (Nat.le_of_ble_eq_true rfl) | exact ooRo (by assumption) | exact ooAt (by assumption) | exact ooRu (by assumption) | exact ooLo (by assumption) | exact ooHa (by assumption) | exact ooLe (by assumption) | exact ooFn | exact ooAn | exact ooPa | exact ooTo | exact ooWa | exact ooCh | rfl) only [x105_0, x105_1, x105_2, x105_5, x105_8, x105_9, x105_10, x105_11, x105_15, x105_16, x105_19, x105_22, x105_23, x105_26, x105_28, x105_29, x105_30, x105_31, x105_32, x105_34, x105_37, x105_40, x105_41, x105_42, x105_43, x105_44, x105_45, x105_46, x105_49, x105_51, x105_52, x105_54, x105_57, x105_59, x105_62, x105_63, x105_64, x105_67, x105_70, x105_71, gAt_count, if_pos, if_neg, ↓reduceIte, not_true_eq_false, not_false_eq_true]
  | succ m ih =>
    intro d i σ n Wa Wr T i0 im hd hT
    have w := Wa.1
    have wr := Wr.1
    have hia : atK σ a i ∈ asC σ a := List.mem_of_getElem? (asC_get (σ := σ) (r := a) i0 (by omega))
    have loop : ∀ (k : Nat) (p : Int) (τ : St), 0 ≤ p → p + k = σ r 0 → FnF σ τ → TrF τ n → (∀ j, j ≤ n → bF τ j = bF σ j) → ∃ ρ, FnF σ ρ ∧ TrF ρ n ∧ (∀ j, j ≤ n → bF ρ j = bF σ j) ∧ ∀ (u : Bool × Nat × Nat × Int) (Q : Rs → HS → Prop) (l5 l6 : Option V), notL l5 = true → (Ex sc d 105 13 [some (vR 101), some (vR a), some (vI i), some (vR r), some (vI p), l5, l6] [] (wH τ u) Q ↔ Q (.inl (some (vI (bI ((rcF σ r k p).any (fun w => match fitA (bF σ n) (atK σ a i) w.2 with | none => false | some β' => standsL (rsC σ r) (akF σ a m (i + 1)) β')))))) (wH ρ u)) := by
      intro k
      induction k with
      | zero =>
        intro p τ p0 pk F Tt K
        refine ⟨τ, F, Tt, K, fun u Q l5 l6 n5 => ?_⟩
        have e1 : τ r 0 = σ r 0 := by rw [F.ro or r (by omega) (by omega)]
        rw [x105_13]
        simp (disch := first | assumption | omega | exact notL_I | exact notL_N | exact notL_R | exact catS_le (Nat.le_of_ble_eq_true rfl) | exact ooRo (by assumption) | exact ooAt (by assumption) | exact ooRu (by assumption) | exact ooLo (by assumption) | exact ooHa (by assumption) | exact ooLe (by assumption) | exact ooFn | exact ooAn | exact ooPa | exact ooTo | exact ooWa | exact ooCh | rfl) only [x105_0, x105_1, x105_2, x105_5, x105_8, x105_9, x105_10, x105_11, x105_15, x105_16, x105_19, x105_22, x105_23, x105_26, x105_28, x105_29, x105_30, x105_31, x105_32, x105_34, x105_37, x105_40, x105_41, x105_42, x105_43, x105_44, x105_45, x105_46, x105_49, x105_51, x105_52, x105_54, x105_57, x105_59, x105_62, x105_63, x105_64, x105_67, x105_70, x105_71, gRo_count, e1, if_pos, if_neg, ↓reduceIte, not_true_eq_false, not_false_eq_true]
        rfl
      | succ k ihk =>
        intro p τ p0 pk F Tt K
        have e1 : τ r 0 = σ r 0 := by rw [F.ro or r (by omega) (by omega)]
        have ea : atK τ a i = atK σ a i := by unfold atK; rw [(F.at_ oa).2.1, (F.at_ oa).2.2]
        have ew : rwC τ r p = rwC σ r p := by unfold rwC; rw [F.ro or (r + 1) (by omega) (by omega), F.ro or (r + 2) (by omega) (by omega), F.ro or (r + 3) (by omega) (by omega)]
        have hpw : rwC σ r p ∈ rsC σ r := List.mem_of_getElem? (rsC_get (σ := σ) (r := r) p0 (by omega))
        have hTs := T.1
        have tl := T.2.1.le26
        obtain ⟨τ1, n1, F1, T1, le1, K1, hh⟩ := s_fitsC (sc := sc) (d := d - 1) (σ := τ) (i := i) (p := p) oa or (F.wa oa Wa) (F.wr or Wr) i0 (by omega) p0 (by omega) (by rw [ea, ew]; exact hT _ hia _ hpw) Tt (by omega)
        rw [ea, ew, K n (Nat.le_refl _)] at hh
        rcases hh with ⟨β, f1, f2, f3⟩ | ⟨f1, f2, f3⟩
        · have F01 := F.trans F1
          obtain ⟨τ2, F2, T2, K2, r2⟩ := ih (d - 1) (i + 1) τ1 n1 (F01.wa oa Wa) (F01.wr or Wr) T1 (by omega) (by rw [(F01.at_ oa).1]; omega) (by omega) (by rw [F01.as_ oa, F01.rs or]; exact hT)
          have F02 := F01.trans F2
          obtain ⟨τ3, F3, T3, K3, r3⟩ := s_undo (sc := sc) (d := d - 1) le1 T2
          have F03 := F02.trans F3
          have K03 : ∀ j, j ≤ n → bF τ3 j = bF σ j := fun j hj => (K3 j hj).trans ((K2 j (by omega)).trans ((K1 j hj).trans (K j hj)))
          have ek : akF τ1 a m (i + 1) = akF σ a m (i + 1) := akF_ext _ _ (fun j _ _ => by unfold atK; rw [(F01.at_ oa).2.1, (F01.at_ oa).2.2])
          rw [F01.rs or, ek, f2] at r2
          obtain ⟨ρ, F4, T4, K4, r4⟩ := ihk (p + 1) τ3 (by omega) (by omega) F03 T3 K03
          have ts1 : τ 101 2 = (n : Int) := Tt.1
          cases hb : standsL (rsC σ r) (akF σ a m (i + 1)) β with
          | true =>
            rw [hb, bI_t] at r2
            refine ⟨τ3, F03, T3, K03, fun u Q l5 l6 n5 => ?_⟩
            rw [rcF, any_cons, f1]
            dsimp only
            rw [hb, Bool.true_or, bI_t, x105_13]
            simp (disch := first | assumption | omega | exact notL_I | exact notL_N | exact notL_R | exact catS_le (Nat.le_of_ble_eq_true rfl) | exact ooRo (by assumption) | exact ooAt (by assumption) | exact ooRu (by assumption) | exact ooLo (by assumption) | exact ooHa (by assumption) | exact ooLe (by assumption) | exact ooFn | exact ooAn | exact ooPa | exact ooTo | exact ooWa | exact ooCh | rfl) only [x105_0, x105_1, x105_2, x105_5, x105_8, x105_9, x105_10, x105_11, x105_15, x105_16, x105_19, x105_22, x105_23, x105_26, x105_28, x105_29, x105_30, x105_31, x105_32, x105_34, x105_37, x105_40, x105_41, x105_42, x105_43, x105_44, x105_45, x105_46, x105_49, x105_51, x105_52, x105_54, x105_57, x105_59, x105_62, x105_63, x105_64, x105_67, x105_70, x105_71, gRo_count, e1, gFn_trailSize, ts1, f3 u, Kc_some, Kc_none, r2 u, r3 u, if_pos, if_neg, ↓reduceIte, not_true_eq_false, not_false_eq_true]
          | false =>
            rw [hb, bI_f] at r2
            refine ⟨ρ, F4, T4, K4, fun u Q l5 l6 n5 => ?_⟩
            have r4' := r4 u Q (some (vI (n : Int))) (some (vI 0)) notL_I
            rw [rcF, any_cons, f1]
            dsimp only
            rw [hb, Bool.false_or, x105_13]
            simp (disch := first | assumption | omega | exact notL_I | exact notL_N | exact notL_R | exact catS_le (Nat.le_of_ble_eq_true rfl) | exact ooRo (by assumption) | exact ooAt (by assumption) | exact ooRu (by assumption) | exact ooLo (by assumption) | exact ooHa (by assumption) | exact ooLe (by assumption) | exact ooFn | exact ooAn | exact ooPa | exact ooTo | exact ooWa | exact ooCh | rfl) only [x105_0, x105_1, x105_2, x105_5, x105_8, x105_9, x105_10, x105_11, x105_15, x105_16, x105_19, x105_22, x105_23, x105_26, x105_28, x105_29, x105_30, x105_31, x105_32, x105_34, x105_37, x105_40, x105_41, x105_42, x105_43, x105_44, x105_45, x105_46, x105_49, x105_51, x105_52, x105_54, x105_57, x105_59, x105_62, x105_63, x105_64, x105_67, x105_70, x105_71, gRo_count, e1, gFn_trailSize, ts1, f3 u, Kc_some, Kc_none, r2 u, r3 u, if_pos, if_neg, ↓reduceIte, not_true_eq_false, not_false_eq_true]
            exact r4'
        · subst f2
          have ts1 : τ 101 2 = (n1 : Int) := Tt.1
          obtain ⟨ρ, F4, T4, K4, r4⟩ := ihk (p + 1) τ1 (by omega) (by omega) (F.trans F1) T1 (fun j hj => (K1 j hj).trans (K j hj))
          refine ⟨ρ, F4, T4, K4, fun u Q l5 l6 n5 => ?_⟩
          have r4' := r4 u Q (some (vI (n1 : Int))) l6 notL_I
          rw [rcF, any_cons, f1]
          dsimp only
          rw [Bool.false_or, x105_13]
          simp (disch := first | assumption | omega | exact notL_I | exact notL_N | exact notL_R | exact catS_le (Nat.le_of_ble_eq_true rfl) | exact ooRo (by assumption) | exact ooAt (by assumption) | exact ooRu (by assumption) | exact ooLo (by assumption) | exact ooHa (by assumption) | exact ooLe (by assumption) | exact ooFn | exact ooAn | exact ooPa | exact ooTo | exact ooWa | exact ooCh | rfl) only [x105_0, x105_1, x105_2, x105_5, x105_8, x105_9, x105_10, x105_11, x105_15, x105_16, x105_19, x105_22, x105_23, x105_26, x105_28, x105_29, x105_30, x105_31, x105_32, x105_34, x105_37, x105_40, x105_41, x105_42, x105_43, x105_44, x105_45, x105_46, x105_49, x105_51, x105_52, x105_54, x105_57, x105_59, x105_62, x105_63, x105_64, x105_67, x105_70, x105_71, gRo_count, e1, gFn_trailSize, ts1, f3 u, Kc_some, Kc_none, if_pos, if_neg, ↓reduceIte, not_true_eq_false, not_false_eq_true]
          exact r4'
    obtain ⟨ρ, h1, h2, h3, h4⟩ := loop (σ r 0).toNat 0 σ (by omega) (by omega) FnF.refl T (fun _ _ => rfl)
    refine ⟨ρ, h1, h2, h3, fun u Q => ?_⟩
    rw [akF, standsL]
    refine Iff.trans ?_ (h4 u Q none none notL_N)
    simp (disch := first | assumption | omega | exact notL_I | exact notL_N | exact notL_R | exact catS_le (Nat.le_of_ble_eq_true rfl) | exact ooRo (by assumption) | exact ooAt (by assumption) | exact ooRu (by assumption) | exact ooLo (by assumption) | exact ooHa (by assumption) | exact ooLe (by assumption) | exact ooFn | exact ooAn | exact ooPa | exact ooTo | exact ooWa | exact ooCh | rfl) only [x105_0, x105_1, x105_2, x105_5, x105_8, x105_9, x105_10, x105_11, x105_15, x105_16, x105_19, x105_22, x105_23, x105_26, x105_28, x105_29, x105_30, x105_31, x105_32, x105_34, x105_37, x105_40, x105_41, x105_42, x105_43, x105_44, x105_45, x105_46, x105_49, x105_51, x105_52, x105_54, x105_57, x105_59, x105_62, x105_63, x105_64, x105_67, x105_70, x105_71, gAt_count, if_pos, if_neg, ↓reduceIte, not_true_eq_false, not_false_eq_true]
end F2
