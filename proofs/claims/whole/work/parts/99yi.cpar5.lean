/-! the class reads: rules -/
theorem WfRu.eq {σ τ : St} {a : Nat} (W : WfRu σ a) (h : ∀ c, a ≤ c → c < a + 7 → τ c = σ c) : WfRu τ a ∧ ruC τ a = ruC σ a := by
  obtain ⟨w1, w2, w3, w4, w5⟩ := W
  have e0 := h a (by omega) (by omega)
  have q1 := w4.eq (τ := τ) (fun c x y => h c (by omega) (by omega))
  have q2 := w5.eq (τ := τ) (fun c x y => h c (by omega) (by omega))
  constructor
  · unfold WfRu
    rw [e0]
    exact ⟨w1, w2, w3, q1.1, q2.1⟩
  · unfold ruC
    rw [e0, q1.2, q2.2]
section H5
variable {sc : Scr} {d : Nat} {f : Int → Int} {n : Int} {a b : Nat} {C : Int → Int}
/-- a side of a melting: it may stand there, and it is taken -/
theorem s_sideC {s : Ps} {σ : St} (hd : 2 ≤ d) (oa : oRu a) (H : PzC f n s σ) (W : WfAt σ (a + 1)) :
    (∃ x τ, sideP (nxT f n) (asC σ (a + 1)) s = .inr (x, nxT f n s.2.2) ∧ isPl x ∧ (2000 ≤ x → mentL (asC σ (a + 1)) x = true) ∧ (∀ c, c ≠ 89 → τ c = σ c) ∧ PzC f n (nxT f n s.2.2) τ ∧ RnA sc d 65 0 [some (vR 87), some (vR a)] σ (some (vI 1)) σ ∧ RnA sc d 67 0 [some (vR 87), none] σ (some (vI x)) τ) ∨
    (∃ e, sideP (nxT f n) (asC σ (a + 1)) s = .inl e ∧ BdC (rfS σ e.1 e.2) e ∧ RnA sc d 65 0 [some (vR 87), some (vR a)] σ (some (vI 0)) (rfS σ e.1 e.2)) := by
  have kd := fun u Q => s_kind (sc := sc) (d := d - 1) (u := u) (Q := Q) H
  have va := fun u Q => s_value (sc := sc) (d := d - 1) (u := u) (Q := Q) H
  have rf := fun k u Q => s_refuse (sc := sc) (d := d - 1) (k := k) (u := u) (Q := Q) (by omega) H
  have ki := kd_iff H.ok.1
  have kb := ki.1
  have k7 := ki.2.2.2.2.2.2.2.1
  have k8 := ki.2.2.2.2.2.2.2.2.1
  have vv := vl_v H.ok.1
  obtain ⟨τ, a1, a2, a3⟩ := s_takeT (sc := sc) (d := d - 1) H
  have oa1 := oa.ahead
  unfold RnA at a3
  unfold sideP
  by_cases hn : isNm s
  · rw [if_pos hn]
    rw [k8.mpr hn] at kd
    rw [vv.2.2.1 hn] at va
    have hn' : 300 ≤ s.1 ∧ s.1 ≤ 399 := hn
    refine Or.inl ⟨_, τ, rfl, Or.inl (by omega), fun z => by omega, a1, a2, fun u Q => ?_, fun u Q => ?_⟩
    · simp (disch := first | assumption | omega | exact notL_I | exact notL_N | exact notL_R | exact catS_le (Nat.le_of_ble_eq_true rfl) | exact Nat.le_of_ble_eq_true rfl | exact ooRo (by assumption) | exact ooAt (by assumption) | exact ooRu (by assumption) | exact ooLo (by assumption) | exact ooHa (by assumption) | exact ooLe (by assumption) | exact ooFn | exact ooAn | exact ooPa | exact ooTo | exact ooWa | exact ooCh | rfl) only [x65_0, x65_1, x65_4, x65_7, x65_9, x65_12, x65_13, x65_14, x65_15, x65_18, x65_21, x65_23, x65_26, x65_27, x65_28, x65_31, x65_32, x65_33, x65_36, x65_39, x65_40, x65_43, x65_46, x65_47, x65_50, x65_53, x65_54, x65_55, x65_58, x65_61, x65_62, x65_65, x65_66, gPa_tokens, kd, Kc_some, if_pos, if_neg, ↓reduceIte, not_true_eq_false, not_false_eq_true]
    · simp (disch := first | assumption | omega | exact notL_I | exact notL_N | exact notL_R | exact catS_le (Nat.le_of_ble_eq_true rfl) | exact Nat.le_of_ble_eq_true rfl | exact ooRo (by assumption) | exact ooAt (by assumption) | exact ooRu (by assumption) | exact ooLo (by assumption) | exact ooHa (by assumption) | exact ooLe (by assumption) | exact ooFn | exact ooAn | exact ooPa | exact ooTo | exact ooWa | exact ooCh | rfl) only [x67_0, x67_1, x67_4, x67_7, x67_9, x67_12, x67_15, x67_16, x67_19, x67_22, x67_23, x67_26, x67_27, x67_30, x67_33, x67_34, x67_35, x67_38, x67_41, x67_42, gPa_tokens, kd, va, a3, Kc_some, Kc_none, if_pos, if_neg, ↓reduceIte, not_true_eq_false, not_false_eq_true]
  · rw [if_neg hn]
    have h8 : kdT s.1 ≠ 8 := fun z => hn (k8.mp z)
    by_cases hv : isVr s
    · rw [if_pos hv]
      rw [k7.mpr hv] at kd
      rw [vv.2.1 hv] at va
      have hv' : 200 ≤ s.1 ∧ s.1 ≤ 225 := hv
      have me := fun u Q => s_mentA (sc := sc) (σ := σ) (d := d - 1) (u := u) (Q := Q) (a := a + 1) (v := 2000 + (s.1 - 200)) oa.ahead ⟨by omega, by omega⟩ W
      cases hm : mentL (asC σ (a + 1)) (2000 + (s.1 - 200)) with
      | true =>
        rw [if_pos rfl]
        rw [hm, bI_t] at me
        refine Or.inl ⟨_, τ, rfl, Or.inr (by omega), fun _ => hm, a1, a2, fun u Q => ?_, fun u Q => ?_⟩
        · simp (disch := first | assumption | omega | exact notL_I | exact notL_N | exact notL_R | exact catS_le (Nat.le_of_ble_eq_true rfl) | exact Nat.le_of_ble_eq_true rfl | exact ooRo (by assumption) | exact ooAt (by assumption) | exact ooRu (by assumption) | exact ooLo (by assumption) | exact ooHa (by assumption) | exact ooLe (by assumption) | exact ooFn | exact ooAn | exact ooPa | exact ooTo | exact ooWa | exact ooCh | rfl) only [x65_0, x65_1, x65_4, x65_7, x65_9, x65_12, x65_13, x65_14, x65_15, x65_18, x65_21, x65_23, x65_26, x65_27, x65_28, x65_31, x65_32, x65_33, x65_36, x65_39, x65_40, x65_43, x65_46, x65_47, x65_50, x65_53, x65_54, x65_55, x65_58, x65_61, x65_62, x65_65, x65_66, gPa_tokens, gRu_ahead, kd, va, me, Kc_some, if_pos, if_neg, ↓reduceIte, not_true_eq_false, not_false_eq_true]
        · simp (disch := first | assumption | omega | exact notL_I | exact notL_N | exact notL_R | exact catS_le (Nat.le_of_ble_eq_true rfl) | exact Nat.le_of_ble_eq_true rfl | exact ooRo (by assumption) | exact ooAt (by assumption) | exact ooRu (by assumption) | exact ooLo (by assumption) | exact ooHa (by assumption) | exact ooLe (by assumption) | exact ooFn | exact ooAn | exact ooPa | exact ooTo | exact ooWa | exact ooCh | rfl) only [x67_0, x67_1, x67_4, x67_7, x67_9, x67_12, x67_15, x67_16, x67_19, x67_22, x67_23, x67_26, x67_27, x67_30, x67_33, x67_34, x67_35, x67_38, x67_41, x67_42, gPa_tokens, kd, va, a3, Kc_some, Kc_none, if_pos, if_neg, ↓reduceIte, not_true_eq_false, not_false_eq_true]
      | false =>
        rw [if_neg (by simp)]
        rw [hm, bI_f] at me
        refine Or.inr ⟨_, rfl, rf_v.2, fun u Q => ?_⟩
        simp (disch := first | assumption | omega | exact notL_I | exact notL_N | exact notL_R | exact catS_le (Nat.le_of_ble_eq_true rfl) | exact Nat.le_of_ble_eq_true rfl | exact ooRo (by assumption) | exact ooAt (by assumption) | exact ooRu (by assumption) | exact ooLo (by assumption) | exact ooHa (by assumption) | exact ooLe (by assumption) | exact ooFn | exact ooAn | exact ooPa | exact ooTo | exact ooWa | exact ooCh | rfl) only [x65_0, x65_1, x65_4, x65_7, x65_9, x65_12, x65_13, x65_14, x65_15, x65_18, x65_21, x65_23, x65_26, x65_27, x65_28, x65_31, x65_32, x65_33, x65_36, x65_39, x65_40, x65_43, x65_46, x65_47, x65_50, x65_53, x65_54, x65_55, x65_58, x65_61, x65_62, x65_65, x65_66, gPa_tokens, gRu_ahead, kd, va, me, rf, Kc_some, if_pos, if_neg, ↓reduceIte, not_true_eq_false, not_false_eq_true]
    · rw [if_neg hv]
      have h7 : kdT s.1 ≠ 7 := fun z => hv (k7.mp z)
      refine Or.inr ⟨_, rfl, rf_v.2, fun u Q => ?_⟩
      simp (disch := first | assumption | omega | exact notL_I | exact notL_N | exact notL_R | exact catS_le (Nat.le_of_ble_eq_true rfl) | exact Nat.le_of_ble_eq_true rfl | exact ooRo (by assumption) | exact ooAt (by assumption) | exact ooRu (by assumption) | exact ooLo (by assumption) | exact ooHa (by assumption) | exact ooLe (by assumption) | exact ooFn | exact ooAn | exact ooPa | exact ooTo | exact ooWa | exact ooCh | rfl) only [x65_0, x65_1, x65_4, x65_7, x65_9, x65_12, x65_13, x65_14, x65_15, x65_18, x65_21, x65_23, x65_26, x65_27, x65_28, x65_31, x65_32, x65_33, x65_36, x65_39, x65_40, x65_43, x65_46, x65_47, x65_50, x65_53, x65_54, x65_55, x65_58, x65_61, x65_62, x65_65, x65_66, gPa_tokens, kd, rf, Kc_some, if_pos, if_neg, ↓reduceIte, not_true_eq_false, not_false_eq_true]
/-- both sides -/
def mltP (nx : Int → Ps) (as : List At) (s : Ps) : Fa ⊕ (Int × Int × Ps) := andP (sideP nx as s) fun l => andP (needP nx 61 l.2) fun s => andP (sideP nx as s) fun r => .inr (l.1, r.1, r.2)
theorem s_meltC {s : Ps} {σ : St} (hd : 3 ≤ d) (oa : oRu a) (fa : far a 7) (H : PzC f n s σ) (W : WfRu σ a) :
    (∃ x y s' τ, mltP (nxT f n) (asC σ (a + 1)) s = .inr (x, y, s') ∧ (isPl x ∧ (2000 ≤ x → mentL (asC σ (a + 1)) x = true)) ∧ (isPl y ∧ (2000 ≤ y → mentL (asC σ (a + 1)) y = true)) ∧ FzB a 7 σ τ ∧ PzC f n s' τ ∧ WfRu τ a ∧ ruC τ a = (σ a 0, asC σ (a + 1), asC σ (a + 4), x, y) ∧ RnA sc d 64 0 [some (vR 87), some (vR a)] σ (some (vI 1)) τ) ∨
    (∃ e τ, mltP (nxT f n) (asC σ (a + 1)) s = .inl e ∧ FzB a 7 σ τ ∧ WfRu τ a ∧ BdC τ e ∧ RnA sc d 64 0 [some (vR 87), some (vR a)] σ (some (vI 0)) τ) := by
  have fa' := fa
  unfold far at fa'
  unfold mltP
  rcases s_sideC (sc := sc) (d := d - 1) (by omega) oa H W.2.2.2.1 with ⟨x, τ, e1, e2, e3, e4, e5, e6, e7⟩ | ⟨e, e1, e2, e3⟩
  · rw [e1, andP_r]
    dsimp only
    unfold RnA at e6 e7
    have x2 := isPl_in e2
    have P1 : PzC f n (nxT f n s.2.2) (su τ a 3 x) := e5.su_ (by omega)
    have F1 : FzB a 7 σ (su τ a 3 x) := (Fzc.o89 e4).b.trans ⟨fun c _ _ _ z => su_ne (by omega), fun j _ _ => by rw [su_ne (by omega)]⟩
    have W1 : WfRu (su τ a 3 x) a := by
      have w := (W.eq (τ := τ) (fun c p q => e4 c (by omega))).1
      exact ⟨by rw [su_off (by omega)]; exact w.1, by rw [su_eq]; omega, by rw [su_off (by omega)]; exact w.2.2.1, (w.2.2.2.1.eq (fun c p q => su_ne (by omega))).1, (w.2.2.2.2.eq (fun c p q => su_ne (by omega))).1⟩
    have A1 : asC (su τ a 3 x) (a + 1) = asC σ (a + 1) := (W.2.2.2.1.eq (fun c p q => by rw [su_ne (by omega)]; exact e4 c (by omega))).2
    have A4 : asC (su τ a 3 x) (a + 4) = asC σ (a + 4) := (W.2.2.2.2.eq (fun c p q => by rw [su_ne (by omega)]; exact e4 c (by omega))).2
    have z0 : su τ a 3 x a 0 = σ a 0 := by rw [su_off (by omega), e4 a (by omega)]
    have z3 : su τ a 3 x a 3 = x := su_eq
    have k14 := (kd_iff P1.ok.1).2.2.2.2.2.2.2.2.2.2.2.2.2.2.1
    have st : ∀ (u : Bool × Nat × Nat × Int) (Q : Rs → HS → Prop), Ex sc d 64 0 [some (vR 87), some (vR a)] [] (wH σ u) Q ↔ Ex sc d 64 18 [some (vR 87), some (vR a)] [] (wH (su τ a 3 x) u) Q := by
      intro u Q
      simp (disch := first | assumption | omega | exact notL_I | exact notL_N | exact notL_R | exact catS_le (Nat.le_of_ble_eq_true rfl) | exact Nat.le_of_ble_eq_true rfl | exact ooRo (by assumption) | exact ooAt (by assumption) | exact ooRu (by assumption) | exact ooLo (by assumption) | exact ooHa (by assumption) | exact ooLe (by assumption) | exact ooFn | exact ooAn | exact ooPa | exact ooTo | exact ooWa | exact ooCh | rfl) only [x64_0, x64_1, x64_2, x64_5, x64_8, x64_9, x64_10, x64_11, x64_12, x64_15, x64_19, x64_21, x64_24, x64_27, x64_28, x64_29, x64_32, x64_35, x64_36, x64_37, x64_38, x64_39, x64_42, x64_45, x64_46, e6, e7, pRu_left, Kc_some, if_pos, if_neg, ↓reduceIte, not_true_eq_false, not_false_eq_true]
    generalize su τ a 3 x = Y at *
    rcases s_sgnP (sc := sc) (d := d - 1) (c := 61) (by omega) P1 k14 (by omega) with ⟨h61, ρ, b1, b2, b3⟩ | ⟨h61, b3⟩
    · rw [h61, andP_r]
      unfold RnA at b3
      have W2 := W1.eq (τ := ρ) (fun c p q => b1 c (by omega))
      have A2 : asC ρ (a + 1) = asC σ (a + 1) := ((W1.2.2.2.1.eq (fun c p q => b1 c (by omega))).2).trans A1
      have A5 : asC ρ (a + 4) = asC σ (a + 4) := ((W1.2.2.2.2.eq (fun c p q => b1 c (by omega))).2).trans A4
      have F2 : FzB a 7 σ ρ := F1.trans (Fzc.o89 b1).b
      have s2 := s_sideC (sc := sc) (d := d - 1) (by omega) oa b2 W2.1.2.2.2.1
      rw [A2] at s2
      rcases s2 with ⟨y, τ2, f1, f2, f3, f4, f5, f6, f7⟩ | ⟨e, f1, f2, f3⟩
      · rw [f1, andP_r]
        unfold RnA at f6 f7
        have y2 := isPl_in f2
        have w := (W2.1.eq (τ := τ2) (fun c p q => f4 c (by omega))).1
        refine Or.inl ⟨x, y, _, su τ2 a 4 y, rfl, ⟨e2, e3⟩, ⟨f2, f3⟩, (F2.trans (Fzc.o89 f4).b).trans ⟨fun c _ _ _ z => su_ne (by omega), fun j _ _ => by rw [su_ne (by omega)]⟩, f5.su_ (by omega), ⟨by rw [su_off (by omega)]; exact w.1, by rw [su_off (by omega)]; exact w.2.1, by rw [su_eq]; omega, (w.2.2.2.1.eq (fun c p q => su_ne (by omega))).1, (w.2.2.2.2.eq (fun c p q => su_ne (by omega))).1⟩, ?_, fun u Q => ?_⟩
        · unfold ruC
          rw [(w.2.2.2.1.eq (τ := su τ2 a 4 y) (fun c p q => su_ne (by omega))).2, (w.2.2.2.2.eq (τ := su τ2 a 4 y) (fun c p q => su_ne (by omega))).2, (W2.1.2.2.2.1.eq (τ := τ2) (fun c p q => f4 c (by omega))).2, (W2.1.2.2.2.2.eq (τ := τ2) (fun c p q => f4 c (by omega))).2, A2, A5, su_off (by omega), su_off (by omega), su_eq, f4 a (by omega), b1 a (by omega), z0, z3]
        · rw [st u Q, x64_18]
          simp (disch := first | assumption | omega | exact notL_I | exact notL_N | exact notL_R | exact catS_le (Nat.le_of_ble_eq_true rfl) | exact Nat.le_of_ble_eq_true rfl | exact ooRo (by assumption) | exact ooAt (by assumption) | exact ooRu (by assumption) | exact ooLo (by assumption) | exact ooHa (by assumption) | exact ooLe (by assumption) | exact ooFn | exact ooAn | exact ooPa | exact ooTo | exact ooWa | exact ooCh | rfl) only [x64_0, x64_1, x64_2, x64_5, x64_8, x64_9, x64_10, x64_11, x64_12, x64_15, x64_19, x64_21, x64_24, x64_27, x64_28, x64_29, x64_32, x64_35, x64_36, x64_37, x64_38, x64_39, x64_42, x64_45, x64_46, b3, f6, f7, pRu_right, Kc_some, if_pos, if_neg, ↓reduceIte, not_true_eq_false, not_false_eq_true]
      · rw [f1, andP_l]
        unfold RnA at f3
        refine Or.inr ⟨e, _, rfl, F2.trans rf_v.1.b, (W2.1.eq (rf_v.1.cl fa)).1, f2, fun u Q => ?_⟩
        rw [st u Q, x64_18]
        simp (disch := first | assumption | omega | exact notL_I | exact notL_N | exact notL_R | exact catS_le (Nat.le_of_ble_eq_true rfl) | exact Nat.le_of_ble_eq_true rfl | exact ooRo (by assumption) | exact ooAt (by assumption) | exact ooRu (by assumption) | exact ooLo (by assumption) | exact ooHa (by assumption) | exact ooLe (by assumption) | exact ooFn | exact ooAn | exact ooPa | exact ooTo | exact ooWa | exact ooCh | rfl) only [x64_0, x64_1, x64_2, x64_5, x64_8, x64_9, x64_10, x64_11, x64_12, x64_15, x64_19, x64_21, x64_24, x64_27, x64_28, x64_29, x64_32, x64_35, x64_36, x64_37, x64_38, x64_39, x64_42, x64_45, x64_46, b3, f3, Kc_some, if_pos, if_neg, ↓reduceIte, not_true_eq_false, not_false_eq_true]
    · rw [h61, andP_l]
      unfold RnA at b3
      refine Or.inr ⟨_, _, rfl, F1.trans rf_v.1.b, (W1.eq (rf_v.1.cl fa)).1, rf_v.2, fun u Q => ?_⟩
      rw [st u Q, x64_18]
      simp (disch := first | assumption | omega | exact notL_I | exact notL_N | exact notL_R | exact catS_le (Nat.le_of_ble_eq_true rfl) | exact Nat.le_of_ble_eq_true rfl | exact ooRo (by assumption) | exact ooAt (by assumption) | exact ooRu (by assumption) | exact ooLo (by assumption) | exact ooHa (by assumption) | exact ooLe (by assumption) | exact ooFn | exact ooAn | exact ooPa | exact ooTo | exact ooWa | exact ooCh | rfl) only [x64_0, x64_1, x64_2, x64_5, x64_8, x64_9, x64_10, x64_11, x64_12, x64_15, x64_19, x64_21, x64_24, x64_27, x64_28, x64_29, x64_32, x64_35, x64_36, x64_37, x64_38, x64_39, x64_42, x64_45, x64_46, b3, Kc_some, if_pos, if_neg, ↓reduceIte, not_true_eq_false, not_false_eq_true]
  · rw [e1, andP_l]
    unfold RnA at e3
    refine Or.inr ⟨e, _, rfl, rf_v.1.b, (W.eq (rf_v.1.cl fa)).1, e2, fun u Q => ?_⟩
    simp (disch := first | assumption | omega | exact notL_I | exact notL_N | exact notL_R | exact catS_le (Nat.le_of_ble_eq_true rfl) | exact Nat.le_of_ble_eq_true rfl | exact ooRo (by assumption) | exact ooAt (by assumption) | exact ooRu (by assumption) | exact ooLo (by assumption) | exact ooHa (by assumption) | exact ooLe (by assumption) | exact ooFn | exact ooAn | exact ooPa | exact ooTo | exact ooWa | exact ooCh | rfl) only [x64_0, x64_1, x64_2, x64_5, x64_8, x64_9, x64_10, x64_11, x64_12, x64_15, x64_19, x64_21, x64_24, x64_27, x64_28, x64_29, x64_32, x64_35, x64_36, x64_37, x64_38, x64_39, x64_42, x64_45, x64_46, e3, Kc_some, if_pos, if_neg, ↓reduceIte, not_true_eq_false, not_false_eq_true]
end H5
