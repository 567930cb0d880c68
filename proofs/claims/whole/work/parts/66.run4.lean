/-! runs of the class: melting, steps, the whole run -/
section N4
variable {sc : Scr}
theorem s_meltTerms {b d n : Nat} {σ : St} {x : Int} {q : List Rw} {β : Bd} (o : oHa b) (hd : 4 ≤ d) (W : WfHa σ b) (x0 : 0 ≤ x) (x1 : x ≤ 9) (T : TrF σ n) (eβ : bF σ n = β) (hl : σ (b + 8) 1 < 100) (hp : opI σ (rsC σ (b + 3)) (some q)) (hq : (q.length : Int) = σ (b + 14 + 7 * x.toNat + 1) 0) (ta : isTm (worthB β (σ (b + 14 + 7 * x.toNat) 3))) (tb : isTm (worthB β (σ (b + 14 + 7 * x.toNat) 4))) :
    ∃ τ k, FrH b σ τ ∧ WfHa τ b ∧ (rnC τ b, k) = meltA x (ruC σ (b + 14 + 7 * x.toNat)) q β (rnC σ b) ∧ τ (b + 8) 0 = σ (b + 8) 0 ∧ RnA sc d 119 0 [some (vR b), some (vR 101), some (vI x), none, none, none, none] σ (some (vI k)) τ := by
  have hfar := oHa_far o
  have or := o.rows
  have ou := o.ru (k := x.toNat) (by omega)
  obtain ⟨w0, w1, w2, w3, w4, w5, w6⟩ := W
  have Wu := w6 x.toNat (by omega)
  have W : WfHa σ b := ⟨w0, w1, w2, w3, w4, w5, w6⟩
  have wa0 := Wu.2.2.2.1.1
  have l3 := Wu.2.1
  have l4 := Wu.2.2.1
  have ea : worthB (σ 102) (σ (b + 14 + 7 * x.toNat) 3) = worthB β (σ (b + 14 + 7 * x.toNat) 3) := by rw [← eβ]; exact (T.worth l3.1 l3.2).symm
  have eb : worthB (σ 102) (σ (b + 14 + 7 * x.toNat) 4) = worthB β (σ (b + 14 + 7 * x.toNat) 4) := by rw [← eβ]; exact (T.worth l4.1 l4.2).symm
  unfold meltA
  dsimp only
  rw [show (ruC σ (b + 14 + 7 * x.toNat)).2.2.2.1 = σ (b + 14 + 7 * x.toNat) 3 from rfl, show (ruC σ (b + 14 + 7 * x.toNat)).2.2.2.2 = σ (b + 14 + 7 * x.toNat) 4 from rfl]
  generalize worthB β (σ (b + 14 + 7 * x.toNat) 3) = A at *
  generalize worthB β (σ (b + 14 + 7 * x.toNat) 4) = B at *
  have tA := isTm_in ta
  have tB := isTm_in tb
  have nlA : (1000 ≤ A ∧ A ≤ 1099) ↔ ¬ A < 1000 := by omega
  have nlB : (1000 ≤ B ∧ B ≤ 1099) ↔ ¬ B < 1000 := by omega
  by_cases hc : A < 1000 ∧ B < 1000
  · rw [if_pos hc]
    obtain ⟨τ, F, Wl, s0, s1, st, r⟩ := s_noteH (sc := sc) (d := d - 1) (x := x) (m := 0) (w := A) (v := B) (q := q) o (by omega) x0 x1 w3 w4 hl hp hq (by omega) ⟨by omega, by omega⟩ ⟨by omega, by omega⟩ ⟨by omega, by omega⟩
    have Fo : ∀ c, c < b + 8 ∨ b + 10 ≤ c → τ c = σ c := fun c h => F c (by omega)
    have FH : FrH b σ τ := F.fh (n := 8) (by omega) (by omega)
    refine ⟨τ, 2, FH, WfHa.run o W FH (w3.c (fun c c0 c1 => Fo c (by omega))) Wl (w5.c (by rw [Fo _ (by omega)]) (Fo _ (by omega)) (Fo _ (by omega))), ?_, s0, fun u Q => ?_⟩
    · show ((rsC τ (b + 3), τ (b + 3) 1, naC τ (b + 3), stC τ (b + 8), byC τ (b + 8)), (2 : Int)) = _
      have g3 : naC τ (b + 3) = naC σ (b + 3) := by unfold naC; rw [Fo _ (by omega)]
      have g5 : byC τ (b + 8) = byC σ (b + 8) := by unfold byC; rw [Fo _ (by omega)]
      rw [rsC_c (σ := σ) (fun c c0 c1 => Fo c (by omega)), Fo (b + 3) (by omega), g3, st, g5]
      rfl
    · have h1 : ¬ (1000 ≤ A ∧ A ≤ 1099) := by omega
      have h2 : ¬ (1000 ≤ B ∧ B ≤ 1099) := by omega
      simp (disch := first | assumption | omega | exact notL_I | exact notL_N | exact notL_R | exact catS_le (Nat.le_of_ble_eq_true rfl) | exact Nat.le_of_ble_eq_true rfl | exact ooRo (by assumption) | exact ooAt (by assumption) | exact ooRu (by assumption) | exact ooLo (by assumption) | exact ooHa (by assumption) | exact ooLe (by assumption) | exact ooFn | exact ooAn | exact ooPa | exact ooTo | exact ooWa | exact ooCh | rfl) only [x119_0, x119_1, x119_2, x119_5, x119_6, x119_7, x119_10, x119_13, x119_14, x119_15, x119_16, x119_19, x119_20, x119_21, x119_24, x119_27, x119_29, x119_30, x119_33, x119_36, x119_38, x119_41, x119_44, x119_45, x119_46, x119_47, x119_48, x119_49, x119_51, x119_54, x119_55, x119_56, x119_57, x119_59, x119_62, x119_64, x119_65, x119_67, x119_70, x119_72, x119_73, x119_74, x119_75, x119_76, x119_78, x119_80, x119_83, x119_84, x119_87, x119_89, x119_91, x119_94, x119_95, gHa_rules, Rr_rules, gRu_left, gRu_right, s_termOf, ea, eb, s_isNl, if_neg h1, if_neg h2, r u, Kc_some, Kc_none, if_pos, if_neg, ↓reduceIte, not_true_eq_false, not_false_eq_true]
  · rw [if_neg hc]
    generalize hw : (if A < B then B else A) = w
    generalize hv : (if B < A then B else A) = v
    have hwr : 0 ≤ w ∧ w ≤ 1099 := by rw [← hw]; split <;> omega
    have hvr : 0 ≤ v ∧ v ≤ 1099 := by rw [← hv]; split <;> omega
    obtain ⟨τ, F, Wl, s0, s1, st, r⟩ := s_noteH (sc := sc) (d := d - 1) (x := x) (m := 0) (w := w) (v := v) (q := q) o (by omega) x0 x1 w3 w4 hl hp hq (by omega) ⟨by omega, by omega⟩ ⟨by omega, by omega⟩ ⟨by omega, by omega⟩
    have Fo : ∀ c, c < b + 8 ∨ b + 10 ≤ c → τ c = σ c := fun c h => F c (by omega)
    have Wr1 : WfRo τ (b + 3) := w3.c (fun c c0 c1 => Fo c (by omega))
    obtain ⟨τ2, F2, Wr2, e2, e3, e4, r2⟩ := s_melt (sc := sc) (d := d - 1) (σ := τ) (a := w) (b := v) or (by omega) ⟨by omega, by omega⟩ ⟨by omega, by omega⟩ Wr1
    have F2o : ∀ c, c < b + 3 ∨ b + 8 ≤ c → τ2 c = τ c := fun c h => F2 c (by omega)
    have FH : FrH b σ τ2 := (F.fh (n := 8) (by omega) (by omega)).trans (F2.b.fh (n := 3) (by omega) (by omega))
    refine ⟨τ2, 0, FH, WfHa.run o W FH Wr2 (Wl.c (fun c c0 c1 => F2o c (by omega))) (w5.c (by rw [F2o _ (by omega), Fo _ (by omega)]) (by rw [F2o _ (by omega), Fo _ (by omega)]) (by rw [F2o _ (by omega), Fo _ (by omega)])), ?_, by rw [F2o _ (by omega), s0], fun u Q => ?_⟩
    · show ((rsC τ2 (b + 3), τ2 (b + 3) 1, naC τ2 (b + 3), stC τ2 (b + 8), byC τ2 (b + 8)), (0 : Int)) = _
      have g3 : naC τ (b + 3) = naC σ (b + 3) := by unfold naC; rw [Fo _ (by omega)]
      have g5 : byC τ2 (b + 8) = byC σ (b + 8) := by unfold byC; rw [F2o _ (by omega), Fo _ (by omega)]
      rw [e2, rsC_c (σ := σ) (fun c c0 c1 => Fo c (by omega)), e4, Fo (b + 3) (by omega), e3, g3, stC_c (σ := τ) (l := b + 8) (fun c c0 c1 => F2o c (by omega)), st, g5]
      rfl
    · by_cases h1 : 1000 ≤ A ∧ A ≤ 1099
      · simp (disch := first | assumption | omega | exact notL_I | exact notL_N | exact notL_R | exact catS_le (Nat.le_of_ble_eq_true rfl) | exact Nat.le_of_ble_eq_true rfl | exact ooRo (by assumption) | exact ooAt (by assumption) | exact ooRu (by assumption) | exact ooLo (by assumption) | exact ooHa (by assumption) | exact ooLe (by assumption) | exact ooFn | exact ooAn | exact ooPa | exact ooTo | exact ooWa | exact ooCh | rfl) only [x119_0, x119_1, x119_2, x119_5, x119_6, x119_7, x119_10, x119_13, x119_14, x119_15, x119_16, x119_19, x119_20, x119_21, x119_24, x119_27, x119_29, x119_30, x119_33, x119_36, x119_38, x119_41, x119_44, x119_45, x119_46, x119_47, x119_48, x119_49, x119_51, x119_54, x119_55, x119_56, x119_57, x119_59, x119_62, x119_64, x119_65, x119_67, x119_70, x119_72, x119_73, x119_74, x119_75, x119_76, x119_78, x119_80, x119_83, x119_84, x119_87, x119_89, x119_91, x119_94, x119_95, gHa_rules, gHa_rows, Rr_rules, gRu_left, gRu_right, s_termOf, ea, eb, s_isNl, if_pos h1, hw, hv, r u, r2 u, Kc_some, Kc_none, if_pos, if_neg, ↓reduceIte, not_true_eq_false, not_false_eq_true]
      · have h2 : 1000 ≤ B ∧ B ≤ 1099 := by omega
        simp (disch := first | assumption | omega | exact notL_I | exact notL_N | exact notL_R | exact catS_le (Nat.le_of_ble_eq_true rfl) | exact Nat.le_of_ble_eq_true rfl | exact ooRo (by assumption) | exact ooAt (by assumption) | exact ooRu (by assumption) | exact ooLo (by assumption) | exact ooHa (by assumption) | exact ooLe (by assumption) | exact ooFn | exact ooAn | exact ooPa | exact ooTo | exact ooWa | exact ooCh | rfl) only [x119_0, x119_1, x119_2, x119_5, x119_6, x119_7, x119_10, x119_13, x119_14, x119_15, x119_16, x119_19, x119_20, x119_21, x119_24, x119_27, x119_29, x119_30, x119_33, x119_36, x119_38, x119_41, x119_44, x119_45, x119_46, x119_47, x119_48, x119_49, x119_51, x119_54, x119_55, x119_56, x119_57, x119_59, x119_62, x119_64, x119_65, x119_67, x119_70, x119_72, x119_73, x119_74, x119_75, x119_76, x119_78, x119_80, x119_83, x119_84, x119_87, x119_89, x119_91, x119_94, x119_95, gHa_rules, gHa_rows, Rr_rules, gRu_left, gRu_right, s_termOf, ea, eb, s_isNl, if_neg h1, if_pos h2, hw, hv, r u, r2 u, Kc_some, Kc_none, if_pos, if_neg, ↓reduceIte, not_true_eq_false, not_false_eq_true]
/-- all that a run of hall b stands on -/
def RI (C : Int → Int) (b : Nat) (σ : St) : Prop := WfHa σ b ∧ okS C (rnC σ b) ∧ ∀ k : Nat, (k : Int) < σ b 1 → okRl C (ruC σ (b + 14 + 7 * k))
theorem RI.fit {C : Int → Int} {b : Nat} {σ : St} (h : RI C b σ) {k : Nat} (hk : (k : Int) < σ b 1) : (∀ a ∈ asC σ (b + 14 + 7 * k + 1), ∀ w ∈ rsC σ (b + 3), fitT a w.2) ∧ (∀ a ∈ asC σ (b + 14 + 7 * k + 4), ∀ w ∈ rsC σ (b + 3), fitT a w.2) := by
  have hr := h.2.2 k hk
  exact ⟨fun a ha w hw => ok_fitT (hr.2.1 a ha) (h.2.1.1 w hw), fun a ha w hw => ok_fitT (hr.2.2.1 a ha) (h.2.1.1 w hw)⟩
theorem s_takeStep {b d : Nat} {σ : St} {x : Int} {q : List Rw} {C : Int → Int} (o : oHa b) (hd : 5 ≤ d) (h : RI C b σ) (x0 : 0 ≤ x) (x1 : x < σ b 1) (hl : σ (b + 8) 1 < 100) (hp : opI σ (rsC σ (b + 3)) (some q)) (hq : openL (ruC σ (b + 14 + 7 * x.toNat)) (rsC σ (b + 3)) = some q) :
    ∃ τ k, FrH b σ τ ∧ WfHa τ b ∧ (rnC τ b, k) = stepA x (ruC σ (b + 14 + 7 * x.toNat)) q (rnC σ b) ∧ τ (b + 8) 0 = σ (b + 8) 0 ∧ RnA sc d 107 0 [some (vR b), some (vR 101), some (vI x), none] σ (some (vI k)) τ := by
  have hfar := oHa_far o
  obtain ⟨W, hs, hrs⟩ := h
  have w1 := W.2.1
  have hk : (x.toNat : Int) < σ b 1 := by omega
  have hr := hrs x.toNat hk
  obtain ⟨ft1, ft2⟩ := RI.fit ⟨W, hs, hrs⟩ hk
  have ou := o.ru (k := x.toNat) (by omega)
  have oa := ou.ahead
  have or := o.rows
  have Wu := W.2.2.2.2.2.2 x.toNat (by omega)
  obtain ⟨β, hβ, _⟩ := openL_mem hq
  have hβ' : (q, β) ∈ hitsL (rsC σ (b + 3)) (asC σ (b + 14 + 7 * x.toNat + 1)) bd0 := hβ
  have eb : bindA (asC σ (b + 14 + 7 * x.toNat + 1)) q bd0 = β := hits_bind _ _ _ hβ'
  obtain ⟨b1, b2, b3⟩ := bindA_ok hs.1 (asC σ (b + 14 + 7 * x.toNat + 1)) bd0 (q, β) hr.2.1 okB_0 hβ'
  obtain ⟨τ1, n1, F1, T1, bb, r1⟩ := s_bindOpen (sc := sc) (d := d - 1) oa or (by omega) Wu.2.2.2.1 W.2.2.2.1 ft1 hp ⟨β, hβ'⟩
  rw [eb] at bb
  have F1o : ∀ c, c < 101 ∨ 103 < c → τ1 c = σ c := fun c hc => F1.1 c (by omega) (by omega) (by omega)
  have FH1 : FrH b σ τ1 := F1.fh
  have er1 : rnC τ1 b = rnC σ b := rnC_c (fun c c0 c1 => F1o c (by omega))
  have W1 : WfHa τ1 b := W.c (fun c c0 c1 => F1o c (by omega))
  have eu1 : ruC τ1 (b + 14 + 7 * x.toNat) = ruC σ (b + 14 + 7 * x.toNat) := FH1.ru o (by omega)
  have ers : rsC τ1 (b + 3) = rsC σ (b + 3) := congrArg Prod.fst er1
  have hp1 : opI τ1 (rsC τ1 (b + 3)) (some q) := by
    rw [ers]
    intro q' hq' j w hj
    rw [F1o 106 (by omega)]
    exact hp q' hq' j w hj
  have hql : (q.length : Int) = σ (b + 14 + 7 * x.toNat + 1) 0 := by
    have h1 := (hits_mem _ _ _ hβ').1
    have h2 := asC_len (σ := σ) (r := b + 14 + 7 * x.toNat + 1) Wu.2.2.2.1.1.1
    dsimp only at h1
    omega
  have hql1 : (q.length : Int) = τ1 (b + 14 + 7 * x.toNat + 1) 0 := by rw [F1o _ (by omega)]; exact hql
  have hl1 : τ1 (b + 8) 1 < 100 := by rw [F1o _ (by omega)]; exact hl
  have s01 : τ1 (b + 8) 0 = σ (b + 8) 0 := by rw [F1o _ (by omega)]
  have k1 : τ1 (b + 14 + 7 * x.toNat) 0 = σ (b + 14 + 7 * x.toNat) 0 := by rw [F1o _ (by omega)]
  have wk := Wu.1
  have wc := Wu.2.2.2.1.1
  unfold stepA
  show ∃ τ k, FrH b σ τ ∧ WfHa τ b ∧ (rnC τ b, k) = (if σ (b + 14 + 7 * x.toNat) 0 = 0 then makeA x _ q (bindA (asC σ (b + 14 + 7 * x.toNat + 1)) q bd0) _ else if σ (b + 14 + 7 * x.toNat) 0 = 1 then meltA x _ q (bindA (asC σ (b + 14 + 7 * x.toNat + 1)) q bd0) _ else _) ∧ _
  rw [eb]
  by_cases e0 : σ (b + 14 + 7 * x.toNat) 0 = 0
  · rw [if_pos e0]
    obtain ⟨τ, k, g1, g2, g3, g4, g5⟩ := s_makeRows (sc := sc) (d := d - 1) (σ := τ1) (x := x) (q := q) (β := β) (C := C) o (by omega) W1 x0 (by omega) T1 bb b1 (by rw [er1]; exact hs) (by rw [eu1]; exact hr) hl1 hp1 hql1
    rw [eu1, er1] at g3
    refine ⟨τ, k, FH1.trans g1, g2, g3, g4.trans s01, fun u Q => ?_⟩
    simp (disch := first | assumption | omega | exact notL_I | exact notL_N | exact notL_R | exact catS_le (Nat.le_of_ble_eq_true rfl) | exact Nat.le_of_ble_eq_true rfl | exact ooRo (by assumption) | exact ooAt (by assumption) | exact ooRu (by assumption) | exact ooLo (by assumption) | exact ooHa (by assumption) | exact ooLe (by assumption) | exact ooFn | exact ooAn | exact ooPa | exact ooTo | exact ooWa | exact ooCh | rfl) only [x107_0, x107_1, x107_4, x107_5, x107_6, x107_7, x107_8, x107_9, x107_12, x107_13, x107_16, x107_19, x107_20, x107_23, x107_26, x107_27, x107_28, x107_29, x107_32, x107_33, x107_34, x107_37, x107_38, x107_41, x107_42, x107_43, x107_44, x107_47, x107_48, x107_49, x107_50, x107_51, x107_52, x107_53, x107_54, x107_57, x107_58, gHa_rules, gHa_rows, Rr_rules, gRu_ahead, gRu_kind, r1 u, k1, e0, g5 u, Kc_some, Kc_none, if_pos, if_neg, ↓reduceIte, not_true_eq_false, not_false_eq_true]
  · rw [if_neg e0]
    by_cases e1 : σ (b + 14 + 7 * x.toNat) 0 = 1
    · rw [if_pos e1]
      obtain ⟨⟨p1, p2⟩, p3, p4⟩ := hr.2.2.2.2.2 e1
      have ta : isTm (worthB β (σ (b + 14 + 7 * x.toNat) 3)) := worth_ok b1 p1 (fun z => b3 _ z (p2 z))
      have tb : isTm (worthB β (σ (b + 14 + 7 * x.toNat) 4)) := worth_ok b1 p3 (fun z => b3 _ z (p4 z))
      obtain ⟨τ, k, g1, g2, g3, g4, g5⟩ := s_meltTerms (sc := sc) (d := d - 1) (σ := τ1) (x := x) (q := q) (β := β) o (by omega) W1 x0 (by omega) T1 bb hl1 hp1 hql1 (by rw [F1o _ (by omega)]; exact ta) (by rw [F1o _ (by omega)]; exact tb)
      rw [eu1, er1] at g3
      refine ⟨τ, k, FH1.trans g1, g2, g3, g4.trans s01, fun u Q => ?_⟩
      simp (disch := first | assumption | omega | exact notL_I | exact notL_N | exact notL_R | exact catS_le (Nat.le_of_ble_eq_true rfl) | exact Nat.le_of_ble_eq_true rfl | exact ooRo (by assumption) | exact ooAt (by assumption) | exact ooRu (by assumption) | exact ooLo (by assumption) | exact ooHa (by assumption) | exact ooLe (by assumption) | exact ooFn | exact ooAn | exact ooPa | exact ooTo | exact ooWa | exact ooCh | rfl) only [x107_0, x107_1, x107_4, x107_5, x107_6, x107_7, x107_8, x107_9, x107_12, x107_13, x107_16, x107_19, x107_20, x107_23, x107_26, x107_27, x107_28, x107_29, x107_32, x107_33, x107_34, x107_37, x107_38, x107_41, x107_42, x107_43, x107_44, x107_47, x107_48, x107_49, x107_50, x107_51, x107_52, x107_53, x107_54, x107_57, x107_58, gHa_rules, gHa_rows, Rr_rules, gRu_ahead, gRu_kind, r1 u, k1, e1, g5 u, Kc_some, Kc_none, if_pos, if_neg, ↓reduceIte, not_true_eq_false, not_false_eq_true]
    · rw [if_neg e1]
      have e2 : σ (b + 14 + 7 * x.toNat) 0 = 2 := by omega
      obtain ⟨τ, F, Wl, s0, s1, st, r⟩ := s_noteH (sc := sc) (d := d - 1) (σ := τ1) (x := x) (m := 0) (w := -1) (v := -1) (q := q) o (by omega) x0 (by omega) W1.2.2.2.1 W1.2.2.2.2.1 hl1 hp1 hql1 (by omega) ⟨by omega, by omega⟩ ⟨by omega, by omega⟩ ⟨by omega, by omega⟩
      have Fo : ∀ c, c < b + 8 ∨ b + 10 ≤ c → τ c = τ1 c := fun c h => F c (by omega)
      have FH : FrH b τ1 τ := F.fh (n := 8) (by omega) (by omega)
      refine ⟨τ, 2, FH1.trans FH, WfHa.run o W1 FH (W1.2.2.2.1.c (fun c c0 c1 => Fo c (by omega))) Wl (W1.2.2.2.2.2.1.c (by rw [Fo _ (by omega)]) (Fo _ (by omega)) (Fo _ (by omega))), ?_, s0.trans s01, fun u Q => ?_⟩
      · show ((rsC τ (b + 3), τ (b + 3) 1, naC τ (b + 3), stC τ (b + 8), byC τ (b + 8)), (2 : Int)) = _
        have g3 : naC τ (b + 3) = naC τ1 (b + 3) := by unfold naC; rw [Fo _ (by omega)]
        have g5 : byC τ (b + 8) = byC τ1 (b + 8) := by unfold byC; rw [Fo _ (by omega)]
        have q3 : naC τ1 (b + 3) = naC σ (b + 3) := congrArg (fun z => z.2.2.1) er1
        have q4 : stC τ1 (b + 8) = stC σ (b + 8) := congrArg (fun z => z.2.2.2.1) er1
        have q5 : byC τ1 (b + 8) = byC σ (b + 8) := congrArg (fun z => z.2.2.2.2) er1
        rw [rsC_c (σ := τ1) (fun c c0 c1 => Fo c (by omega)), Fo (b + 3) (by omega), g3, st, g5, ers, F1o (b + 3) (by omega), q3, q4, q5]
        rfl
      · simp (disch := first | assumption | omega | exact notL_I | exact notL_N | exact notL_R | exact catS_le (Nat.le_of_ble_eq_true rfl) | exact Nat.le_of_ble_eq_true rfl | exact ooRo (by assumption) | exact ooAt (by assumption) | exact ooRu (by assumption) | exact ooLo (by assumption) | exact ooHa (by assumption) | exact ooLe (by assumption) | exact ooFn | exact ooAn | exact ooPa | exact ooTo | exact ooWa | exact ooCh | rfl) only [x107_0, x107_1, x107_4, x107_5, x107_6, x107_7, x107_8, x107_9, x107_12, x107_13, x107_16, x107_19, x107_20, x107_23, x107_26, x107_27, x107_28, x107_29, x107_32, x107_33, x107_34, x107_37, x107_38, x107_41, x107_42, x107_43, x107_44, x107_47, x107_48, x107_49, x107_50, x107_51, x107_52, x107_53, x107_54, x107_57, x107_58, gHa_rules, gHa_rows, Rr_rules, gRu_ahead, gRu_kind, r1 u, k1, e2, r u, Kc_some, Kc_none, if_pos, if_neg, ↓reduceIte, not_true_eq_false, not_false_eq_true]
end N4
