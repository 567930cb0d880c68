/-! copies; ends and ranks -/
section O7
variable {sc : Scr} {d : Nat} {σ τ : St} {A : AS}
theorem FrB.kp {h : Int} (F : FrB (hpb h) 84 σ τ) (h2 : h ≤ 2) : KpC (hpb h) σ τ := by
  have r := hpb_r h2
  exact ⟨fun c _ b => F c b, by rw [F 87 (by omega)], by rw [F 87 (by omega)], fun w => w.c (fun c a b => F c (by omega)), fun w => w.c (fun c a b => F c (by omega))⟩
theorem cpH_kp {f t : Int} (W : WfM σ) (f1 : 0 ≤ f) (f2 : f ≤ 4) : KpR t σ (cpH σ f t) := ⟨cpH_rest, fun g _ _ hg => cpH_q hg, cpH_wf W f1 f2, fun z => by rw [cpH_r.1 393 (by omega)]; exact z⟩
theorem op_copy {h g : Int} (hd : 100 ≤ d) (hh : inR h) (hg : inR g) (V : VV A σ) : Lk sc d 74 [some (vR 0), some (vI h), some (vI g), none, none] 217 [some (vR 373), some (vI h), some (vI g)] σ := by
  obtain ⟨Vc, Vr, o⟩ := id V
  by_cases hr : 0 ≤ h ∧ h ≤ 2
  · obtain ⟨h0, h2⟩ := hr
    have ha := fun u Q => s_hallAt (sc := sc) (σ := σ) (d := d - 1) (u := u) (Q := Q) h0 h2
    by_cases hr2 : 0 ≤ g ∧ g ≤ 2
    · obtain ⟨g0, g2⟩ := hr2
      have hb := fun u Q => s_hallAt (sc := sc) (σ := σ) (d := d - 1) (u := u) (Q := Q) g0 g2
      have oh := hpb_o h0 h2
      have og := hpb_o g0 g2
      by_cases e : h = g
      · subst e
        obtain ⟨a1, a2, a3⟩ := Vc.1 h h0 h2
        have es : rsC σ (hpb h + 3) = (A.1 h).2.2.2.1 := congrArg (fun x : Hl => x.2.2.2.1) a1
        have er : rsR σ h = (A.1 h).2.2.2.1 := congrArg (fun x : Hl => x.2.2.2.1) (Vr.1 h h0 h2)
        have el := rsC_len (σ := σ) (r := hpb h + 3) a2.2.2.2.1.1.1
        rw [es] at el
        have w40 := a2.2.2.2.1.1.2
        have orr := oh.rows
        have ry := r_yes (sc := sc) (d := d - 1) (σ := σ) (h := h) (by omega) h0 h2
        have fa := fun u Q => s_fails (sc := sc) (σ := σ) (u := u) (Q := Q) (d := d - 1) (b := 0) (Or.inl rfl)
        have rs := fun u Q => s_rowSum (sc := sc) (σ := su σ 373 0 0) (u := u) (Q := Q) (d := d - 1) (h := h) Vr.th.2.1.1 h0 (by omega)
        rw [(Dt.dsu3 (σ := σ) (i := 0) (x := 0) (by omega)).rsr, er] at rs
        refine Lk.eq V (v := ((A.1 h).2.2.2.1.length : Int)) ⟨by omega, by omega⟩ (fun u Q => ?_) (fun u Q => ?_)
        · simp (disch := first | assumption | omega | exact notL_I | exact notL_N | exact notL_R | exact catS_le (Nat.le_of_ble_eq_true rfl) | exact Nat.le_of_ble_eq_true rfl | exact ooRo (by assumption) | exact ooAt (by assumption) | exact ooRu (by assumption) | exact ooLo (by assumption) | exact ooHa (by assumption) | exact ooLe (by assumption) | exact ooFn | exact ooAn | exact ooPa | exact ooTo | exact ooWa | exact ooCh | rfl) only [x74_0, x74_1, x74_2, x74_5, x74_6, x74_7, x74_8, x74_11, x74_13, x74_14, x74_15, x74_18, x74_20, x74_21, x74_24, x74_26, x74_29, x74_32, ha, gHa_rows, gRo_count, el.symm, Kc_some, if_pos, if_neg, ↓reduceIte, not_true_eq_false, not_false_eq_true]
        · simp (disch := first | omega | exact notL_I | exact notL_N | exact notL_R | exact oM | exact catS_le (Nat.le_of_ble_eq_true rfl) | exact Nat.le_of_ble_eq_true rfl | rfl) only [x217_0, x217_1, x217_2, x217_5, x217_8, x217_9, x217_12, x217_15, x217_16, x217_19, x217_20, x217_23, x217_26, x217_27, x217_28, x217_29, x217_30, x217_33, x217_34, x217_35, x217_36, x217_39, x217_40, x217_41, x217_44, ry, fa, rs, Kc_some, if_pos, if_neg, ↓reduceIte, not_true_eq_false, not_false_eq_true]
      · have ap : apt (hpb h) (hpb g) 84 := by unfold apt hpb; omega
        obtain ⟨a1, a2, a3⟩ := Vc.1 h h0 h2
        obtain ⟨b1, b2, b3⟩ := Vc.1 g g0 g2
        obtain ⟨v1, v2, v3, v4⟩ := cpHa_v (σ := σ) ap a2 b2.2.2.2.2.2.1
        have tk := fun u Q => s_takeH (sc := sc) (σ := σ) (u := u) (Q := Q) (d := d - 1) (q := hpb h) (b := hpb g) oh og (by omega) ap
        rw [a1] at v3
        rw [a3] at v4
        generalize cpHa σ (hpb h) (hpb g) = X at *
        have kp := v1.kp g2
        have Vr1 := Vr.up (kp.up g2)
        have es : rsC X (hpb g + 3) = (A.1 h).2.2.2.1 := congrArg (fun x : Hl => x.2.2.2.1) v3
        have el := rsC_len (σ := X) (r := hpb g + 3) v2.2.2.2.1.1.1
        rw [es] at el
        have w40 := v2.2.2.2.1.1.2
        have orr := og.rows
        have ry := r_yes (sc := sc) (d := d - 1) (σ := X) (h := h) (by omega) h0 h2
        have ry2 := r_yes (sc := sc) (d := d - 1) (σ := X) (h := g) (by omega) g0 g2
        have fa := fun u Q => s_fails (sc := sc) (σ := X) (u := u) (Q := Q) (d := d - 1) (b := 0) (Or.inl rfl)
        have W1 := Vr1.th (x := 0) |>.2.1.1
        have cp := fun u Q => s_copies (sc := sc) (σ := su X 373 0 0) (u := u) (Q := Q) (d := d - 1) (f := h) (t := g) (by omega) W1 h0 (by omega) g0 (by omega) e
        have K2 := cpH_kp (σ := su X 373 0 0) (f := h) (t := g) W1 h0 (by omega)
        have e2 : hlR (cpH (su X 373 0 0) h g) g = A.1 h := (cpH_c.hl W1 h0 (by omega)).trans (Vr1.th.1 h h0 h2)
        have er : rsR (cpH (su X 373 0 0) h g) g = (A.1 h).2.2.2.1 := congrArg (fun x : Hl => x.2.2.2.1) e2
        have rs := fun u Q => s_rowSum (sc := sc) (σ := cpH (su X 373 0 0) h g) (u := u) (Q := Q) (d := d - 1) (h := g) K2.2.2.1 g0 (by omega)
        rw [er] at rs
        refine Lk.ok (v := ((A.1 h).2.2.2.1.length : Int)) ⟨by omega, by omega⟩ (o.st (h := g) (o.1 h h0 h2)) (Vc.h g0 g2 kp v2 v3 v4) (Vr1.th.h K2 e2) (fun c hc => by rw [K2.1.2.2.2.2.2.2.2.2.2 c hc, su_ne (by omega)]) (by rw [cpH_r.1 373 (by omega), su_eq]) (fun u Q => ?_) (fun u Q => ?_)
        · simp (disch := first | assumption | omega | exact notL_I | exact notL_N | exact notL_R | exact catS_le (Nat.le_of_ble_eq_true rfl) | exact Nat.le_of_ble_eq_true rfl | exact ooRo (by assumption) | exact ooAt (by assumption) | exact ooRu (by assumption) | exact ooLo (by assumption) | exact ooHa (by assumption) | exact ooLe (by assumption) | exact ooFn | exact ooAn | exact ooPa | exact ooTo | exact ooWa | exact ooCh | rfl) only [x74_0, x74_1, x74_2, x74_5, x74_6, x74_7, x74_8, x74_11, x74_13, x74_14, x74_15, x74_18, x74_20, x74_21, x74_24, x74_26, x74_29, x74_32, ha, hb, tk, gHa_rows, gRo_count, el.symm, Kc_some, Kc_none, if_pos, if_neg, ↓reduceIte, not_true_eq_false, not_false_eq_true]
        · simp (disch := first | omega | exact notL_I | exact notL_N | exact notL_R | exact oM | exact catS_le (Nat.le_of_ble_eq_true rfl) | exact Nat.le_of_ble_eq_true rfl | rfl) only [x217_0, x217_1, x217_2, x217_5, x217_8, x217_9, x217_12, x217_15, x217_16, x217_19, x217_20, x217_23, x217_26, x217_27, x217_28, x217_29, x217_30, x217_33, x217_34, x217_35, x217_36, x217_39, x217_40, x217_41, x217_44, ry, ry2, fa, cp, rs, Kc_some, Kc_none, if_pos, if_neg, ↓reduceIte, not_true_eq_false, not_false_eq_true]
    · have ry := r_yes (sc := sc) (d := d - 1) (σ := σ) (h := h) (by omega) h0 h2
      have rn := r_no (sc := sc) (d := d - 1) (σ := σ) (h := g) (by omega) hg hr2
      have fa := fun u Q => s_fails (sc := sc) (σ := σ) (u := u) (Q := Q) (d := d - 1) (b := 1) (Or.inr rfl)
      refine Lk.no V (Or.inl ⟨rfl, by decide⟩) (fun u Q => ?_) (fun u Q => ?_)
      · have nh := fun u Q => s_noHallC (sc := sc) (σ := σ) (d := d - 1) (u := u) (Q := Q) hg hr2
        simp (disch := first | assumption | omega | exact notL_I | exact notL_N | exact notL_R | exact catS_le (Nat.le_of_ble_eq_true rfl) | exact Nat.le_of_ble_eq_true rfl | exact ooRo (by assumption) | exact ooAt (by assumption) | exact ooRu (by assumption) | exact ooLo (by assumption) | exact ooHa (by assumption) | exact ooLe (by assumption) | exact ooFn | exact ooAn | exact ooPa | exact ooTo | exact ooWa | exact ooCh | rfl) only [x74_0, x74_1, x74_2, x74_5, x74_6, x74_7, x74_8, x74_11, x74_13, x74_14, x74_15, x74_18, x74_20, x74_21, x74_24, x74_26, x74_29, x74_32, ha, nh, Kc_some]
        exact thrK rfl rfl
      · simp (disch := first | omega | exact notL_I | exact notL_N | exact notL_R | exact oM | exact catS_le (Nat.le_of_ble_eq_true rfl) | exact Nat.le_of_ble_eq_true rfl | rfl) only [x217_0, x217_1, x217_2, x217_5, x217_8, x217_9, x217_12, x217_15, x217_16, x217_19, x217_20, x217_23, x217_26, x217_27, x217_28, x217_29, x217_30, x217_33, x217_34, x217_35, x217_36, x217_39, x217_40, x217_41, x217_44, ry, rn, fa, Kc_some, if_pos, if_neg, ↓reduceIte, not_true_eq_false, not_false_eq_true]
        rfl
  · have rn := r_no (sc := sc) (d := d - 1) (σ := σ) (h := h) (by omega) hh hr
    have fa := fun u Q => s_fails (sc := sc) (σ := σ) (u := u) (Q := Q) (d := d - 1) (b := 1) (Or.inr rfl)
    refine Lk.no V (Or.inl ⟨rfl, by decide⟩) (fun u Q => ?_) (fun u Q => ?_)
    · have nh := fun u Q => s_noHallC (sc := sc) (σ := σ) (d := d - 1) (u := u) (Q := Q) hh hr
      simp (disch := first | assumption | omega | exact notL_I | exact notL_N | exact notL_R | exact catS_le (Nat.le_of_ble_eq_true rfl) | exact Nat.le_of_ble_eq_true rfl | exact ooRo (by assumption) | exact ooAt (by assumption) | exact ooRu (by assumption) | exact ooLo (by assumption) | exact ooHa (by assumption) | exact ooLe (by assumption) | exact ooFn | exact ooAn | exact ooPa | exact ooTo | exact ooWa | exact ooCh | rfl) only [x74_0, x74_1, x74_2, x74_5, x74_6, x74_7, x74_8, x74_11, x74_13, x74_14, x74_15, x74_18, x74_20, x74_21, x74_24, x74_26, x74_29, x74_32, nh]
      exact thrK rfl rfl
    · simp (disch := first | omega | exact notL_I | exact notL_N | exact notL_R | exact oM | exact catS_le (Nat.le_of_ble_eq_true rfl) | exact Nat.le_of_ble_eq_true rfl | rfl) only [x217_0, x217_1, x217_2, x217_5, x217_8, x217_9, x217_12, x217_15, x217_16, x217_19, x217_20, x217_23, x217_26, x217_27, x217_28, x217_29, x217_30, x217_33, x217_34, x217_35, x217_36, x217_39, x217_40, x217_41, x217_44, rn, fa, Kc_some, if_pos, if_neg, ↓reduceIte, not_true_eq_false, not_false_eq_true]
      rfl
/-- both measure -/
theorem c_meas {h : Int} (hd : 5 ≤ d) (h0 : 0 ≤ h) (h2 : h ≤ 2) (Vc : VC A σ) (o : okAS A) :
    ∃ ρ v, FwC σ ρ ∧ rkB ρ 40000 ∧ ((v = 1 ∧ ¬ Ring (EgR (A.1 h).2.1) ∧ Clo (EgR (A.1 h).2.1) (rkC ρ) ∧ Rch (EgR (A.1 h).2.1) (rkC ρ)) ∨ (v = 0 ∧ Ring (EgR (A.1 h).2.1))) ∧ RnA sc d 164 0 [some (vR 117), some (vR (hpb h)), none, none] σ (some (vI v)) ρ := by
  obtain ⟨a1, a2, a3⟩ := Vc.1 h h0 h2
  have k := o.1 h h0 h2
  have hb := hpb_r h2
  have e0 : coC σ (hpb h) = (A.1 h).1 := congrArg (fun x : Hl => x.1) a1
  have e2 : rlC σ (hpb h) = (A.1 h).2.1 := congrArg (fun x : Hl => x.2.1) a1
  have := s_meas (sc := sc) (d := d) (σ := σ) (b := hpb h) (by omega) (hpb_o h0 h2) a2 (by omega) (by rw [e0]; exact k.1) (by rw [e0]; exact k.2.2.1.2) (by rw [e0, e2]; exact k.2.2.2.1)
  rw [e2] at this
  exact this
theorem m_meas {h : Int} (hd : 6 ≤ d) (h0 : 0 ≤ h) (h2 : h ≤ 2) (Vr : VR A σ) (o : okAS A) :
    ∃ ρ v, (∀ c, c ≠ 400 → c ≠ 401 → c ≠ 403 → ρ c = σ c) ∧ WysI (EgR (A.1 h).2.1) ρ ∧ ((v = 1 ∧ ¬ Ring (EgR (A.1 h).2.1)) ∨ (v = 0 ∧ Ring (EgR (A.1 h).2.1))) ∧ RnA sc d 268 0 [some (vR 373), some (vI h), none, none, none] σ (some (vI v)) ρ := by
  have k := o.1 h h0 h2
  have e0 : coR σ h = (A.1 h).1 := congrArg (fun x : Hl => x.1) (Vr.1 h h0 h2)
  have e2 : rlR σ h = (A.1 h).2.1 := congrArg (fun x : Hl => x.2.1) (Vr.1 h h0 h2)
  have ri := Vr.ri o h0 h2
  have := s_mustEnd (sc := sc) (d := d) (σ := σ) (h := h) (by omega) Vr.2.1.1 h0 (by omega) (by rw [e0, e2]; exact k.2.2.2.1) (fun r r0 r1 => ri.at_ h0 (by omega) r0 r1)
  rw [e2] at this
  exact this
theorem op_ends {h : Int} (hd : 100 ≤ d) (hh : inR h) (V : VV A σ) : Lk sc d 163 [some (vR 0), some (vI h)] 267 [some (vR 373), some (vI h)] σ := by
  obtain ⟨Vc, Vr, o⟩ := id V
  by_cases hr : 0 ≤ h ∧ h ≤ 2
  · obtain ⟨h0, h2⟩ := hr
    have ha := fun u Q => s_hallAt (sc := sc) (σ := σ) (d := d - 1) (u := u) (Q := Q) h0 h2
    have ob := hpb_o h0 h2
    obtain ⟨τ, v, t1, t2, t3, t4⟩ := c_meas (sc := sc) (d := d - 1) (by omega) h0 h2 Vc o
    have Vr1 := Vr.up (fun c hc => t1 c (by omega) (by omega))
    have Vc1 : VC A τ := Vc.sc_ (fun c _ hc => t1 c (by omega) (by omega))
    have ry := r_yes (sc := sc) (d := d - 1) (σ := τ) (h := h) (by omega) h0 h2
    have fa := fun u Q => s_fails (sc := sc) (σ := τ) (u := u) (Q := Q) (d := d - 1) (b := 0) (Or.inl rfl)
    obtain ⟨ρ, w, p1, p2, p3, p4⟩ := m_meas (sc := sc) (d := d - 1) (by omega) h0 h2 (Vr1.th (x := 0)) o
    have vw : w = v ∧ (v = 0 ∨ v = 1) := by
      rcases t3 with ⟨x, y, _⟩ | ⟨x, y⟩
      · rcases p3 with ⟨x', y'⟩ | ⟨x', y'⟩
        · omega
        · exact absurd y' y
      · rcases p3 with ⟨x', y'⟩ | ⟨x', y'⟩
        · exact absurd y y'
        · omega
    obtain ⟨rfl, v01⟩ := vw
    unfold RnA at t4 p4
    refine Lk.ok (v := w) ⟨by omega, by omega⟩ o Vc1 (Vr1.th.c (τ := ρ) (fun c hc hc2 => p1 c (by omega) (by omega) (by omega)) (fun j hj => by rw [p1 373 (by omega) (by omega) (by omega)])) (fun c hc => by rw [p1 c (by omega) (by omega) (by omega), su_ne (by omega)]) (by rw [p1 373 (by omega) (by omega) (by omega), su_eq]) (fun u Q => ?_) (fun u Q => ?_)
    · rcases v01 with rfl | rfl
      · simp (disch := first | assumption | omega | exact notL_I | exact notL_N | exact notL_R | exact catS_le (Nat.le_of_ble_eq_true rfl) | exact Nat.le_of_ble_eq_true rfl | exact ooRo (by assumption) | exact ooAt (by assumption) | exact ooRu (by assumption) | exact ooLo (by assumption) | exact ooHa (by assumption) | exact ooLe (by assumption) | exact ooFn | exact ooAn | exact ooPa | exact ooTo | exact ooWa | exact ooCh | rfl) only [x163_0, x163_1, x163_4, x163_5, x163_6, x163_9, x163_12, x163_15, x163_16, x163_19, x163_20, gCh_ways, ha, t4, Kc_some, if_pos, if_neg, ↓reduceIte, not_true_eq_false, not_false_eq_true]
      · simp (disch := first | assumption | omega | exact notL_I | exact notL_N | exact notL_R | exact catS_le (Nat.le_of_ble_eq_true rfl) | exact Nat.le_of_ble_eq_true rfl | exact ooRo (by assumption) | exact ooAt (by assumption) | exact ooRu (by assumption) | exact ooLo (by assumption) | exact ooHa (by assumption) | exact ooLe (by assumption) | exact ooFn | exact ooAn | exact ooPa | exact ooTo | exact ooWa | exact ooCh | rfl) only [x163_0, x163_1, x163_4, x163_5, x163_6, x163_9, x163_12, x163_15, x163_16, x163_19, x163_20, gCh_ways, ha, t4, Kc_some, if_pos, if_neg, ↓reduceIte, not_true_eq_false, not_false_eq_true]
    · rcases v01 with rfl | rfl
      · simp (disch := first | omega | exact notL_I | exact notL_N | exact notL_R | exact oM | exact catS_le (Nat.le_of_ble_eq_true rfl) | exact Nat.le_of_ble_eq_true rfl | rfl) only [x267_0, x267_1, x267_2, x267_5, x267_8, x267_11, x267_12, x267_13, x267_14, x267_15, x267_18, x267_21, x267_22, x267_25, x267_26, ry, fa, p4, Kc_some, if_pos, if_neg, ↓reduceIte, not_true_eq_false, not_false_eq_true]
      · simp (disch := first | omega | exact notL_I | exact notL_N | exact notL_R | exact oM | exact catS_le (Nat.le_of_ble_eq_true rfl) | exact Nat.le_of_ble_eq_true rfl | rfl) only [x267_0, x267_1, x267_2, x267_5, x267_8, x267_11, x267_12, x267_13, x267_14, x267_15, x267_18, x267_21, x267_22, x267_25, x267_26, ry, fa, p4, Kc_some, if_pos, if_neg, ↓reduceIte, not_true_eq_false, not_false_eq_true]
  · have rn := r_no (sc := sc) (d := d - 1) (σ := σ) (h := h) (by omega) hh hr
    have fa := fun u Q => s_fails (sc := sc) (σ := σ) (u := u) (Q := Q) (d := d - 1) (b := 1) (Or.inr rfl)
    refine Lk.no V (Or.inl ⟨rfl, by decide⟩) (fun u Q => ?_) (fun u Q => ?_)
    · have nh := fun u Q => s_noHallC (sc := sc) (σ := σ) (d := d - 1) (u := u) (Q := Q) hh hr
      simp (disch := first | assumption | omega | exact notL_I | exact notL_N | exact notL_R | exact catS_le (Nat.le_of_ble_eq_true rfl) | exact Nat.le_of_ble_eq_true rfl | exact ooRo (by assumption) | exact ooAt (by assumption) | exact ooRu (by assumption) | exact ooLo (by assumption) | exact ooHa (by assumption) | exact ooLe (by assumption) | exact ooFn | exact ooAn | exact ooPa | exact ooTo | exact ooWa | exact ooCh | rfl) only [x163_0, x163_1, x163_4, x163_5, x163_6, x163_9, x163_12, x163_15, x163_16, x163_19, x163_20, gCh_ways, nh]
      exact thrK rfl rfl
    · simp (disch := first | omega | exact notL_I | exact notL_N | exact notL_R | exact oM | exact catS_le (Nat.le_of_ble_eq_true rfl) | exact Nat.le_of_ble_eq_true rfl | rfl) only [x267_0, x267_1, x267_2, x267_5, x267_8, x267_11, x267_12, x267_13, x267_14, x267_15, x267_18, x267_21, x267_22, x267_25, x267_26, rn, fa, Kc_some, if_pos, if_neg, ↓reduceIte, not_true_eq_false, not_false_eq_true]
      rfl
end O7
