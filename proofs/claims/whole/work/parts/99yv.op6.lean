/-! calls that look for an open hit -/
section O6
variable {sc : Scr} {d : Nat} {σ τ : St} {A : AS}
theorem c_find {h r : Int} {R : Ru} (hd : 9 ≤ d) (h0 : 0 ≤ h) (h2 : h ≤ 2) (Vc : VC A σ) (o : okAS A) (r0 : 0 ≤ r) (r1 : r < ((A.1 h).2.1.length : Int)) (hR : (A.1 h).2.1[r.toNat]? = some R) :
    ruC σ (hpb h + 14 + 7 * r.toNat) = R ∧ rsC σ (hpb h + 3) = (A.1 h).2.2.2.1 ∧ ∃ τ, FnH σ τ ∧ opI τ (A.1 h).2.2.2.1 (openL R (A.1 h).2.2.2.1) ∧ RnA sc d 96 0 [some (vR 101), some (vR (hpb h + 14 + 7 * r.toNat)), some (vR (hpb h + 3)), none, none] σ (some (vI (bI (openL R (A.1 h).2.2.2.1).isSome))) τ := by
  obtain ⟨a1, a2, a3⟩ := Vc.1 h h0 h2
  obtain ⟨l1, g1⟩ := Vc.ru (r := r) h0 h2
  have k := o.1 h h0 h2
  have l10 := k.2.2.2.2.1
  have ob := hpb_o h0 h2
  have er : ruC σ (hpb h + 14 + 7 * r.toNat) = R := Option.some.inj ((g1 r0 r1).symm.trans hR)
  have es : rsC σ (hpb h + 3) = (A.1 h).2.2.2.1 := congrArg (fun x : Hl => x.2.2.2.1) a1
  have okr := k.2.2.2.1 _ (List.mem_of_getElem? hR)
  have ri := Vc.ri o h0 h2
  have wu := a2.2.2.2.2.2.2 r.toNat (by omega)
  have el := asC_len (σ := σ) (r := hpb h + 14 + 7 * r.toNat + 1) wu.2.2.2.1.1.1
  have ea : asC σ (hpb h + 14 + 7 * r.toNat + 1) = R.2.1 := congrArg (fun x : Ru => x.2.1) er
  rw [ea] at el
  have ft := ri.fit (k := r.toNat) (by omega)
  have fo := s_findOpen (sc := sc) (d := d) (σ := σ) (a := hpb h + 14 + 7 * r.toNat) (r := hpb h + 3) (ob.ru (k := r.toNat) (by omega)) ob.rows hd wu a2.2.2.2.1 (by have := okr.2.2.2.1.1; omega) ft.1 ft.2 (by rw [es]; exact k.2.2.2.2.2.1.2.1) (fun w hw => by rw [es] at hw; exact (k.2.2.2.2.2.1.2.2.1 w hw).1)
  rw [er, es] at fo
  exact ⟨er, es, fo⟩
theorem m_find {h r : Int} {R : Ru} (hd : 14 ≤ d) (h0 : 0 ≤ h) (h2 : h ≤ 2) (Vr : VR A σ) (o : okAS A) (r0 : 0 ≤ r) (r1 : r < ((A.1 h).2.1.length : Int)) (hR : (A.1 h).2.1[r.toNat]? = some R) :
    σ 376 (30 * (10 * h + r)) = (R.2.1.length : Int) ∧ ∃ ρ, Fi σ ρ ∧ bestI (R.2.1.length : Int) ρ (openL R (A.1 h).2.2.2.1) ∧ RnA sc d 226 0 [some (vR 373), some (vI h), some (vI r)] σ (some (vI (bI (openL R (A.1 h).2.2.2.1).isSome))) ρ := by
  obtain ⟨m1, m2⟩ := Vr.ru (r := r) h0 h2
  have k := o.1 h h0 h2
  have l10 := k.2.2.2.2.1
  have er : ruR σ h r = R := Option.some.inj ((m2 r0 r1).symm.trans hR)
  have es : rsR σ h = (A.1 h).2.2.2.1 := congrArg (fun x : Hl => x.2.2.2.1) (Vr.1 h h0 h2)
  have ri := Vr.ri o h0 h2
  have at_ := ri.at_ h0 (by omega) r0 (by omega)
  have wr := Vr.2.1.1.rul h0 (show h ≤ 4 by omega) r0 (show r ≤ 9 by omega)
  have el : ∀ (k : Nat) (i : Int), (atsF σ h r 0 k i).length = k := by
    intro k
    induction k with
    | zero => intro i; rfl
    | succ k ih => intro i; rw [atsF, List.length_cons, ih]
  have en : σ 376 (30 * (10 * h + r)) = (R.2.1.length : Int) := by
    rw [← er]
    show _ = ((atsF σ h r 0 (σ 376 (30 * (10 * h + r))).toNat 0).length : Int)
    rw [el]
    omega
  have fi := s_finds (sc := sc) (d := d) (σ := σ) h0 (show h ≤ 4 by omega) r0 (show r ≤ 9 by omega) Vr.2.1.1 at_.1 at_.2 hd
  rw [er, es, en] at fi
  exact ⟨en, fi⟩
theorem op_holds {h r : Int} (hd : 100 ≤ d) (hh : inR h) (hr : inR r) (V : VV A σ) : Lk sc d 128 [some (vR 0), some (vI h), some (vI r), none] 225 [some (vR 373), some (vI h), some (vI r)] σ := by
  obtain ⟨Vc, Vr, o⟩ := id V
  by_cases hrg : 0 ≤ h ∧ h ≤ 2
  · obtain ⟨h0, h2⟩ := hrg
    have ha := fun u Q => s_hallAt (sc := sc) (σ := σ) (d := d - 1) (u := u) (Q := Q) h0 h2
    have ob := hpb_o h0 h2
    have l10 := (o.1 h h0 h2).2.2.2.2.1
    obtain ⟨l1, g1⟩ := Vc.ru (r := r) h0 h2
    have hru := fun u Q => s_hasRule (sc := sc) (σ := σ) (d := d - 1) (u := u) (Q := Q) (b := hpb h) (x := r) ob hr (Vc.1 h h0 h2).2.1.2.1
    have is1 := fun (S : St) u Q => s_isIn (sc := sc) (σ := S) (u := u) (Q := Q) (d := d - 1) (v := r) (a := 0) (b := ((A.1 h).2.1.length : Int) - 1) hr ⟨by decide, by decide⟩ ⟨by omega, by omega⟩
    rw [l1] at hru
    by_cases hy : 0 ≤ r ∧ r < ((A.1 h).2.1.length : Int)
    · simp only [if_pos hy] at hru
      simp only [if_pos (show 0 ≤ r ∧ r ≤ ((A.1 h).2.1.length : Int) - 1 by omega)] at is1
      have oru := ob.ru (k := r.toNat) (by omega)
      obtain ⟨er, es, τ, t1, t2, t3⟩ := c_find (sc := sc) (d := d - 1) (by omega) h0 h2 Vc o hy.1 hy.2 (g1 hy.1 hy.2)
      unfold RnA at t3
      have Vr1 := Vr.up (fun c hc => t1 c (by omega))
      have Vc1 : VC A τ := Vc.sc_ (fun c _ hc => t1 c (by omega))
      have m1 := (Vr1.ru (r := r) h0 h2).1
      have ry := r_yes (sc := sc) (d := d - 1) (σ := τ) (h := h) (by omega) h0 h2
      have fa := fun u Q => s_fails (sc := sc) (σ := τ) (u := u) (Q := Q) (d := d - 1) (b := 0) (Or.inl rfl)
      have n375 : su τ 373 0 0 375 = τ 375 := su_ne (by omega)
      obtain ⟨en, ρ, p1, p2, p3⟩ := m_find (sc := sc) (d := d - 1) (by omega) h0 h2 (Vr1.th (x := 0)) o hy.1 hy.2 (g1 hy.1 hy.2)
      unfold RnA at p3
      have fin : ∀ v : Int, inR v → (∀ (u : Bool × Nat × Nat × Int) (Q : Rs → HS → Prop), Ex sc d 128 0 [some (vR 0), some (vI h), some (vI r), none] [] (wH σ u) Q ↔ Q (.inl (some (vI (v)))) (wH τ u)) → (∀ (u : Bool × Nat × Nat × Int) (Q : Rs → HS → Prop), Ex sc d 225 0 [some (vR 373), some (vI h), some (vI r)] [] (wH τ u) Q ↔ Q (.inl (some (vI (v)))) (wH ρ u)) → Lk sc d 128 [some (vR 0), some (vI h), some (vI r), none] 225 [some (vR 373), some (vI h), some (vI r)] σ := fun v hv q1 q2 => Lk.ok hv o Vc1 (Vr1.th.fi p1) (fun c hc => by rw [p1.1 c (by omega) (by omega) (by omega) (by omega) (by omega), su_ne (by omega)]) (by rw [p1.2 0 (by omega) (by omega) (by omega), su_eq]) q1 q2
      cases hs : (openL (ruC σ (hpb h + 14 + 7 * r.toNat)) (A.1 h).2.2.2.1).isSome with
      | true =>
        rw [hs, bI_t] at t3 p3
        refine fin 0 ⟨by decide, by decide⟩ (fun u Q => ?_) (fun u Q => ?_)
        · simp (disch := first | assumption | omega | exact notL_I | exact notL_N | exact notL_R | exact catS_le (Nat.le_of_ble_eq_true rfl) | exact Nat.le_of_ble_eq_true rfl | exact ooRo (by assumption) | exact ooAt (by assumption) | exact ooRu (by assumption) | exact ooLo (by assumption) | exact ooHa (by assumption) | exact ooLe (by assumption) | exact ooFn | exact ooAn | exact ooPa | exact ooTo | exact ooWa | exact ooCh | rfl) only [x128_0, x128_1, x128_2, x128_5, x128_6, x128_7, x128_8, x128_11, x128_14, x128_15, x128_16, x128_17, x128_20, x128_21, x128_24, x128_25, x128_26, x128_27, x128_30, x128_33, x128_36, x128_37, x128_40, x128_41, ha, hru, gCh_finder, gHa_rules, Rr_rules, gHa_rows, t3, Kc_some, if_pos, if_neg, ↓reduceIte, not_true_eq_false, not_false_eq_true]
        · simp (disch := first | omega | exact notL_I | exact notL_N | exact notL_R | exact oM | exact catS_le (Nat.le_of_ble_eq_true rfl) | exact Nat.le_of_ble_eq_true rfl | rfl) only [x225_0, x225_1, x225_2, x225_5, x225_8, x225_11, x225_12, x225_13, x225_14, x225_15, x225_16, x225_19, x225_20, x225_21, x225_22, x225_23, x225_26, x225_29, x225_30, x225_33, x225_34, x225_35, x225_36, x225_39, x225_42, x225_43, x225_46, x225_47, ry, fa, gM_ruleMany, RM_ruleMany, n375, m1, is1, p3, Kc_some, Kc_none, if_pos, if_neg, ↓reduceIte, not_true_eq_false, not_false_eq_true]
      | false =>
        rw [hs, bI_f] at t3 p3
        refine fin 1 ⟨by decide, by decide⟩ (fun u Q => ?_) (fun u Q => ?_)
        · simp (disch := first | assumption | omega | exact notL_I | exact notL_N | exact notL_R | exact catS_le (Nat.le_of_ble_eq_true rfl) | exact Nat.le_of_ble_eq_true rfl | exact ooRo (by assumption) | exact ooAt (by assumption) | exact ooRu (by assumption) | exact ooLo (by assumption) | exact ooHa (by assumption) | exact ooLe (by assumption) | exact ooFn | exact ooAn | exact ooPa | exact ooTo | exact ooWa | exact ooCh | rfl) only [x128_0, x128_1, x128_2, x128_5, x128_6, x128_7, x128_8, x128_11, x128_14, x128_15, x128_16, x128_17, x128_20, x128_21, x128_24, x128_25, x128_26, x128_27, x128_30, x128_33, x128_36, x128_37, x128_40, x128_41, ha, hru, gCh_finder, gHa_rules, Rr_rules, gHa_rows, t3, Kc_some, if_pos, if_neg, ↓reduceIte, not_true_eq_false, not_false_eq_true]
        · simp (disch := first | omega | exact notL_I | exact notL_N | exact notL_R | exact oM | exact catS_le (Nat.le_of_ble_eq_true rfl) | exact Nat.le_of_ble_eq_true rfl | rfl) only [x225_0, x225_1, x225_2, x225_5, x225_8, x225_11, x225_12, x225_13, x225_14, x225_15, x225_16, x225_19, x225_20, x225_21, x225_22, x225_23, x225_26, x225_29, x225_30, x225_33, x225_34, x225_35, x225_36, x225_39, x225_42, x225_43, x225_46, x225_47, ry, fa, gM_ruleMany, RM_ruleMany, n375, m1, is1, p3, Kc_some, Kc_none, if_pos, if_neg, ↓reduceIte, not_true_eq_false, not_false_eq_true]
    · simp only [if_neg hy] at hru
      simp only [if_neg (show ¬ (0 ≤ r ∧ r ≤ ((A.1 h).2.1.length : Int) - 1) by omega)] at is1
      have ry := r_yes (sc := sc) (d := d - 1) (σ := σ) (h := h) (by omega) h0 h2
      have fa := fun u Q => s_fails (sc := sc) (σ := σ) (u := u) (Q := Q) (d := d - 1) (b := 0) (Or.inl rfl)
      have n375 : su σ 373 0 0 375 = σ 375 := su_ne (by omega)
      have m1 := (Vr.ru (r := r) h0 h2).1
      refine Lk.eq V (v := -1) ⟨by decide, by decide⟩ (fun u Q => ?_) (fun u Q => ?_)
      · simp (disch := first | assumption | omega | exact notL_I | exact notL_N | exact notL_R | exact catS_le (Nat.le_of_ble_eq_true rfl) | exact Nat.le_of_ble_eq_true rfl | exact ooRo (by assumption) | exact ooAt (by assumption) | exact ooRu (by assumption) | exact ooLo (by assumption) | exact ooHa (by assumption) | exact ooLe (by assumption) | exact ooFn | exact ooAn | exact ooPa | exact ooTo | exact ooWa | exact ooCh | rfl) only [x128_0, x128_1, x128_2, x128_5, x128_6, x128_7, x128_8, x128_11, x128_14, x128_15, x128_16, x128_17, x128_20, x128_21, x128_24, x128_25, x128_26, x128_27, x128_30, x128_33, x128_36, x128_37, x128_40, x128_41, ha, hru, Kc_some, if_pos, if_neg, ↓reduceIte, not_true_eq_false, not_false_eq_true]
      · simp (disch := first | omega | exact notL_I | exact notL_N | exact notL_R | exact oM | exact catS_le (Nat.le_of_ble_eq_true rfl) | exact Nat.le_of_ble_eq_true rfl | rfl) only [x225_0, x225_1, x225_2, x225_5, x225_8, x225_11, x225_12, x225_13, x225_14, x225_15, x225_16, x225_19, x225_20, x225_21, x225_22, x225_23, x225_26, x225_29, x225_30, x225_33, x225_34, x225_35, x225_36, x225_39, x225_42, x225_43, x225_46, x225_47, ry, fa, gM_ruleMany, RM_ruleMany, n375, m1, is1, Kc_some, if_pos, if_neg, ↓reduceIte, not_true_eq_false, not_false_eq_true]
  · have rn := r_no (sc := sc) (d := d - 1) (σ := σ) (h := h) (by omega) hh hrg
    have fa := fun u Q => s_fails (sc := sc) (σ := σ) (u := u) (Q := Q) (d := d - 1) (b := 1) (Or.inr rfl)
    refine Lk.no V (Or.inl ⟨rfl, by decide⟩) (fun u Q => ?_) (fun u Q => ?_)
    · have nh := fun u Q => s_noHallC (sc := sc) (σ := σ) (d := d - 1) (u := u) (Q := Q) hh hrg
      simp (disch := first | assumption | omega | exact notL_I | exact notL_N | exact notL_R | exact catS_le (Nat.le_of_ble_eq_true rfl) | exact Nat.le_of_ble_eq_true rfl | exact ooRo (by assumption) | exact ooAt (by assumption) | exact ooRu (by assumption) | exact ooLo (by assumption) | exact ooHa (by assumption) | exact ooLe (by assumption) | exact ooFn | exact ooAn | exact ooPa | exact ooTo | exact ooWa | exact ooCh | rfl) only [x128_0, x128_1, x128_2, x128_5, x128_6, x128_7, x128_8, x128_11, x128_14, x128_15, x128_16, x128_17, x128_20, x128_21, x128_24, x128_25, x128_26, x128_27, x128_30, x128_33, x128_36, x128_37, x128_40, x128_41, nh]
      exact thrK rfl rfl
    · simp (disch := first | omega | exact notL_I | exact notL_N | exact notL_R | exact oM | exact catS_le (Nat.le_of_ble_eq_true rfl) | exact Nat.le_of_ble_eq_true rfl | rfl) only [x225_0, x225_1, x225_2, x225_5, x225_8, x225_11, x225_12, x225_13, x225_14, x225_15, x225_16, x225_19, x225_20, x225_21, x225_22, x225_23, x225_26, x225_29, x225_30, x225_33, x225_34, x225_35, x225_36, x225_39, x225_42, x225_43, x225_46, x225_47, rn, fa, Kc_some, if_pos, if_neg, ↓reduceIte, not_true_eq_false, not_false_eq_true]
      rfl
theorem op_hit {h r i : Int} (hd : 100 ≤ d) (hh : inR h) (hr : inR r) (hi : inR i) (V : VV A σ) : Lk sc d 130 [some (vR 0), some (vI h), some (vI r), some (vI i), none] 239 [some (vR 373), some (vI h), some (vI r), some (vI i)] σ := by
  obtain ⟨Vc, Vr, o⟩ := id V
  by_cases hrg : 0 ≤ h ∧ h ≤ 2
  · obtain ⟨h0, h2⟩ := hrg
    have ha := fun u Q => s_hallAt (sc := sc) (σ := σ) (d := d - 1) (u := u) (Q := Q) h0 h2
    have ob := hpb_o h0 h2
    have l10 := (o.1 h h0 h2).2.2.2.2.1
    obtain ⟨l1, g1⟩ := Vc.ru (r := r) h0 h2
    have hru := fun u Q => s_hasRule (sc := sc) (σ := σ) (d := d - 1) (u := u) (Q := Q) (b := hpb h) (x := r) ob hr (Vc.1 h h0 h2).2.1.2.1
    have is1 := fun (S : St) u Q => s_isIn (sc := sc) (σ := S) (u := u) (Q := Q) (d := d - 1) (v := r) (a := 0) (b := ((A.1 h).2.1.length : Int) - 1) hr ⟨by decide, by decide⟩ ⟨by omega, by omega⟩
    rw [l1] at hru
    by_cases hy : 0 ≤ r ∧ r < ((A.1 h).2.1.length : Int)
    · simp only [if_pos hy] at hru
      simp only [if_pos (show 0 ≤ r ∧ r ≤ ((A.1 h).2.1.length : Int) - 1 by omega)] at is1
      have oru := ob.ru (k := r.toNat) (by omega)
      have oah := oru.ahead
      have orr := ob.rows
      have gR := g1 hy.1 hy.2
      have okr := (o.1 h h0 h2).2.2.2.1 _ (List.mem_of_getElem? gR)
      obtain ⟨er, es, τ, t1, t2, t3⟩ := c_find (sc := sc) (d := d - 1) (by omega) h0 h2 Vc o hy.1 hy.2 gR
      unfold RnA at t3
      have wu := (Vc.1 h h0 h2).2.1.2.2.2.2.2.2 r.toNat (by omega)
      have ec := asC_len (σ := σ) (r := hpb h + 14 + 7 * r.toNat + 1) wu.2.2.2.1.1.1
      have l3 : 1 ≤ (asC σ (hpb h + 14 + 7 * r.toNat + 1)).length ∧ (asC σ (hpb h + 14 + 7 * r.toNat + 1)).length ≤ 3 := okr.2.2.2.1
      have wrows := (Vc.1 h h0 h2).2.1.2.2.2.1
      have n375 : ∀ S : St, su S 373 0 0 375 = S 375 := fun S => su_ne (by omega)
      by_cases hj : 0 ≤ i ∧ i < ((asC σ (hpb h + 14 + 7 * r.toNat + 1)).length : Int)
      · have Vr1 := Vr.up (fun c hc => t1 c (by omega))
        have Vc1 : VC A τ := Vc.sc_ (fun c _ hc => t1 c (by omega))
        have m1 := (Vr1.ru (r := r) h0 h2).1
        have ry := r_yes (sc := sc) (d := d - 1) (σ := τ) (h := h) (by omega) h0 h2
        have fa := fun u Q => s_fails (sc := sc) (σ := τ) (u := u) (Q := Q) (d := d - 1) (b := 0) (Or.inl rfl)
        obtain ⟨en, ρ, p1, p2, p3⟩ := m_find (sc := sc) (d := d - 1) (by omega) h0 h2 (Vr1.th (x := 0)) o hy.1 hy.2 gR
        unfold RnA at p3
        have ru0 := fun u Q => s_rule (sc := sc) (σ := su τ 373 0 0) (u := u) (Q := Q) (d := d - 1) (h := h) (r := r) (f := 0) h0 (by omega) hy.1 (by omega) (by omega) (by omega)
        rw [Int.add_zero, en] at ru0
        have is2 := fun u Q => s_isIn (sc := sc) (σ := su τ 373 0 0) (u := u) (Q := Q) (d := d - 1) (v := i) (a := 0) (b := ((asC σ (hpb h + 14 + 7 * r.toNat + 1)).length : Int) - 1) hi ⟨by decide, by decide⟩ ⟨by omega, by omega⟩
        simp only [if_pos (show 0 ≤ i ∧ i ≤ ((asC σ (hpb h + 14 + 7 * r.toNat + 1)).length : Int) - 1 by omega)] at is2
        have fin : ∀ v : Int, inR v → (∀ (u : Bool × Nat × Nat × Int) (Q : Rs → HS → Prop), Ex sc d 130 0 [some (vR 0), some (vI h), some (vI r), some (vI i), none] [] (wH σ u) Q ↔ Q (.inl (some (vI (v)))) (wH τ u)) → (∀ (u : Bool × Nat × Nat × Int) (Q : Rs → HS → Prop), Ex sc d 239 0 [some (vR 373), some (vI h), some (vI r), some (vI i)] [] (wH τ u) Q ↔ Q (.inl (some (vI (v)))) (wH ρ u)) → Lk sc d 130 [some (vR 0), some (vI h), some (vI r), some (vI i), none] 239 [some (vR 373), some (vI h), some (vI r), some (vI i)] σ := fun v hv q1 q2 => Lk.ok hv o Vc1 (Vr1.th.fi p1) (fun c hc => by rw [p1.1 c (by omega) (by omega) (by omega) (by omega) (by omega), su_ne (by omega)]) (by rw [p1.2 0 (by omega) (by omega) (by omega), su_eq]) q1 q2
        have ru0' : ∀ (u : Bool × Nat × Nat × Int) (Q : Rs → HS → Prop), Ex sc (d - 1) 211 0 [some (vR 373), some (vI h), some (vI r), some (vI 0)] [] (wH (su τ 373 0 0) u) Q ↔ Q (.inl (some (vI ((asC σ (hpb h + 14 + 7 * r.toNat + 1)).length : Int)))) (wH (su τ 373 0 0) u) := ru0
        cases hs : openL (ruC σ (hpb h + 14 + 7 * r.toNat)) (A.1 h).2.2.2.1 with
        | some q =>
          rw [hs] at t2 t3 p2 p3
          have b1 : bI (some q : Option (List Rw)).isSome = 1 := rfl
          rw [b1] at t3 p3
          obtain ⟨y1, y2, y3, y4, y5⟩ := p2
          have y3' : (q.length : Int) = ((asC σ (hpb h + 14 + 7 * r.toNat + 1)).length : Int) := y3
          have hq : i.toNat < q.length := by omega
          have gq := List.getElem?_eq_getElem hq
          have w1 := y4 _ (List.getElem_mem hq)
          have w2 := y5 i.toNat _ gq
          rw [show ((i.toNat : Nat) : Int) = i by omega] at w2
          have esτ : rsC τ (hpb h + 3) = (A.1 h).2.2.2.1 := congrArg (fun x : Hl => x.2.2.2.1) (Vc1.1 h h0 h2).1
          have on := fun u Q => s_openNum (sc := sc) (d := d - 1) (σ := τ) (r := hpb h + 3) (i := i) (q := q) (u := u) (Q := Q) orr (by omega) (Vc1.1 h h0 h2).2.1.2.2.2.1 hj.1 (by omega) (by omega) (by rw [esτ]; exact t2)
          rw [gq] at on
          have on' : ∀ (u : Bool × Nat × Nat × Int) (Q : Rs → HS → Prop), Ex sc (d - 1) 117 0 [some (vR 101), some (vR (hpb h + 3)), some (vI i)] [] (wH τ u) Q ↔ Q (.inl (some (vI q[i.toNat].1))) (wH τ u) := on
          generalize q[i.toNat].1 = x at *
          refine fin x ⟨by omega, by omega⟩ (fun u Q => ?_) (fun u Q => ?_)
          · simp (disch := first | assumption | omega | exact notL_I | exact notL_N | exact notL_R | exact catS_le (Nat.le_of_ble_eq_true rfl) | exact Nat.le_of_ble_eq_true rfl | exact ooRo (by assumption) | exact ooAt (by assumption) | exact ooRu (by assumption) | exact ooLo (by assumption) | exact ooHa (by assumption) | exact ooLe (by assumption) | exact ooFn | exact ooAn | exact ooPa | exact ooTo | exact ooWa | exact ooCh | rfl) only [x130_0, x130_1, x130_2, x130_5, x130_7, x130_9, x130_10, x130_13, x130_16, x130_17, x130_20, x130_21, x130_23, x130_26, x130_27, x130_28, x130_31, x130_34, x130_37, x130_38, x130_39, x130_40, x130_43, x130_45, x130_48, x130_49, x130_50, x130_52, x130_55, x130_58, x130_61, x130_62, x130_63, x130_64, x130_67, x130_69, x130_72, x130_73, x130_76, ha, hru, gCh_finder, gHa_rules, Rr_rules, gRu_ahead, gAt_count, ec.symm, gHa_rows, t3, on', Kc_some, if_pos, if_neg, ↓reduceIte, not_true_eq_false, not_false_eq_true]
          · simp (disch := first | omega | exact notL_I | exact notL_N | exact notL_R | exact oM | exact catS_le (Nat.le_of_ble_eq_true rfl) | exact Nat.le_of_ble_eq_true rfl | rfl) only [x239_0, x239_1, x239_2, x239_5, x239_8, x239_11, x239_12, x239_13, x239_14, x239_15, x239_16, x239_19, x239_20, x239_21, x239_22, x239_23, x239_26, x239_29, x239_30, x239_31, x239_32, x239_33, x239_34, x239_35, x239_38, x239_39, x239_40, x239_43, x239_46, x239_47, x239_48, x239_49, x239_52, x239_55, x239_56, x239_59, x239_60, x239_61, x239_64, x239_65, ry, fa, gM_ruleMany, RM_ruleMany, n375, m1, is1, ru0', is2, p3, gM_bestRow, RM_bestRow, w2, Kc_some, Kc_none, if_pos, if_neg, ↓reduceIte, not_true_eq_false, not_false_eq_true]
        | none =>
          rw [hs] at t3 p3
          have b1 : bI (none : Option (List Rw)).isSome = 0 := rfl
          rw [b1] at t3 p3
          refine fin (-1) ⟨by decide, by decide⟩ (fun u Q => ?_) (fun u Q => ?_)
          · simp (disch := first | assumption | omega | exact notL_I | exact notL_N | exact notL_R | exact catS_le (Nat.le_of_ble_eq_true rfl) | exact Nat.le_of_ble_eq_true rfl | exact ooRo (by assumption) | exact ooAt (by assumption) | exact ooRu (by assumption) | exact ooLo (by assumption) | exact ooHa (by assumption) | exact ooLe (by assumption) | exact ooFn | exact ooAn | exact ooPa | exact ooTo | exact ooWa | exact ooCh | rfl) only [x130_0, x130_1, x130_2, x130_5, x130_7, x130_9, x130_10, x130_13, x130_16, x130_17, x130_20, x130_21, x130_23, x130_26, x130_27, x130_28, x130_31, x130_34, x130_37, x130_38, x130_39, x130_40, x130_43, x130_45, x130_48, x130_49, x130_50, x130_52, x130_55, x130_58, x130_61, x130_62, x130_63, x130_64, x130_67, x130_69, x130_72, x130_73, x130_76, ha, hru, gCh_finder, gHa_rules, Rr_rules, gRu_ahead, gAt_count, ec.symm, gHa_rows, t3, Kc_some, if_pos, if_neg, ↓reduceIte, not_true_eq_false, not_false_eq_true]
          · simp (disch := first | omega | exact notL_I | exact notL_N | exact notL_R | exact oM | exact catS_le (Nat.le_of_ble_eq_true rfl) | exact Nat.le_of_ble_eq_true rfl | rfl) only [x239_0, x239_1, x239_2, x239_5, x239_8, x239_11, x239_12, x239_13, x239_14, x239_15, x239_16, x239_19, x239_20, x239_21, x239_22, x239_23, x239_26, x239_29, x239_30, x239_31, x239_32, x239_33, x239_34, x239_35, x239_38, x239_39, x239_40, x239_43, x239_46, x239_47, x239_48, x239_49, x239_52, x239_55, x239_56, x239_59, x239_60, x239_61, x239_64, x239_65, ry, fa, gM_ruleMany, RM_ruleMany, n375, m1, is1, ru0', is2, p3, Kc_some, Kc_none, if_pos, if_neg, ↓reduceIte, not_true_eq_false, not_false_eq_true]
      · have ry := r_yes (sc := sc) (d := d - 1) (σ := σ) (h := h) (by omega) h0 h2
        have fa := fun u Q => s_fails (sc := sc) (σ := σ) (u := u) (Q := Q) (d := d - 1) (b := 0) (Or.inl rfl)
        have m1 := (Vr.ru (r := r) h0 h2).1
        obtain ⟨en, _⟩ := m_find (sc := sc) (d := d - 1) (by omega) h0 h2 (Vr.th (x := 0)) o hy.1 hy.2 gR
        have ru0 := fun u Q => s_rule (sc := sc) (σ := su σ 373 0 0) (u := u) (Q := Q) (d := d - 1) (h := h) (r := r) (f := 0) h0 (by omega) hy.1 (by omega) (by omega) (by omega)
        rw [Int.add_zero, en] at ru0
        have ru0' : ∀ (u : Bool × Nat × Nat × Int) (Q : Rs → HS → Prop), Ex sc (d - 1) 211 0 [some (vR 373), some (vI h), some (vI r), some (vI 0)] [] (wH (su σ 373 0 0) u) Q ↔ Q (.inl (some (vI ((asC σ (hpb h + 14 + 7 * r.toNat + 1)).length : Int)))) (wH (su σ 373 0 0) u) := ru0
        have is2 := fun u Q => s_isIn (sc := sc) (σ := su σ 373 0 0) (u := u) (Q := Q) (d := d - 1) (v := i) (a := 0) (b := ((asC σ (hpb h + 14 + 7 * r.toNat + 1)).length : Int) - 1) hi ⟨by decide, by decide⟩ ⟨by omega, by omega⟩
        simp only [if_neg (show ¬ (0 ≤ i ∧ i ≤ ((asC σ (hpb h + 14 + 7 * r.toNat + 1)).length : Int) - 1) by omega)] at is2
        obtain ⟨i1, i2⟩ := hi
        refine Lk.eq V (v := -1) ⟨by decide, by decide⟩ (fun u Q => ?_) (fun u Q => ?_)
        · by_cases hi0 : i < 0
          · simp (disch := first | assumption | omega | exact notL_I | exact notL_N | exact notL_R | exact catS_le (Nat.le_of_ble_eq_true rfl) | exact Nat.le_of_ble_eq_true rfl | exact ooRo (by assumption) | exact ooAt (by assumption) | exact ooRu (by assumption) | exact ooLo (by assumption) | exact ooHa (by assumption) | exact ooLe (by assumption) | exact ooFn | exact ooAn | exact ooPa | exact ooTo | exact ooWa | exact ooCh | rfl) only [x130_0, x130_1, x130_2, x130_5, x130_7, x130_9, x130_10, x130_13, x130_16, x130_17, x130_20, x130_21, x130_23, x130_26, x130_27, x130_28, x130_31, x130_34, x130_37, x130_38, x130_39, x130_40, x130_43, x130_45, x130_48, x130_49, x130_50, x130_52, x130_55, x130_58, x130_61, x130_62, x130_63, x130_64, x130_67, x130_69, x130_72, x130_73, x130_76, ha, hru, Kc_some, if_pos, if_neg, ↓reduceIte, not_true_eq_false, not_false_eq_true]
          · simp (disch := first | assumption | omega | exact notL_I | exact notL_N | exact notL_R | exact catS_le (Nat.le_of_ble_eq_true rfl) | exact Nat.le_of_ble_eq_true rfl | exact ooRo (by assumption) | exact ooAt (by assumption) | exact ooRu (by assumption) | exact ooLo (by assumption) | exact ooHa (by assumption) | exact ooLe (by assumption) | exact ooFn | exact ooAn | exact ooPa | exact ooTo | exact ooWa | exact ooCh | rfl) only [x130_0, x130_1, x130_2, x130_5, x130_7, x130_9, x130_10, x130_13, x130_16, x130_17, x130_20, x130_21, x130_23, x130_26, x130_27, x130_28, x130_31, x130_34, x130_37, x130_38, x130_39, x130_40, x130_43, x130_45, x130_48, x130_49, x130_50, x130_52, x130_55, x130_58, x130_61, x130_62, x130_63, x130_64, x130_67, x130_69, x130_72, x130_73, x130_76, ha, hru, gHa_rules, Rr_rules, gRu_ahead, gAt_count, ec.symm, Kc_some, if_pos, if_neg, ↓reduceIte, not_true_eq_false, not_false_eq_true]
        · simp (disch := first | omega | exact notL_I | exact notL_N | exact notL_R | exact oM | exact catS_le (Nat.le_of_ble_eq_true rfl) | exact Nat.le_of_ble_eq_true rfl | rfl) only [x239_0, x239_1, x239_2, x239_5, x239_8, x239_11, x239_12, x239_13, x239_14, x239_15, x239_16, x239_19, x239_20, x239_21, x239_22, x239_23, x239_26, x239_29, x239_30, x239_31, x239_32, x239_33, x239_34, x239_35, x239_38, x239_39, x239_40, x239_43, x239_46, x239_47, x239_48, x239_49, x239_52, x239_55, x239_56, x239_59, x239_60, x239_61, x239_64, x239_65, ry, fa, gM_ruleMany, RM_ruleMany, n375, m1, is1, ru0', is2, Kc_some, if_pos, if_neg, ↓reduceIte, not_true_eq_false, not_false_eq_true]
    · simp only [if_neg hy] at hru
      simp only [if_neg (show ¬ (0 ≤ r ∧ r ≤ ((A.1 h).2.1.length : Int) - 1) by omega)] at is1
      have ry := r_yes (sc := sc) (d := d - 1) (σ := σ) (h := h) (by omega) h0 h2
      have fa := fun u Q => s_fails (sc := sc) (σ := σ) (u := u) (Q := Q) (d := d - 1) (b := 0) (Or.inl rfl)
      have n375 : su σ 373 0 0 375 = σ 375 := su_ne (by omega)
      have m1 := (Vr.ru (r := r) h0 h2).1
      refine Lk.eq V (v := -1) ⟨by decide, by decide⟩ (fun u Q => ?_) (fun u Q => ?_)
      · simp (disch := first | assumption | omega | exact notL_I | exact notL_N | exact notL_R | exact catS_le (Nat.le_of_ble_eq_true rfl) | exact Nat.le_of_ble_eq_true rfl | exact ooRo (by assumption) | exact ooAt (by assumption) | exact ooRu (by assumption) | exact ooLo (by assumption) | exact ooHa (by assumption) | exact ooLe (by assumption) | exact ooFn | exact ooAn | exact ooPa | exact ooTo | exact ooWa | exact ooCh | rfl) only [x130_0, x130_1, x130_2, x130_5, x130_7, x130_9, x130_10, x130_13, x130_16, x130_17, x130_20, x130_21, x130_23, x130_26, x130_27, x130_28, x130_31, x130_34, x130_37, x130_38, x130_39, x130_40, x130_43, x130_45, x130_48, x130_49, x130_50, x130_52, x130_55, x130_58, x130_61, x130_62, x130_63, x130_64, x130_67, x130_69, x130_72, x130_73, x130_76, ha, hru, Kc_some, if_pos, if_neg, ↓reduceIte, not_true_eq_false, not_false_eq_true]
      · simp (disch := first | omega | exact notL_I | exact notL_N | exact notL_R | exact oM | exact catS_le (Nat.le_of_ble_eq_true rfl) | exact Nat.le_of_ble_eq_true rfl | rfl) only [x239_0, x239_1, x239_2, x239_5, x239_8, x239_11, x239_12, x239_13, x239_14, x239_15, x239_16, x239_19, x239_20, x239_21, x239_22, x239_23, x239_26, x239_29, x239_30, x239_31, x239_32, x239_33, x239_34, x239_35, x239_38, x239_39, x239_40, x239_43, x239_46, x239_47, x239_48, x239_49, x239_52, x239_55, x239_56, x239_59, x239_60, x239_61, x239_64, x239_65, ry, fa, gM_ruleMany, RM_ruleMany, n375, m1, is1, Kc_some, if_pos, if_neg, ↓reduceIte, not_true_eq_false, not_false_eq_true]
  · have rn := r_no (sc := sc) (d := d - 1) (σ := σ) (h := h) (by omega) hh hrg
    have fa := fun u Q => s_fails (sc := sc) (σ := σ) (u := u) (Q := Q) (d := d - 1) (b := 1) (Or.inr rfl)
    refine Lk.no V (Or.inl ⟨rfl, by decide⟩) (fun u Q => ?_) (fun u Q => ?_)
    · have nh := fun u Q => s_noHallC (sc := sc) (σ := σ) (d := d - 1) (u := u) (Q := Q) hh hrg
      simp (disch := first | assumption | omega | exact notL_I | exact notL_N | exact notL_R | exact catS_le (Nat.le_of_ble_eq_true rfl) | exact Nat.le_of_ble_eq_true rfl | exact ooRo (by assumption) | exact ooAt (by assumption) | exact ooRu (by assumption) | exact ooLo (by assumption) | exact ooHa (by assumption) | exact ooLe (by assumption) | exact ooFn | exact ooAn | exact ooPa | exact ooTo | exact ooWa | exact ooCh | rfl) only [x130_0, x130_1, x130_2, x130_5, x130_7, x130_9, x130_10, x130_13, x130_16, x130_17, x130_20, x130_21, x130_23, x130_26, x130_27, x130_28, x130_31, x130_34, x130_37, x130_38, x130_39, x130_40, x130_43, x130_45, x130_48, x130_49, x130_50, x130_52, x130_55, x130_58, x130_61, x130_62, x130_63, x130_64, x130_67, x130_69, x130_72, x130_73, x130_76, nh]
      exact thrK rfl rfl
    · simp (disch := first | omega | exact notL_I | exact notL_N | exact notL_R | exact oM | exact catS_le (Nat.le_of_ble_eq_true rfl) | exact Nat.le_of_ble_eq_true rfl | rfl) only [x239_0, x239_1, x239_2, x239_5, x239_8, x239_11, x239_12, x239_13, x239_14, x239_15, x239_16, x239_19, x239_20, x239_21, x239_22, x239_23, x239_26, x239_29, x239_30, x239_31, x239_32, x239_33, x239_34, x239_35, x239_38, x239_39, x239_40, x239_43, x239_46, x239_47, x239_48, x239_49, x239_52, x239_55, x239_56, x239_59, x239_60, x239_61, x239_64, x239_65, rn, fa, Kc_some, if_pos, if_neg, ↓reduceIte, not_true_eq_false, not_false_eq_true]
      rfl
end O6
