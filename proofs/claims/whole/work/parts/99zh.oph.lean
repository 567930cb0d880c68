/-! rows are told, both: the call -/
section Oi
variable {sc : Scr} {d : Nat} {σ τ X : St} {A : AS}
theorem VR.hcol (V : VR A σ) (o : okAS A) {h : Int} (h0 : 0 ≤ h) (h2 : h ≤ 2) : ∀ n, 0 ≤ n → n < σ 381 h → σ 377 (200 * h + n) = 1 → 1 ≤ σ 374 (26 * h + σ 378 (200 * h + n)) := fun n n0 n1 n2 => by
  have rS1 : rsR σ h = (A.1 h).2.2.2.1 := congrArg (fun x : Hl => x.2.2.2.1) (V.1 h h0 h2)
  have rC1 : coR σ h = (A.1 h).1 := congrArg (fun x : Hl => x.1) (V.1 h h0 h2)
  have wn := V.2.1.1.nxt h0 (show h ≤ 4 by omega)
  have me : rwR σ h n ∈ rsR σ h := (rs_memI _ _).mpr ⟨n, n0, by omega, n2, rfl⟩
  rw [rS1] at me
  have ok := ((o.1 h h0 h2).2.2.2.2.2.1.1 _ me).2.2.1
  have ta := V.2.1.1.tab h0 (show h ≤ 4 by omega) n0 (show n ≤ 199 by omega)
  rw [← rC1] at ok
  have e : (rwR σ h n).2.1 = σ 378 (200 * h + n) := rfl
  rw [e, coR_in ta.1 ta.2] at ok
  exact ok
theorem s_termW {r : Nat} {p c : Int} (o : oRo r) (hp : inR p) (hc : inR c) (W : WfRo σ r) (p0 : 0 ≤ p) (p1 : p < σ r 0) (u : Bool × Nat × Nat × Int) (Q : Rs → HS → Prop) : Ex sc d 82 0 [some (vR r), some (vI p), some (vI (c - 2))] [] (wH σ u) Q ↔ Q (.inl (some (vI (if 2 ≤ c ∧ c ≤ 4 then σ (r + 3) (p * 3 + (c - 2)) else -1)))) (wH σ u) := by
  obtain ⟨c1, c2⟩ := hc
  by_cases hl : -2147483648 ≤ c - 2
  · rw [s_termAt o hp ⟨hl, by omega⟩ W]
    by_cases e : 2 ≤ c ∧ c ≤ 4
    · rw [if_pos e, if_pos (by omega)]
    · rw [if_neg e, if_neg (by omega)]
  · rw [if_neg (by omega)]
    have w40 := W.1.2
    obtain ⟨q1, q2⟩ := hp
    rcases (show c = -2147483648 ∨ c = -2147483647 by omega) with rfl | rfl
    · simp (disch := first | assumption | omega | exact notL_I | exact notL_N | exact notL_R | exact catS_le (Nat.le_of_ble_eq_true rfl) | exact Nat.le_of_ble_eq_true rfl | exact ooRo (by assumption) | exact ooAt (by assumption) | exact ooRu (by assumption) | exact ooLo (by assumption) | exact ooHa (by assumption) | exact ooLe (by assumption) | exact ooFn | exact ooAn | exact ooPa | exact ooTo | exact ooWa | exact ooCh | rfl) only [x82_0, x82_1, x82_4, x82_5, x82_6, x82_9, x82_12, x82_16, x82_17, x82_21, x82_22, x82_23, x82_24, x82_27, x82_28, x82_29, x82_30, x82_31, x82_32, x82_33, gRo_count, if_pos, if_neg, ↓reduceIte, not_true_eq_false, not_false_eq_true]
      rw [e_ifw ((cd82 13).trans rfl), if_neg (by decide)]
      simp (disch := first | assumption | omega | exact notL_I | exact notL_N | exact notL_R | exact catS_le (Nat.le_of_ble_eq_true rfl) | exact Nat.le_of_ble_eq_true rfl | exact ooRo (by assumption) | exact ooAt (by assumption) | exact ooRu (by assumption) | exact ooLo (by assumption) | exact ooHa (by assumption) | exact ooLe (by assumption) | exact ooFn | exact ooAn | exact ooPa | exact ooTo | exact ooWa | exact ooCh | rfl) only [x82_0, x82_1, x82_4, x82_5, x82_6, x82_9, x82_12, x82_16, x82_17, x82_21, x82_22, x82_23, x82_24, x82_27, x82_28, x82_29, x82_30, x82_31, x82_32, x82_33, if_pos, if_neg, ↓reduceIte, not_true_eq_false, not_false_eq_true]
      rw [e_icmpw ((cd82 18).trans rfl), if_neg (by decide)]
      simp (disch := first | assumption | omega | exact notL_I | exact notL_N | exact notL_R | exact catS_le (Nat.le_of_ble_eq_true rfl) | exact Nat.le_of_ble_eq_true rfl | exact ooRo (by assumption) | exact ooAt (by assumption) | exact ooRu (by assumption) | exact ooLo (by assumption) | exact ooHa (by assumption) | exact ooLe (by assumption) | exact ooFn | exact ooAn | exact ooPa | exact ooTo | exact ooWa | exact ooCh | rfl) only [x82_0, x82_1, x82_4, x82_5, x82_6, x82_9, x82_12, x82_16, x82_17, x82_21, x82_22, x82_23, x82_24, x82_27, x82_28, x82_29, x82_30, x82_31, x82_32, x82_33, if_pos, if_neg, ↓reduceIte, not_true_eq_false, not_false_eq_true]
    · simp (disch := first | assumption | omega | exact notL_I | exact notL_N | exact notL_R | exact catS_le (Nat.le_of_ble_eq_true rfl) | exact Nat.le_of_ble_eq_true rfl | exact ooRo (by assumption) | exact ooAt (by assumption) | exact ooRu (by assumption) | exact ooLo (by assumption) | exact ooHa (by assumption) | exact ooLe (by assumption) | exact ooFn | exact ooAn | exact ooPa | exact ooTo | exact ooWa | exact ooCh | rfl) only [x82_0, x82_1, x82_4, x82_5, x82_6, x82_9, x82_12, x82_16, x82_17, x82_21, x82_22, x82_23, x82_24, x82_27, x82_28, x82_29, x82_30, x82_31, x82_32, x82_33, gRo_count, if_pos, if_neg, ↓reduceIte, not_true_eq_false, not_false_eq_true]
      rw [e_ifw ((cd82 13).trans rfl), if_neg (by decide)]
      simp (disch := first | assumption | omega | exact notL_I | exact notL_N | exact notL_R | exact catS_le (Nat.le_of_ble_eq_true rfl) | exact Nat.le_of_ble_eq_true rfl | exact ooRo (by assumption) | exact ooAt (by assumption) | exact ooRu (by assumption) | exact ooLo (by assumption) | exact ooHa (by assumption) | exact ooLe (by assumption) | exact ooFn | exact ooAn | exact ooPa | exact ooTo | exact ooWa | exact ooCh | rfl) only [x82_0, x82_1, x82_4, x82_5, x82_6, x82_9, x82_12, x82_16, x82_17, x82_21, x82_22, x82_23, x82_24, x82_27, x82_28, x82_29, x82_30, x82_31, x82_32, x82_33, if_pos, if_neg, ↓reduceIte, not_true_eq_false, not_false_eq_true]
      rw [e_icmpw ((cd82 18).trans rfl), if_neg (by decide)]
      simp (disch := first | assumption | omega | exact notL_I | exact notL_N | exact notL_R | exact catS_le (Nat.le_of_ble_eq_true rfl) | exact Nat.le_of_ble_eq_true rfl | exact ooRo (by assumption) | exact ooAt (by assumption) | exact ooRu (by assumption) | exact ooLo (by assumption) | exact ooHa (by assumption) | exact ooLe (by assumption) | exact ooFn | exact ooAn | exact ooPa | exact ooTo | exact ooWa | exact ooCh | rfl) only [x82_0, x82_1, x82_4, x82_5, x82_6, x82_9, x82_12, x82_16, x82_17, x82_21, x82_22, x82_23, x82_24, x82_27, x82_28, x82_29, x82_30, x82_31, x82_32, x82_33, if_pos, if_neg, ↓reduceIte, not_true_eq_false, not_false_eq_true]
theorem op_row {h p c : Int} (hd : 100 ≤ d) (hh : inR h) (hp : inR p) (hc : inR c) (V : VV A σ) : Lk sc d 81 [some (vR 0), some (vI h), some (vI p), some (vI c), none] 221 [some (vR 373), some (vI h), some (vI p), some (vI c), none, none] σ := by
  obtain ⟨Vc, Vr, o⟩ := id V
  by_cases hr : 0 ≤ h ∧ h ≤ 2
  · obtain ⟨h0, h2⟩ := hr
    have ha := fun u Q => s_hallAt (sc := sc) (σ := σ) (d := d - 1) (u := u) (Q := Q) h0 h2
    have ob := hpb_o h0 h2
    have orr := ob.rows
    have k := o.1 h h0 h2
    obtain ⟨a1, a2, a3⟩ := Vc.1 h h0 h2
    have eS : rsC σ (hpb h + 3) = (A.1 h).2.2.2.1 := congrArg (fun x : Hl => x.2.2.2.1) a1
    have wro := a2.2.2.2.1
    have el := rsC_len (σ := σ) (r := hpb h + 3) wro.1.1
    rw [eS] at el
    have w40 := wro.1
    have V0 := Vr.th (x := 0)
    have wn := V0.2.1.1.nxt h0 (show h ≤ 4 by omega)
    have ry := r_yes (sc := sc) (d := d - 1) (σ := σ) (h := h) (by omega) h0 h2
    have fa := fun u Q => s_fails (sc := sc) (σ := σ) (u := u) (Q := Q) (d := d - 1) (b := 0) (Or.inl rfl)
    have lr := l_rowR (sc := sc) (d := d) (σ := su σ 373 0 0) (h := h) (p := p) (c := c) (by omega) V0.2.1.1 h0 (by omega) hp hc (V0.hcol o h0 h2) (su σ 373 0 0 381 h).toNat 0 0 (by omega) (by omega) (by omega) (by omega) (by omega)
    have er : rsF (su σ 373 0 0) h (su σ 373 0 0 381 h).toNat 0 = (A.1 h).2.2.2.1 := congrArg (fun x : Hl => x.2.2.2.1) (V0.1 h h0 h2)
    rw [er, Int.sub_zero] at lr
    have ref : ∀ (u : Bool × Nat × Nat × Int) (Q : Rs → HS → Prop), Ex sc d 221 0 [some (vR 373), some (vI h), some (vI p), some (vI c), none, none] [] (wH σ u) Q ↔ Q (.inl (some (vI (rgL (A.1 h).2.2.2.1 p c)))) (wH (su σ 373 0 0) u) := by
      intro u Q
      rw [← lr u Q]
      simp (disch := first | omega | exact notL_I | exact notL_N | exact notL_R | exact oM | exact catS_le (Nat.le_of_ble_eq_true rfl) | exact Nat.le_of_ble_eq_true rfl | rfl) only [x221_0, x221_1, x221_2, x221_5, x221_8, x221_11, x221_12, x221_13, x221_14, x221_16, x221_17, x221_21, x221_22, x221_25, x221_26, x221_27, x221_30, x221_31, x221_32, x221_34, x221_37, x221_40, x221_43, x221_45, x221_46, x221_49, x221_50, x221_53, x221_55, x221_58, x221_59, x221_60, x221_63, x221_64, x221_65, x221_67, x221_70, x221_73, x221_74, x221_75, x221_76, x221_77, x221_78, x221_79, x221_80, x221_82, x221_85, x221_88, x221_89, x221_92, x221_95, x221_96, x221_97, x221_99, x221_100, x221_101, x221_102, x221_105, x221_108, x221_109, x221_110, x221_113, x221_116, x221_119, x221_120, ry, fa, Kc_some, if_pos, if_neg, ↓reduceIte, not_true_eq_false, not_false_eq_true]
    by_cases hin : 0 ≤ p ∧ p < σ (hpb h + 3) 0
    · have gp := rsC_get (σ := σ) (r := hpb h + 3) (p := p) hin.1 hin.2
      rw [eS] at gp
      have ev := rgL_at (c := c) (A.1 h).2.2.2.1 p _ hin.1 gp
      have wb := wro.2.2.1 p hin.1 (by omega)
      have wt := wro.2.2.2.1
      have tw := s_termW (sc := sc) (d := d - 1) (σ := σ) (r := hpb h + 3) (p := p) (c := c) orr hp hc wro hin.1 hin.2
      rw [ev] at ref
      have e1 : (rwC σ (hpb h + 3) p).1 = σ (hpb h + 3 + 1) p := rfl
      have e2 : (rwC σ (hpb h + 3) p).2.1 = σ (hpb h + 3 + 2) p := rfl
      have e3 : (rwC σ (hpb h + 3) p).2.2.1 = σ (hpb h + 3 + 3) (p * 3) := rfl
      have e4 : (rwC σ (hpb h + 3) p).2.2.2.1 = σ (hpb h + 3 + 3) (p * 3 + 1) := rfl
      have e5 : (rwC σ (hpb h + 3) p).2.2.2.2 = σ (hpb h + 3 + 3) (p * 3 + 2) := rfl
      unfold rvL at ref
      rw [e1, e2, e3, e4, e5] at ref
      obtain ⟨c1, c2⟩ := hc
      obtain ⟨q1, q2⟩ := hp
      by_cases c0 : c = 0
      · rw [if_pos c0] at ref
        refine Lk.eq V (v := σ (hpb h + 3 + 1) p) ⟨by omega, by omega⟩ (fun u Q => ?_) ref
        simp (disch := first | assumption | omega | exact notL_I | exact notL_N | exact notL_R | exact catS_le (Nat.le_of_ble_eq_true rfl) | exact Nat.le_of_ble_eq_true rfl | exact ooRo (by assumption) | exact ooAt (by assumption) | exact ooRu (by assumption) | exact ooLo (by assumption) | exact ooHa (by assumption) | exact ooLe (by assumption) | exact ooFn | exact ooAn | exact ooPa | exact ooTo | exact ooWa | exact ooCh | rfl) only [x81_0, x81_1, x81_2, x81_5, x81_8, x81_10, x81_11, x81_14, x81_15, x81_17, x81_20, x81_23, x81_24, x81_25, x81_26, x81_29, x81_31, x81_34, x81_35, x81_36, x81_37, x81_38, x81_39, x81_42, x81_44, x81_47, x81_48, x81_49, x81_50, x81_52, x81_53, x81_54, x81_55, x81_56, x81_59, ha, gHa_rows, gRo_count, gRo_number, RRo_number, Kc_some, if_pos, if_neg, ↓reduceIte, not_true_eq_false, not_false_eq_true]
      · rw [if_neg c0] at ref
        by_cases c1' : c = 1
        · rw [if_pos c1'] at ref
          refine Lk.eq V (v := σ (hpb h + 3 + 2) p) ⟨by omega, by omega⟩ (fun u Q => ?_) ref
          simp (disch := first | assumption | omega | exact notL_I | exact notL_N | exact notL_R | exact catS_le (Nat.le_of_ble_eq_true rfl) | exact Nat.le_of_ble_eq_true rfl | exact ooRo (by assumption) | exact ooAt (by assumption) | exact ooRu (by assumption) | exact ooLo (by assumption) | exact ooHa (by assumption) | exact ooLe (by assumption) | exact ooFn | exact ooAn | exact ooPa | exact ooTo | exact ooWa | exact ooCh | rfl) only [x81_0, x81_1, x81_2, x81_5, x81_8, x81_10, x81_11, x81_14, x81_15, x81_17, x81_20, x81_23, x81_24, x81_25, x81_26, x81_29, x81_31, x81_34, x81_35, x81_36, x81_37, x81_38, x81_39, x81_42, x81_44, x81_47, x81_48, x81_49, x81_50, x81_52, x81_53, x81_54, x81_55, x81_56, x81_59, ha, gHa_rows, gRo_count, gRo_table, RRo_table, Kc_some, if_pos, if_neg, ↓reduceIte, not_true_eq_false, not_false_eq_true]
        · rw [if_neg c1'] at ref
          have cls : ∀ v : Int, (if 2 ≤ c ∧ c ≤ 4 then σ (hpb h + 3 + 3) (p * 3 + (c - 2)) else -1) = v → ∀ (u : Bool × Nat × Nat × Int) (Q : Rs → HS → Prop), Ex sc d 81 0 [some (vR 0), some (vI h), some (vI p), some (vI c), none] [] (wH σ u) Q ↔ Q (.inl (some (vI (v)))) (wH σ u) := fun v hv u Q => by
            rw [hv] at tw
            simp (disch := first | assumption | omega | exact notL_I | exact notL_N | exact notL_R | exact catS_le (Nat.le_of_ble_eq_true rfl) | exact Nat.le_of_ble_eq_true rfl | exact ooRo (by assumption) | exact ooAt (by assumption) | exact ooRu (by assumption) | exact ooLo (by assumption) | exact ooHa (by assumption) | exact ooLe (by assumption) | exact ooFn | exact ooAn | exact ooPa | exact ooTo | exact ooWa | exact ooCh | rfl) only [x81_0, x81_1, x81_2, x81_5, x81_8, x81_10, x81_11, x81_14, x81_15, x81_17, x81_20, x81_23, x81_24, x81_25, x81_26, x81_29, x81_31, x81_34, x81_35, x81_36, x81_37, x81_38, x81_39, x81_42, x81_44, x81_47, x81_48, x81_49, x81_50, x81_52, x81_53, x81_54, x81_55, x81_56, x81_59, ha, gHa_rows, gRo_count, tw, Kc_some, if_pos, if_neg, ↓reduceIte, not_true_eq_false, not_false_eq_true]
          by_cases c2' : c = 2
          · rw [if_pos c2'] at ref
            have b := wt (p * 3) (by omega) (by omega)
            exact Lk.eq V ⟨by omega, by omega⟩ (cls _ (by rw [if_pos (by omega), show p * 3 + (c - 2) = p * 3 by omega])) ref
          · rw [if_neg c2'] at ref
            by_cases c3 : c = 3
            · rw [if_pos c3] at ref
              have b := wt (p * 3 + 1) (by omega) (by omega)
              exact Lk.eq V ⟨by omega, by omega⟩ (cls _ (by rw [if_pos (by omega), show p * 3 + (c - 2) = p * 3 + 1 by omega])) ref
            · rw [if_neg c3] at ref
              by_cases c4 : c = 4
              · rw [if_pos c4] at ref
                have b := wt (p * 3 + 2) (by omega) (by omega)
                exact Lk.eq V ⟨by omega, by omega⟩ (cls _ (by rw [if_pos (by omega), show p * 3 + (c - 2) = p * 3 + 2 by omega])) ref
              · rw [if_neg c4] at ref
                exact Lk.eq V (v := -1) ⟨by decide, by decide⟩ (cls _ (by rw [if_neg (by omega)])) ref
    · rw [rgL_no (c := c) (A.1 h).2.2.2.1 p (by omega)] at ref
      obtain ⟨q1, q2⟩ := hp
      refine Lk.eq V (v := -1) ⟨by decide, by decide⟩ (fun u Q => ?_) ref
      by_cases hp0 : p < 0
      · simp (disch := first | assumption | omega | exact notL_I | exact notL_N | exact notL_R | exact catS_le (Nat.le_of_ble_eq_true rfl) | exact Nat.le_of_ble_eq_true rfl | exact ooRo (by assumption) | exact ooAt (by assumption) | exact ooRu (by assumption) | exact ooLo (by assumption) | exact ooHa (by assumption) | exact ooLe (by assumption) | exact ooFn | exact ooAn | exact ooPa | exact ooTo | exact ooWa | exact ooCh | rfl) only [x81_0, x81_1, x81_2, x81_5, x81_8, x81_10, x81_11, x81_14, x81_15, x81_17, x81_20, x81_23, x81_24, x81_25, x81_26, x81_29, x81_31, x81_34, x81_35, x81_36, x81_37, x81_38, x81_39, x81_42, x81_44, x81_47, x81_48, x81_49, x81_50, x81_52, x81_53, x81_54, x81_55, x81_56, x81_59, ha, gHa_rows, Kc_some, if_pos, if_neg, ↓reduceIte, not_true_eq_false, not_false_eq_true]
      · simp (disch := first | assumption | omega | exact notL_I | exact notL_N | exact notL_R | exact catS_le (Nat.le_of_ble_eq_true rfl) | exact Nat.le_of_ble_eq_true rfl | exact ooRo (by assumption) | exact ooAt (by assumption) | exact ooRu (by assumption) | exact ooLo (by assumption) | exact ooHa (by assumption) | exact ooLe (by assumption) | exact ooFn | exact ooAn | exact ooPa | exact ooTo | exact ooWa | exact ooCh | rfl) only [x81_0, x81_1, x81_2, x81_5, x81_8, x81_10, x81_11, x81_14, x81_15, x81_17, x81_20, x81_23, x81_24, x81_25, x81_26, x81_29, x81_31, x81_34, x81_35, x81_36, x81_37, x81_38, x81_39, x81_42, x81_44, x81_47, x81_48, x81_49, x81_50, x81_52, x81_53, x81_54, x81_55, x81_56, x81_59, ha, gHa_rows, gRo_count, Kc_some, if_pos, if_neg, ↓reduceIte, not_true_eq_false, not_false_eq_true]
  · have rn := r_no (sc := sc) (d := d - 1) (σ := σ) (h := h) (by omega) hh hr
    have fa := fun u Q => s_fails (sc := sc) (σ := σ) (u := u) (Q := Q) (d := d - 1) (b := 1) (Or.inr rfl)
    refine Lk.no V (Or.inl ⟨rfl, by decide⟩) (fun u Q => ?_) (fun u Q => ?_)
    · have nh := fun u Q => s_noHallC (sc := sc) (σ := σ) (d := d - 1) (u := u) (Q := Q) hh hr
      simp (disch := first | assumption | omega | exact notL_I | exact notL_N | exact notL_R | exact catS_le (Nat.le_of_ble_eq_true rfl) | exact Nat.le_of_ble_eq_true rfl | exact ooRo (by assumption) | exact ooAt (by assumption) | exact ooRu (by assumption) | exact ooLo (by assumption) | exact ooHa (by assumption) | exact ooLe (by assumption) | exact ooFn | exact ooAn | exact ooPa | exact ooTo | exact ooWa | exact ooCh | rfl) only [x81_0, x81_1, x81_2, x81_5, x81_8, x81_10, x81_11, x81_14, x81_15, x81_17, x81_20, x81_23, x81_24, x81_25, x81_26, x81_29, x81_31, x81_34, x81_35, x81_36, x81_37, x81_38, x81_39, x81_42, x81_44, x81_47, x81_48, x81_49, x81_50, x81_52, x81_53, x81_54, x81_55, x81_56, x81_59, nh]
      exact thrK rfl rfl
    · simp (disch := first | omega | exact notL_I | exact notL_N | exact notL_R | exact oM | exact catS_le (Nat.le_of_ble_eq_true rfl) | exact Nat.le_of_ble_eq_true rfl | rfl) only [x221_0, x221_1, x221_2, x221_5, x221_8, x221_11, x221_12, x221_13, x221_14, x221_16, x221_17, x221_19, x221_21, x221_22, x221_25, x221_26, x221_27, x221_30, x221_31, x221_32, x221_34, x221_37, x221_40, x221_43, x221_45, x221_46, x221_49, x221_50, x221_53, x221_55, x221_58, x221_59, x221_60, x221_63, x221_64, x221_65, x221_67, x221_70, x221_73, x221_74, x221_75, x221_76, x221_77, x221_78, x221_79, x221_80, x221_82, x221_85, x221_88, x221_89, x221_92, x221_95, x221_96, x221_97, x221_99, x221_100, x221_101, x221_102, x221_105, x221_108, x221_109, x221_110, x221_113, x221_116, x221_119, x221_120, rn, fa, Kc_some, if_pos, if_neg, ↓reduceIte, not_true_eq_false, not_false_eq_true]
      rfl
end Oi
