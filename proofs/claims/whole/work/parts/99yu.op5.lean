/-! calls that look for hits -/
section O5
variable {sc : Scr} {d : Nat} {σ τ : St} {A : AS}
theorem VC.sc_ (V : VC A σ) (h : ∀ c, c < 373 → c ≤ 100 ∨ c = 108 ∨ 119 ≤ c → τ c = σ c) : VC A τ := by
  obtain ⟨v1, v2, v3, v4, v5, v6, v7⟩ := V
  refine ⟨fun g g0 g2 => ?_, ⟨v2.1.c (fun c a b => h c (by omega) (by omega)), v2.2.c (fun c a b => h c (by omega) (by omega))⟩, by rw [h 0 (by omega) (by omega), h 86 (by omega) (by omega)]; exact v3, by rw [h 87 (by omega) (by omega)]; exact v4, fun k k0 k1 => by rw [h 108 (by omega) (by omega)]; exact v5 k k0 k1, by rw [h 119 (by omega) (by omega)]; exact v6, v7.c (by rw [h 119 (by omega) (by omega)]) (h 120 (by omega) (by omega))⟩
  obtain ⟨a1, a2, a3⟩ := v1 g g0 g2
  have r := hpb_r g2
  exact ⟨(hlC_c (fun c x y => h c (by omega) (by omega)) a2.2.1.2).trans a1, a2.c (fun c x y => h c (by omega) (by omega)), by rw [h _ (by omega) (by omega)]; exact a3⟩
theorem VR.kp (V : VR A σ) (K : KpR 0 σ τ) (e : hlR τ 0 = hlR σ 0) : VR A τ := by
  have := V.h K (e.trans (V.1 0 (by omega) (by omega)))
  rw [stH_id] at this
  exact this
theorem VR.fi (V : VR A σ) (F : Fi σ τ) : VR A τ := V.kp (Dt.kp V.2.1.1 F.dt F.rs (F.1 393 (by omega) (by omega) (by omega) (by omega) (by omega))) (F.dt.hl V.2.1.1 (by omega) (by omega))
theorem VC.ru (V : VC A σ) {h r : Int} (h0 : 0 ≤ h) (h2 : h ≤ 2) : σ (hpb h) 1 = ((A.1 h).2.1.length : Int) ∧ (0 ≤ r → r < ((A.1 h).2.1.length : Int) → (A.1 h).2.1[r.toNat]? = some (ruC σ (hpb h + 14 + 7 * r.toNat))) := by
  obtain ⟨a1, a2, a3⟩ := V.1 h h0 h2
  have e2 : rlC σ (hpb h) = (A.1 h).2.1 := congrArg (fun x : Hl => x.2.1) a1
  have el : σ (hpb h) 1 = ((A.1 h).2.1.length : Int) := by
    rw [← e2]
    unfold rlC
    rw [rkF_len]
    have := a2.2.1
    omega
  refine ⟨el, fun r0 r1 => ?_⟩
  rw [← e2]
  exact rlC_get (by omega)
theorem VR.ru (V : VR A σ) {h r : Int} (h0 : 0 ≤ h) (h2 : h ≤ 2) : σ 375 h = ((A.1 h).2.1.length : Int) ∧ (0 ≤ r → r < ((A.1 h).2.1.length : Int) → (A.1 h).2.1[r.toNat]? = some (ruR σ h r)) := by
  have a1 := V.1 h h0 h2
  have e2 : rlR σ h = (A.1 h).2.1 := congrArg (fun x : Hl => x.2.1) a1
  have el : σ 375 h = ((A.1 h).2.1.length : Int) := by
    rw [← e2, rlR_len (V.2.1.1.rm h0 (by omega)).1]
  refine ⟨el, fun r0 r1 => ?_⟩
  rw [← e2]
  have := rlR_get (σ := σ) (h := h) (j := r.toNat) (by omega)
  rw [show ((r.toNat : Nat) : Int) = r by omega] at this
  exact this
theorem op_columns {h t : Int} (hd : 100 ≤ d) (hh : inR h) (ht : inR t) (V : VV A σ) : Lk sc d 173 [some (vR 0), some (vI h), some (vI t), none] 273 [some (vR 373), some (vI h), some (vI t)] σ := by
  obtain ⟨Vc, Vr, o⟩ := id V
  by_cases hr : 0 ≤ h ∧ h ≤ 2
  · obtain ⟨h0, h2⟩ := hr
    have ha := fun u Q => s_hallAt (sc := sc) (σ := σ) (d := d - 1) (u := u) (Q := Q) h0 h2
    have ry := r_yes (sc := sc) (d := d - 1) (σ := σ) (h := h) (by omega) h0 h2
    have fa := fun u Q => s_fails (sc := sc) (σ := σ) (u := u) (Q := Q) (d := d - 1) (b := 0) (Or.inl rfl)
    have ob := hpb_o h0 h2
    have co := fun u Q => s_colsC (sc := sc) (σ := σ) (d := d - 1) (u := u) (Q := Q) (b := hpb h) (t := t) ob ht
    have eC : coC σ (hpb h) = (A.1 h).1 := congrArg (fun x : Hl => x.1) (Vc.1 h h0 h2).1
    have eR : coR σ h = (A.1 h).1 := congrArg (fun x : Hl => x.1) (Vr.1 h h0 h2)
    have k := o.1 h h0 h2
    have c3 := k.1 t
    rw [eC] at co
    have is1 := fun u Q => s_isIn (sc := sc) (σ := su σ 373 0 0) (u := u) (Q := Q) (d := d - 1) (v := t) (a := 0) (b := 25) ht ⟨by decide, by decide⟩ ⟨by decide, by decide⟩
    have e0 : ∀ x : Int, su (su σ 373 0 0) 373 0 x = su σ 373 0 x := fun x => su_su
    have g0 : ∀ x : Int, su σ 373 0 x 373 0 = x := fun x => su_eq
    by_cases hi : 0 ≤ t ∧ t ≤ 25
    · simp only [if_pos hi] at is1
      have cr : ∀ x u Q, Ex sc (d - 1) 193 0 [some (vR 373), some (vI h), some (vI t)] [] (wH (su σ 373 0 x) u) Q ↔ Q (.inl (some (vI ((A.1 h).1 t)))) (wH (su σ 373 0 x) u) := fun x u Q => by
        rw [s_colsOf h0 (by omega) hi.1 hi.2, su_ne (by omega), ← coR_in (σ := σ) (h := h) hi.1 hi.2, eR]
      by_cases hz : (A.1 h).1 t = 0
      · refine Lk.no V (Or.inr ⟨rfl, rfl⟩) (fun u Q => ?_) (fun u Q => ?_)
        · simp (disch := first | assumption | omega | exact notL_I | exact notL_N | exact notL_R | exact catS_le (Nat.le_of_ble_eq_true rfl) | exact Nat.le_of_ble_eq_true rfl | exact ooRo (by assumption) | exact ooAt (by assumption) | exact ooRu (by assumption) | exact ooLo (by assumption) | exact ooHa (by assumption) | exact ooLe (by assumption) | exact ooFn | exact ooAn | exact ooPa | exact ooTo | exact ooWa | exact ooCh | rfl) only [x173_0, x173_1, x173_2, x173_5, x173_6, x173_9, x173_10, x173_11, x173_14, x173_17I, x173_17, x173_25, x173_26, ha, co, hz, Kc_some, if_pos, if_neg, ↓reduceIte, not_true_eq_false, not_false_eq_true]
          exact Iff.rfl
        · simp (disch := first | omega | exact notL_I | exact notL_N | exact notL_R | exact oM | exact catS_le (Nat.le_of_ble_eq_true rfl) | exact Nat.le_of_ble_eq_true rfl | rfl) only [x273_0, x273_1, x273_2, x273_5, x273_8, x273_11, x273_12, x273_13, x273_14, x273_15, x273_16, x273_18, x273_21, x273_24, x273_25, x273_26, x273_27, x273_30, x273_33, x273_34, x273_37, x273_38, x273_41, x273_42, x273_45, x273_48, x273_49, x273_50, x273_51, x273_54, x273_57, x273_58, ry, fa, is1, cr, pM_thrown, gM_thrown, e0, g0, hz, Kc_some, if_pos, if_neg, ↓reduceIte, not_true_eq_false, not_false_eq_true]
          rfl
      · refine Lk.eq V (v := (A.1 h).1 t) ⟨by omega, by omega⟩ (fun u Q => ?_) (fun u Q => ?_)
        · simp (disch := first | assumption | omega | exact notL_I | exact notL_N | exact notL_R | exact catS_le (Nat.le_of_ble_eq_true rfl) | exact Nat.le_of_ble_eq_true rfl | exact ooRo (by assumption) | exact ooAt (by assumption) | exact ooRu (by assumption) | exact ooLo (by assumption) | exact ooHa (by assumption) | exact ooLe (by assumption) | exact ooFn | exact ooAn | exact ooPa | exact ooTo | exact ooWa | exact ooCh | rfl) only [x173_0, x173_1, x173_2, x173_5, x173_6, x173_9, x173_10, x173_11, x173_14, x173_17I, x173_17, x173_25, x173_26, ha, co, Kc_some, if_pos, if_neg, ↓reduceIte, not_true_eq_false, not_false_eq_true]
        · simp (disch := first | omega | exact notL_I | exact notL_N | exact notL_R | exact oM | exact catS_le (Nat.le_of_ble_eq_true rfl) | exact Nat.le_of_ble_eq_true rfl | rfl) only [x273_0, x273_1, x273_2, x273_5, x273_8, x273_11, x273_12, x273_13, x273_14, x273_15, x273_16, x273_18, x273_21, x273_24, x273_25, x273_26, x273_27, x273_30, x273_33, x273_34, x273_37, x273_38, x273_41, x273_42, x273_45, x273_48, x273_49, x273_50, x273_51, x273_54, x273_57, x273_58, ry, fa, is1, cr, pM_thrown, gM_thrown, e0, g0, Kc_some, if_pos, if_neg, ↓reduceIte, not_true_eq_false, not_false_eq_true]
    · simp only [if_neg hi] at is1
      have hz := k.2.1 t hi
      refine Lk.no V (Or.inr ⟨rfl, rfl⟩) (fun u Q => ?_) (fun u Q => ?_)
      · simp (disch := first | assumption | omega | exact notL_I | exact notL_N | exact notL_R | exact catS_le (Nat.le_of_ble_eq_true rfl) | exact Nat.le_of_ble_eq_true rfl | exact ooRo (by assumption) | exact ooAt (by assumption) | exact ooRu (by assumption) | exact ooLo (by assumption) | exact ooHa (by assumption) | exact ooLe (by assumption) | exact ooFn | exact ooAn | exact ooPa | exact ooTo | exact ooWa | exact ooCh | rfl) only [x173_0, x173_1, x173_2, x173_5, x173_6, x173_9, x173_10, x173_11, x173_14, x173_17I, x173_17, x173_25, x173_26, ha, co, hz, Kc_some, if_pos, if_neg, ↓reduceIte, not_true_eq_false, not_false_eq_true]
        exact Iff.rfl
      · simp (disch := first | omega | exact notL_I | exact notL_N | exact notL_R | exact oM | exact catS_le (Nat.le_of_ble_eq_true rfl) | exact Nat.le_of_ble_eq_true rfl | rfl) only [x273_0, x273_1, x273_2, x273_5, x273_8, x273_11, x273_12, x273_13, x273_14, x273_15, x273_16, x273_18, x273_21, x273_24, x273_25, x273_26, x273_27, x273_30, x273_33, x273_34, x273_37, x273_38, x273_41, x273_42, x273_45, x273_48, x273_49, x273_50, x273_51, x273_54, x273_57, x273_58, ry, fa, is1, pM_thrown, gM_thrown, e0, g0, Kc_some, if_pos, if_neg, ↓reduceIte, not_true_eq_false, not_false_eq_true]
        rfl
  · have rn := r_no (sc := sc) (d := d - 1) (σ := σ) (h := h) (by omega) hh hr
    have fa := fun u Q => s_fails (sc := sc) (σ := σ) (u := u) (Q := Q) (d := d - 1) (b := 1) (Or.inr rfl)
    refine Lk.no V (Or.inl ⟨rfl, by decide⟩) (fun u Q => ?_) (fun u Q => ?_)
    · have nh := fun u Q => s_noHallC (sc := sc) (σ := σ) (d := d - 1) (u := u) (Q := Q) hh hr
      simp (disch := first | assumption | omega | exact notL_I | exact notL_N | exact notL_R | exact catS_le (Nat.le_of_ble_eq_true rfl) | exact Nat.le_of_ble_eq_true rfl | exact ooRo (by assumption) | exact ooAt (by assumption) | exact ooRu (by assumption) | exact ooLo (by assumption) | exact ooHa (by assumption) | exact ooLe (by assumption) | exact ooFn | exact ooAn | exact ooPa | exact ooTo | exact ooWa | exact ooCh | rfl) only [x173_0, x173_1, x173_2, x173_5, x173_6, x173_9, x173_10, x173_11, x173_14, x173_17I, x173_17, x173_25, x173_26, nh]
      exact thrK rfl rfl
    · simp (disch := first | omega | exact notL_I | exact notL_N | exact notL_R | exact oM | exact catS_le (Nat.le_of_ble_eq_true rfl) | exact Nat.le_of_ble_eq_true rfl | rfl) only [x273_0, x273_1, x273_2, x273_5, x273_8, x273_11, x273_12, x273_13, x273_14, x273_15, x273_16, x273_18, x273_21, x273_24, x273_25, x273_26, x273_27, x273_30, x273_33, x273_34, x273_37, x273_38, x273_41, x273_42, x273_45, x273_48, x273_49, x273_50, x273_51, x273_54, x273_57, x273_58, rn, fa, Kc_some, if_pos, if_neg, ↓reduceIte, not_true_eq_false, not_false_eq_true]
      rfl
theorem op_hits {h r : Int} (hd : 100 ≤ d) (hh : inR h) (hr : inR r) (V : VV A σ) : Lk sc d 132 [some (vR 0), some (vI h), some (vI r), none] 240 [some (vR 373), some (vI h), some (vI r)] σ := by
  obtain ⟨Vc, Vr, o⟩ := id V
  by_cases hrg : 0 ≤ h ∧ h ≤ 2
  · obtain ⟨h0, h2⟩ := hrg
    have ha := fun u Q => s_hallAt (sc := sc) (σ := σ) (d := d - 1) (u := u) (Q := Q) h0 h2
    have ob := hpb_o h0 h2
    have hb := hpb_r h2
    obtain ⟨a1, a2, a3⟩ := Vc.1 h h0 h2
    obtain ⟨l1, g1⟩ := Vc.ru (r := r) h0 h2
    have k := o.1 h h0 h2
    have l10 := k.2.2.2.2.1
    have hru := fun u Q => s_hasRule (sc := sc) (σ := σ) (d := d - 1) (u := u) (Q := Q) (b := hpb h) (x := r) ob hr a2.2.1
    have is1 := fun (S : St) u Q => s_isIn (sc := sc) (σ := S) (u := u) (Q := Q) (d := d - 1) (v := r) (a := 0) (b := ((A.1 h).2.1.length : Int) - 1) hr ⟨by decide, by decide⟩ ⟨by omega, by omega⟩
    by_cases hy : 0 ≤ r ∧ r < ((A.1 h).2.1.length : Int)
    · rw [l1] at hru
      simp only [if_pos hy] at hru
      simp only [if_pos (show 0 ≤ r ∧ r ≤ ((A.1 h).2.1.length : Int) - 1 by omega)] at is1
      have g2 := g1 hy.1 hy.2
      have okr := k.2.2.2.1 _ (List.mem_of_getElem? g2)
      have oru := ob.ru (k := r.toNat) (by omega)
      have oah := oru.ahead
      have orr := ob.rows
      have ri := Vc.ri o h0 h2
      have wu := a2.2.2.2.2.2.2 r.toNat (by omega)
      have el := asC_len (σ := σ) (r := hpb h + 14 + 7 * r.toNat + 1) wu.2.2.2.1.1.1
      obtain ⟨τ, t1, t2⟩ := s_countC (sc := sc) (d := d - 1) (σ := σ) (a := hpb h + 14 + 7 * r.toNat + 1) (r := hpb h + 3) oah orr (by omega) wu.2.2.2.1 a2.2.2.2.1 (by have q : 1 ≤ (asC σ (hpb h + 14 + 7 * r.toNat + 1)).length := okr.2.2.2.1.1; omega) (ri.fit (k := r.toNat) (by omega)).1
      unfold RnA at t2
      have up : ∀ c, 373 ≤ c → τ c = σ c := fun c hc => t1 c (by omega)
      have Vr1 := Vr.up up
      have Vc1 : VC A τ := Vc.sc_ (fun c _ hc => t1 c (by omega))
      obtain ⟨m1, m2⟩ := Vr1.ru (r := r) h0 h2
      have er : ruR τ h r = ruC σ (hpb h + 14 + 7 * r.toNat) := Option.some.inj ((m2 hy.1 hy.2).symm.trans g2)
      have es : rsR τ h = rsC σ (hpb h + 3) := (congrArg (fun x : Hl => x.2.2.2.1) (Vr1.1 h h0 h2)).trans (congrArg (fun x : Hl => x.2.2.2.1) a1).symm
      have ry := r_yes (sc := sc) (d := d - 1) (σ := τ) (h := h) (by omega) h0 h2
      have fa := fun u Q => s_fails (sc := sc) (σ := τ) (u := u) (Q := Q) (d := d - 1) (b := 0) (Or.inl rfl)
      have rim := ((Vr1.ri o h0 h2).th (x := 0) h0 (by omega))
      have F0 : Fi (su τ 373 0 0) (fl (su (su τ 373 0 0) 373 30 0) 389 0 26 (-1)) := ⟨fun c a b _ _ _ => by rw [fl_ne b, su_ne a], fun j a _ _ => by rw [fl_ne (by omega), su_off a]⟩
      have rim2 := F0.rim rim
      have n375 : su τ 373 0 0 375 = τ 375 := su_ne (by omega)
      have at0 := (rim2.at_ h0 (by omega) hy.1 (by rw [F0.1 375 (by omega) (by omega) (by omega) (by omega) (by omega), n375]; omega)).1
      have e389 : ∀ v, 0 ≤ v → v ≤ 25 → fl (su (su τ 373 0 0) 373 30 0) 389 0 26 (-1) 389 v = -1 := fun v v0 v1 => by rw [fl_at, if_pos (by omega)]
      have hB : cB (fl (su (su τ 373 0 0) 373 30 0) 389 0 26 (-1) 389) = bd0 := by
        funext v
        unfold cB bd0
        split
        · rename_i hv; exact e389 v hv.1 (by omega)
        · rfl
      obtain ⟨ρ, p1, p2, p3⟩ := s_count (sc := sc) (d := d - 1) (h := h) (r := r) h0 (by omega) hy.1 (by omega) rim2.1 at0 hB (fun v v0 v1 => by rw [e389 v v0 v1]; omega) (by rw [fl_ne (by omega), su_eq]) (by omega)
      rw [F0.dt.ru, F0.dt.rsr, (Dt.dsu3 (σ := τ) (i := 0) (x := 0) (by omega)).ru, (Dt.dsu3 (σ := τ) (i := 0) (x := 0) (by omega)).rsr, er, es] at p2
      have p2' : ρ 373 30 = ((hitsL (rsC σ (hpb h + 3)) (asC σ (hpb h + 14 + 7 * r.toNat + 1)) bd0).length : Int) := p2
      unfold RnA at p3
      have hc : (hitsL (rsC σ (hpb h + 3)) (asC σ (hpb h + 14 + 7 * r.toNat + 1)) bd0).length ≤ 64000 := by
        have a := hits_len (R := rsC σ (hpb h + 3)) (asC σ (hpb h + 14 + 7 * r.toNat + 1)) bd0
        have lr := rsC_len (σ := σ) (r := hpb h + 3) a2.2.2.2.1.1.1
        have w40 := a2.2.2.2.1.1.2
        have l3 : (asC σ (hpb h + 14 + 7 * r.toNat + 1)).length ≤ 3 := okr.2.2.2.1.2
        have h40 : (rsC σ (hpb h + 3)).length ≤ 40 := by omega
        calc _ ≤ _ := a
          _ ≤ 40 ^ (asC σ (hpb h + 14 + 7 * r.toNat + 1)).length := Nat.pow_le_pow_left h40 _
          _ ≤ 40 ^ 3 := Nat.pow_le_pow_right (by omega) l3
          _ = 64000 := by decide
      have F9 : Fi (su τ 373 0 0) ρ := F0.trans p1
      refine Lk.ok (v := ((hitsL (rsC σ (hpb h + 3)) (asC σ (hpb h + 14 + 7 * r.toNat + 1)) bd0).length : Int)) ⟨by omega, by omega⟩ o Vc1 (Vr1.th.fi F9) (fun c hc => by rw [F9.1 c (by omega) (by omega) (by omega) (by omega) (by omega), su_ne (by omega)]) (by rw [F9.2 0 (by omega) (by omega) (by omega), su_eq]) (fun u Q => ?_) (fun u Q => ?_)
      · have rr : ((r.toNat : Nat) : Int) = r := by omega
        simp (disch := first | assumption | omega | exact notL_I | exact notL_N | exact notL_R | exact catS_le (Nat.le_of_ble_eq_true rfl) | exact Nat.le_of_ble_eq_true rfl | exact ooRo (by assumption) | exact ooAt (by assumption) | exact ooRu (by assumption) | exact ooLo (by assumption) | exact ooHa (by assumption) | exact ooLe (by assumption) | exact ooFn | exact ooAn | exact ooPa | exact ooTo | exact ooWa | exact ooCh | rfl) only [x132_0, x132_1, x132_2, x132_5, x132_6, x132_7, x132_8, x132_11, x132_14, x132_15, x132_16, x132_17, x132_20, x132_21, x132_24, x132_25, x132_26, x132_29, x132_30, x132_33, x132_36, ha, hru, gCh_finder, gHa_rules, Rr_rules, gRu_ahead, gHa_rows, t2, Kc_some, if_pos, if_neg, ↓reduceIte, not_true_eq_false, not_false_eq_true]
      · have fg := fun u Q => s_forget (sc := sc) (σ := su (su τ 373 0 0) 373 30 0) (u := u) (Q := Q) (d := d - 1)
        simp (disch := first | omega | exact notL_I | exact notL_N | exact notL_R | exact oM | exact catS_le (Nat.le_of_ble_eq_true rfl) | exact Nat.le_of_ble_eq_true rfl | rfl) only [x240_0, x240_1, x240_2, x240_5, x240_8, x240_11, x240_12, x240_13, x240_14, x240_15, x240_16, x240_19, x240_20, x240_21, x240_22, x240_23, x240_26, x240_29, x240_30, x240_31, x240_32, x240_33, x240_36, x240_37, x240_40, x240_41, x240_42, x240_43, x240_44, x240_45, x240_48, x240_49, x240_52, ry, fa, gM_ruleMany, RM_ruleMany, n375, m1, is1, pM_hitMany, fg, p3, gM_hitMany, p2', Kc_some, Kc_none, if_pos, if_neg, ↓reduceIte, not_true_eq_false, not_false_eq_true]
    · rw [l1] at hru
      simp only [if_neg hy] at hru
      simp only [if_neg (show ¬ (0 ≤ r ∧ r ≤ ((A.1 h).2.1.length : Int) - 1) by omega)] at is1
      have ry := r_yes (sc := sc) (d := d - 1) (σ := σ) (h := h) (by omega) h0 h2
      have fa := fun u Q => s_fails (sc := sc) (σ := σ) (u := u) (Q := Q) (d := d - 1) (b := 0) (Or.inl rfl)
      have n375 : su σ 373 0 0 375 = σ 375 := su_ne (by omega)
      have m1 := (Vr.ru (r := r) h0 h2).1
      refine Lk.eq V (v := -1) ⟨by decide, by decide⟩ (fun u Q => ?_) (fun u Q => ?_)
      · simp (disch := first | assumption | omega | exact notL_I | exact notL_N | exact notL_R | exact catS_le (Nat.le_of_ble_eq_true rfl) | exact Nat.le_of_ble_eq_true rfl | exact ooRo (by assumption) | exact ooAt (by assumption) | exact ooRu (by assumption) | exact ooLo (by assumption) | exact ooHa (by assumption) | exact ooLe (by assumption) | exact ooFn | exact ooAn | exact ooPa | exact ooTo | exact ooWa | exact ooCh | rfl) only [x132_0, x132_1, x132_2, x132_5, x132_6, x132_7, x132_8, x132_11, x132_14, x132_15, x132_16, x132_17, x132_20, x132_21, x132_24, x132_25, x132_26, x132_29, x132_30, x132_33, x132_36, ha, hru, Kc_some, if_pos, if_neg, ↓reduceIte, not_true_eq_false, not_false_eq_true]
      · simp (disch := first | omega | exact notL_I | exact notL_N | exact notL_R | exact oM | exact catS_le (Nat.le_of_ble_eq_true rfl) | exact Nat.le_of_ble_eq_true rfl | rfl) only [x240_0, x240_1, x240_2, x240_5, x240_8, x240_11, x240_12, x240_13, x240_14, x240_15, x240_16, x240_19, x240_20, x240_21, x240_22, x240_23, x240_26, x240_29, x240_30, x240_31, x240_32, x240_33, x240_36, x240_37, x240_40, x240_41, x240_42, x240_43, x240_44, x240_45, x240_48, x240_49, x240_52, ry, fa, gM_ruleMany, RM_ruleMany, n375, m1, is1, Kc_some, if_pos, if_neg, ↓reduceIte, not_true_eq_false, not_false_eq_true]
  · have rn := r_no (sc := sc) (d := d - 1) (σ := σ) (h := h) (by omega) hh hrg
    have fa := fun u Q => s_fails (sc := sc) (σ := σ) (u := u) (Q := Q) (d := d - 1) (b := 1) (Or.inr rfl)
    refine Lk.no V (Or.inl ⟨rfl, by decide⟩) (fun u Q => ?_) (fun u Q => ?_)
    · have nh := fun u Q => s_noHallC (sc := sc) (σ := σ) (d := d - 1) (u := u) (Q := Q) hh hrg
      simp (disch := first | assumption | omega | exact notL_I | exact notL_N | exact notL_R | exact catS_le (Nat.le_of_ble_eq_true rfl) | exact Nat.le_of_ble_eq_true rfl | exact ooRo (by assumption) | exact ooAt (by assumption) | exact ooRu (by assumption) | exact ooLo (by assumption) | exact ooHa (by assumption) | exact ooLe (by assumption) | exact ooFn | exact ooAn | exact ooPa | exact ooTo | exact ooWa | exact ooCh | rfl) only [x132_0, x132_1, x132_2, x132_5, x132_6, x132_7, x132_8, x132_11, x132_14, x132_15, x132_16, x132_17, x132_20, x132_21, x132_24, x132_25, x132_26, x132_29, x132_30, x132_33, x132_36, nh]
      exact thrK rfl rfl
    · simp (disch := first | omega | exact notL_I | exact notL_N | exact notL_R | exact oM | exact catS_le (Nat.le_of_ble_eq_true rfl) | exact Nat.le_of_ble_eq_true rfl | rfl) only [x240_0, x240_1, x240_2, x240_5, x240_8, x240_11, x240_12, x240_13, x240_14, x240_15, x240_16, x240_19, x240_20, x240_21, x240_22, x240_23, x240_26, x240_29, x240_30, x240_31, x240_32, x240_33, x240_36, x240_37, x240_40, x240_41, x240_42, x240_43, x240_44, x240_45, x240_48, x240_49, x240_52, rn, fa, Kc_some, if_pos, if_neg, ↓reduceIte, not_true_eq_false, not_false_eq_true]
      rfl
end O5
