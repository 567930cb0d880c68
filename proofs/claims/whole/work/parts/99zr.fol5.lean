/-! what follows, both: the call -/
section F5
variable {sc : Scr} {d : Nat} {σ τ : St} {A : AS}
set_option maxHeartbeats 1000000 in
theorem op_follows {h : Int} (hd : 100 ≤ d) (hh : inR h) (V : VV A σ) : Lk sc d 156 [some (vR 0), some (vI h), none, none] 265 [some (vR 373), some (vI h), none, none, none, none, none, none] σ := by
  obtain ⟨Vc, Vr, o⟩ := id V
  by_cases hr : 0 ≤ h ∧ h ≤ 2
  · obtain ⟨h0, h2⟩ := hr
    have ha := fun u Q => s_hallAt (sc := sc) (σ := σ) (d := d - 1) (u := u) (Q := Q) h0 h2
    have ob := hpb_o h0 h2
    have hb := hpb_r h2
    have oH := oHa_2
    have oru := oRu_94
    have oa : oAt 95 := oru.ahead
    have or : oRo 5 := oH.rows
    have e95 : (94 + 1 : Nat) = 95 := rfl
    have k := o.1 h h0 h2
    obtain ⟨T, e86, e03⟩ := Vc.tp o
    obtain ⟨τ1, a1, a2, a3, a4, a5⟩ := s_give (sc := sc) (d := d - 1) (σ := σ) (by omega) T
    rw [e86, e03] at a4
    unfold RnA at a5
    have W2 : WfHa τ1 2 := Vc.2.1.1.c (fun c x y => a1 c (by omega) (by omega) (by omega))
    have W9 : WfRu τ1 94 := Vc.2.1.2.c (fun c x y => a1 c (by omega) (by omega) (by omega))
    have eC : coC τ1 (hpb h) = (A.1 h).1 := by
      rw [coC_eq (a1 (hpb h + 1) (by omega) (by omega) (by omega))]
      exact congrArg (fun x : Hl => x.1) (Vc.1 h h0 h2).1
    rcases s_told (sc := sc) (d := d - 1) (a := 94) (b := hpb h) (σ := τ1) (C := (A.1 h).1) (by omega) oru ob (by unfold far; omega) (by unfold far; omega) (by omega) k.1 eC a4 W9 with ⟨q, τ2, b1, b2, b3, b4, b5, b6⟩ | ⟨e, τ2, b1, b2, b3, b4, b5⟩
    · unfold RnA at b6
      have n2 : ∀ c, c ≤ 1 ∨ (2 ≤ c ∧ c ≤ 86) ∨ c = 108 ∨ 119 ≤ c → c ≠ 0 → τ2 c = σ c := fun c hc h0 => by rw [b2.1 c (by omega) (by omega) (by omega) (by omega), a1 c h0 (by omega) (by omega)]
      have t03 : τ2 0 3 = 0 := by rw [b2.1 0 (by omega) (by omega) (by omega) (by omega)]; exact a2
      have t86 : τ2 86 = A.2.1.2 := by rw [n2 86 (by omega) (by omega)]; exact e86
      -- the reference knows the rule is in order
      have kq : okRl (A.1 h).1 q := by
        rcases m_fol (sc := sc) (d := d) (X := σ) (by omega) h0 h2 Vr o with ⟨q', Z, s1, s2, _⟩ | ⟨e, Z, s1, _⟩
        · have e1 : q = q' := Sum.inr.inj (b1.symm.trans s1)
          rw [e1]
          exact s2
        · rw [b1] at s1
          cases s1
      -- the spare hall: the rules, no rows
      have wq : WfHa τ2 (hpb h) := (Vc.1 h h0 h2).2.1.c (fun c x y => n2 c (by omega) (by omega))
      have hq : hlC τ2 (hpb h) = A.1 h := (hlC_c (fun c x y => n2 c (by omega) (by omega)) (Vc.1 h h0 h2).2.1.2.1.2).trans (Vc.1 h h0 h2).1
      have ap : apt (hpb h) 2 84 := (apt_sp h2).1
      have W22 : WfHa τ2 2 := W2.c (fun c x y => b2.1 c (by omega) (by omega) (by omega) (by omega))
      obtain ⟨v1, v2, v3, v4⟩ := cpHa_v (σ := τ2) ap wq W22.2.2.2.2.2.1
      have tk := fun u Q => s_takeH (sc := sc) (σ := τ2) (u := u) (Q := Q) (d := d - 1) (q := hpb h) (b := 2) ob oH (by omega) ap
      rw [hq] at v3
      generalize cpHa τ2 (hpb h) 2 = τ3 at *
      have cl := fun u Q => s_clearR (sc := sc) (σ := τ3) (u := u) (Q := Q) (d := d - 1) (r := 5) or (by omega)
      obtain ⟨w1, w2, w3, w4, w5⟩ := clR_v (σ := τ3) (r := 5) v2.2.2.2.1
      have ecl : clR τ3 5 = fl (su (su τ3 5 0 0) 5 1 0) (5 + 4) 0 100 0 := rfl
      have w0 : clR τ3 5 5 0 = 0 := by rw [ecl, fl_ne (by omega), su_off (by omega), su_eq]
      rw [← ecl] at cl
      generalize clR τ3 5 = τ4 at *
      have F34 : FrH 2 τ3 τ4 := fun c _ x => w1 c (by omega)
      have W4 : WfHa τ4 2 := WfHa.run oH v2 F34 w2 (v2.2.2.2.2.1.c (fun c x y => w1 c (by omega))) (v2.2.2.2.2.2.1.c (by rw [w1 _ (by omega)]) (w1 _ (by omega)) (w1 _ (by omega)))
      have f4 : ∀ c, 94 ≤ c → c < 101 → τ4 c = τ2 c := fun c x y => by rw [w1 c (by omega), v1 c (by omega)]
      have U4 : WfRu τ4 94 := b3.c (fun c x y => f4 c (by omega) (by omega))
      have r4 : ruC τ4 94 = q := (ruC_c (fun c x y => f4 c (by omega) (by omega))).trans b4
      -- names
      obtain ⟨τ5, n, c1, c2, c3, c4⟩ := s_nameEach (sc := sc) (d := d - 1) (a := 95) (σ := τ4) oa (by omega) U4.2.2.2.1
      unfold RnA at c4
      have q1 : asC τ4 95 = q.2.1 := congrArg (fun x : Ru => x.2.1) r4
      rw [q1] at c3
      have f5 : ∀ c, c ≤ 100 → τ5 c = τ4 c := fun c hc => c1.1 c (by omega) (by omega) (by omega)
      have W5 : WfHa τ5 2 := W4.c (fun c x y => f5 c (by omega))
      have U5 : WfRu τ5 94 := U4.c (fun c x y => f5 c (by omega))
      have q5 : asC τ5 95 = q.2.1 := (asC_c (by rw [f5 _ (by omega)]) (f5 _ (by omega)) (f5 _ (by omega))).trans q1
      obtain ⟨n1, n2', n3⟩ := nm_all kq.2.1 kq.2.2.2.1.2
      have wa := U5.2.2.2.1.1
      have wa' : 0 ≤ τ5 95 0 ∧ τ5 95 0 ≤ 3 := wa
      have z50 : τ5 5 0 = 0 := by rw [f5 5 (by omega)]; exact w0
      have z51 : τ5 5 1 = 0 := by rw [f5 5 (by omega)]; exact w4
      have ek : akF τ5 95 (τ5 95 0).toNat 0 = q.2.1 := q5
      -- rows
      obtain ⟨τ6, p1, p2, p3, p4⟩ := l_addM (sc := sc) (d := d) (C := (A.1 h).1) (β := nameE (plcL q.2.1) 0 bd0) (n := n) (h := h) (b := hpb h) (by omega) (τ5 95 0).toNat 0 τ5 (by omega) (by omega) W5 U5.2.2.2.1 c2 c3 (by rw [ek]; exact n3) (by omega) (by omega)
      have e53 : rsC τ5 5 = [] := (rsC_c (fun c x y => f5 c (by omega))).trans w3
      have e55 : naC τ5 5 = fun _ => 0 := by rw [← w5]; unfold naC; rw [f5 _ (by omega)]
      rw [ek, e53, z51, e55] at p3
      obtain ⟨k1, k2, k3, k4⟩ := flwA_ok (H := A.1 h) (q := q) k.2.2.2.1 kq
      have F36 : FrH 2 τ3 τ6 := (F34.trans c1.fh).trans p1
      have l6 : rlC τ6 2 = (A.1 h).2.1 := (F36.rl oH v2).trans (congrArg (fun x : Hl => x.2.1) v3)
      have R6 : RI (A.1 h).1 2 τ6 := by
        refine ⟨p2, ?_, fun j hj => k.2.2.2.1 _ ?_⟩
        · have e : okS (A.1 h).1 (rn0 (rsC τ6 5, τ6 5 1, naC τ6 5)) := by rw [p3]; exact k1
          exact e
        · rw [← l6]
          exact List.mem_of_getElem? (rlC_get hj)
      obtain ⟨τ7, g1, g2, g3, g4, g5⟩ := s_chase (sc := sc) (d := d - 1) (C := (A.1 h).1) (b := 2) (most := 100) (σ := τ6) oH (by omega) (by omega) R6
      have er : runF (rlC τ6 2) 100 101 0 (rsC τ6 (2 + 3), τ6 (2 + 3) 1, naC τ6 (2 + 3), [], fun _ => -1) = flwA (A.1 h) q := by
        have e : (rsC τ6 5, τ6 5 1, naC τ6 5, [], fun _ => -1) = rn0 (sadF [] 0 (fun _ => 0) (q.2.1.map (grA (nameE (plcL q.2.1) 0 bd0)))) := by rw [← p3]; rfl
        rw [l6, show (rsC τ6 (2 + 3), τ6 (2 + 3) 1, naC τ6 (2 + 3), [], fun _ => -1) = rn0 (sadF [] 0 (fun _ => 0) (q.2.1.map (grA (nameE (plcL q.2.1) 0 bd0)))) from e]
        rfl
      rw [er] at g3 g4 g5
      unfold RnA at g5
      rw [show ((100 : Nat) : Int) = 100 from rfl] at g5
      have F37 : FrH 2 τ3 τ7 := F36.trans g1
      have u7 : ∀ c, 94 ≤ c → c < 101 → τ7 c = τ4 c := fun c x y => by rw [g1 c (by omega) (by omega), p1 c (by omega) (by omega), f5 c (by omega)]
      have U7 : WfRu τ7 94 := U4.c (fun c x y => u7 c (by omega) (by omega))
      -- what the class is left with
      have fin : ∀ X : St, FrH 2 τ7 X → WfHa X 2 → VC (tfA A (0, -1)) X := fun X F WX => by
        have nX : ∀ c, (16 ≤ c ∧ c ≤ 100) ∨ c ≤ 1 ∨ 107 ≤ c → c < 2 ∨ 86 ≤ c → X c = τ2 c := fun c x y => by rw [F c (by omega) (by omega), F37 c (by omega) (by omega), v1 c (by omega)]
        exact Vc.tf (T := (0, A.2.1.2)) (e := (0, -1)) (fun c hc => by rw [nX c (by omega) (by omega), n2 c (by omega) (by omega)]) WX (b3.c (fun c x y => nX c (by omega) (by omega))) (by rw [nX 0 (by omega) (by omega)]; exact t03) (by rw [nX 86 (by omega) (by omega)]; exact t86) (by rw [nX 87 (by omega) (by omega)]; exact b5.1) (by rw [nX 87 (by omega) (by omega)]; exact b5.2)
      have upX : ∀ X : St, FrH 2 τ7 X → ∀ c, 373 ≤ c → X c = σ c := fun X F c hc => by rw [F c (by omega) (by omega), F37 c (by omega) (by omega), v1 c (by omega), n2 c (by omega) (by omega)]
      -- the whole of the class
      have cls : ∃ X, FrH 2 τ7 X ∧ WfHa X 2 ∧ RnA sc d 156 0 [some (vR 0), some (vI h), none, none] σ (some (vI (folV (A.1 h) q))) X := by
        have st : ∀ (u : Bool × Nat × Nat × Int) (Q : Rs → HS → Prop), Ex sc d 156 0 [some (vR 0), some (vI h), none, none] [] (wH σ u) Q ↔ Ex sc d 156 61 [some (vR 0), some (vI h), some (vR ((hpb h))), some (vI 0)] [] (wH τ5 u) Q := by
          intro u Q
          simp (disch := first | assumption | omega | exact notL_I | exact notL_N | exact notL_R | exact catS_le (Nat.le_of_ble_eq_true rfl) | exact Nat.le_of_ble_eq_true rfl | exact ooRo (by assumption) | exact ooAt (by assumption) | exact ooRu (by assumption) | exact ooLo (by assumption) | exact ooHa (by assumption) | exact ooLe (by assumption) | exact ooFn | exact ooAn | exact ooPa | exact ooTo | exact ooWa | exact ooCh | rfl) only [x156_0, x156_1, x156_2, x156_5, x156_6, x156_7, x156_10, x156_11, x156_14, x156_15, x156_18, x156_19, x156_22, x156_25, x156_26, x156_27, x156_28, x156_31, x156_32, x156_35, x156_36, x156_39, x156_42, x156_45, x156_46, x156_49, x156_50, x156_53, x156_56, x156_59, x156_60, x156_62, x156_63, x156_66, x156_69, x156_72, x156_75, x156_76, x156_79, x156_80, x156_83, x156_84, x156_87, x156_90, x156_91, x156_94, x156_97, x156_101, x156_104, x156_105, x156_108, x156_110, x156_113, x156_114, x156_115, x156_116, x156_119, x156_120, x156_121, x156_122, x156_123, x156_126, x156_127, x156_130, x156_133, x156_134, x156_137, x156_138, ha, a5, gCh_parser, gCh_told, b6, gCh_spare, tk, gHa_rows, cl, gCh_finder, gRu_ahead, e95, c4, Kc_some, Kc_none, if_pos, if_neg, ↓reduceIte, not_true_eq_false, not_false_eq_true]
        by_cases s3 : (flwA (A.1 h) q).2 = 3
        · refine ⟨τ7, FrH.refl, g2, fun u Q => ?_⟩
          have fv : folV (A.1 h) q = 2 := by unfold folV; rw [if_pos s3]
          rw [s3] at g5
          rw [st u Q, p4 u Q, x156_100, fv]
          simp (disch := first | assumption | omega | exact notL_I | exact notL_N | exact notL_R | exact catS_le (Nat.le_of_ble_eq_true rfl) | exact Nat.le_of_ble_eq_true rfl | exact ooRo (by assumption) | exact ooAt (by assumption) | exact ooRu (by assumption) | exact ooLo (by assumption) | exact ooHa (by assumption) | exact ooLe (by assumption) | exact ooFn | exact ooAn | exact ooPa | exact ooTo | exact ooWa | exact ooCh | rfl) only [x156_0, x156_1, x156_2, x156_5, x156_6, x156_7, x156_10, x156_11, x156_14, x156_15, x156_18, x156_19, x156_22, x156_25, x156_26, x156_27, x156_28, x156_31, x156_32, x156_35, x156_36, x156_39, x156_42, x156_45, x156_46, x156_49, x156_50, x156_53, x156_56, x156_59, x156_60, x156_62, x156_63, x156_66, x156_69, x156_72, x156_75, x156_76, x156_79, x156_80, x156_83, x156_84, x156_87, x156_90, x156_91, x156_94, x156_97, x156_101, x156_104, x156_105, x156_108, x156_110, x156_113, x156_114, x156_115, x156_116, x156_119, x156_120, x156_121, x156_122, x156_123, x156_126, x156_127, x156_130, x156_133, x156_134, x156_137, x156_138, gCh_spare, gCh_finder, g5, Kc_some, if_pos, if_neg, ↓reduceIte, not_true_eq_false, not_false_eq_true]
        · by_cases s2 : (flwA (A.1 h) q).2 = 2
          · refine ⟨τ7, FrH.refl, g2, fun u Q => ?_⟩
            have fv : folV (A.1 h) q = 1 := by unfold folV; rw [if_neg s3, if_pos s2]
            rw [s2] at g5
            rw [st u Q, p4 u Q, x156_100, fv]
            simp (disch := first | assumption | omega | exact notL_I | exact notL_N | exact notL_R | exact catS_le (Nat.le_of_ble_eq_true rfl) | exact Nat.le_of_ble_eq_true rfl | exact ooRo (by assumption) | exact ooAt (by assumption) | exact ooRu (by assumption) | exact ooLo (by assumption) | exact ooHa (by assumption) | exact ooLe (by assumption) | exact ooFn | exact ooAn | exact ooPa | exact ooTo | exact ooWa | exact ooCh | rfl) only [x156_0, x156_1, x156_2, x156_5, x156_6, x156_7, x156_10, x156_11, x156_14, x156_15, x156_18, x156_19, x156_22, x156_25, x156_26, x156_27, x156_28, x156_31, x156_32, x156_35, x156_36, x156_39, x156_42, x156_45, x156_46, x156_49, x156_50, x156_53, x156_56, x156_59, x156_60, x156_62, x156_63, x156_66, x156_69, x156_72, x156_75, x156_76, x156_79, x156_80, x156_83, x156_84, x156_87, x156_90, x156_91, x156_94, x156_97, x156_101, x156_104, x156_105, x156_108, x156_110, x156_113, x156_114, x156_115, x156_116, x156_119, x156_120, x156_121, x156_122, x156_123, x156_126, x156_127, x156_130, x156_133, x156_134, x156_137, x156_138, gCh_spare, gCh_finder, g5, Kc_some, if_pos, if_neg, ↓reduceIte, not_true_eq_false, not_false_eq_true]
          · have s1 : (flwA (A.1 h) q).2 = 1 := by omega
            rw [s1] at g5
            have rs7 : rsC τ7 5 = (flwA (A.1 h) q).1.1 := congrArg (fun x : Rn => x.1) g3
            have st7 : stC τ7 10 = (flwA (A.1 h) q).1.2.2.2.1 := congrArg (fun x : Rn => x.2.2.2.1) g3
            have r7 : ruC τ7 94 = q := (ruC_c (fun c x y => u7 c (by omega) (by omega))).trans r4
            have a7 : asC τ7 95 = q.2.1 := congrArg (fun x : Ru => x.2.1) r7
            have b7 : asC τ7 98 = q.2.2.1 := congrArg (fun x : Ru => x.2.2.1) r7
            obtain ⟨X, x1, x2⟩ := s_fulT (sc := sc) (d := d - 1) (σ := τ7) (by omega) g2 U7 (by rw [st7]; exact k3) (by
              rw [b7, rs7]
              intro b hb' w hw
              exact ok_fitT (kq.2.2.1 b hb') (k2.1 w hw))
            rw [r7, rs7, st7, a7] at x2
            have fv : folV (A.1 h) q = bI (fulfL q (flwA (A.1 h) q).1.1 (mlF (flwA (A.1 h) q).1.2.2.2.1 (nameE (plcL q.2.1) 0 bd0))) := by
              unfold folV
              rw [if_neg s3, if_neg s2]
            rw [← fv] at x2
            unfold RnA at x2
            have b01 : folV (A.1 h) q = 0 ∨ folV (A.1 h) q = 1 := by
              rw [fv]
              cases fulfL q (flwA (A.1 h) q).1.1 (mlF (flwA (A.1 h) q).1.2.2.2.1 (nameE (plcL q.2.1) 0 bd0))
              · exact Or.inl rfl
              · exact Or.inr rfl
            refine ⟨X, x1.fh, g2.c (fun c x y => x1.1 c (by omega) (by omega) (by omega)), fun u Q => ?_⟩
            rw [st u Q, p4 u Q, x156_100]
            rcases b01 with e | e
            · rw [e] at x2 ⊢
              simp (disch := first | assumption | omega | exact notL_I | exact notL_N | exact notL_R | exact catS_le (Nat.le_of_ble_eq_true rfl) | exact Nat.le_of_ble_eq_true rfl | exact ooRo (by assumption) | exact ooAt (by assumption) | exact ooRu (by assumption) | exact ooLo (by assumption) | exact ooHa (by assumption) | exact ooLe (by assumption) | exact ooFn | exact ooAn | exact ooPa | exact ooTo | exact ooWa | exact ooCh | rfl) only [x156_0, x156_1, x156_2, x156_5, x156_6, x156_7, x156_10, x156_11, x156_14, x156_15, x156_18, x156_19, x156_22, x156_25, x156_26, x156_27, x156_28, x156_31, x156_32, x156_35, x156_36, x156_39, x156_42, x156_45, x156_46, x156_49, x156_50, x156_53, x156_56, x156_59, x156_60, x156_62, x156_63, x156_66, x156_69, x156_72, x156_75, x156_76, x156_79, x156_80, x156_83, x156_84, x156_87, x156_90, x156_91, x156_94, x156_97, x156_101, x156_104, x156_105, x156_108, x156_110, x156_113, x156_114, x156_115, x156_116, x156_119, x156_120, x156_121, x156_122, x156_123, x156_126, x156_127, x156_130, x156_133, x156_134, x156_137, x156_138, gCh_spare, gCh_finder, g5, x2, Kc_some, if_pos, if_neg, ↓reduceIte, not_true_eq_false, not_false_eq_true]
            · rw [e] at x2 ⊢
              simp (disch := first | assumption | omega | exact notL_I | exact notL_N | exact notL_R | exact catS_le (Nat.le_of_ble_eq_true rfl) | exact Nat.le_of_ble_eq_true rfl | exact ooRo (by assumption) | exact ooAt (by assumption) | exact ooRu (by assumption) | exact ooLo (by assumption) | exact ooHa (by assumption) | exact ooLe (by assumption) | exact ooFn | exact ooAn | exact ooPa | exact ooTo | exact ooWa | exact ooCh | rfl) only [x156_0, x156_1, x156_2, x156_5, x156_6, x156_7, x156_10, x156_11, x156_14, x156_15, x156_18, x156_19, x156_22, x156_25, x156_26, x156_27, x156_28, x156_31, x156_32, x156_35, x156_36, x156_39, x156_42, x156_45, x156_46, x156_49, x156_50, x156_53, x156_56, x156_59, x156_60, x156_62, x156_63, x156_66, x156_69, x156_72, x156_75, x156_76, x156_79, x156_80, x156_83, x156_84, x156_87, x156_90, x156_91, x156_94, x156_97, x156_101, x156_104, x156_105, x156_108, x156_110, x156_113, x156_114, x156_115, x156_116, x156_119, x156_120, x156_121, x156_122, x156_123, x156_126, x156_127, x156_130, x156_133, x156_134, x156_137, x156_138, gCh_spare, gCh_finder, g5, x2, Kc_some, if_pos, if_neg, ↓reduceIte, not_true_eq_false, not_false_eq_true]
      obtain ⟨X, x1, x2, x3⟩ := cls
      have VX := Vr.up (upX X x1)
      rcases m_fol (sc := sc) (d := d) (X := X) (by omega) h0 h2 VX o with ⟨q', Z, y1, y2, y3, y4, y5, y6⟩ | ⟨e, Z, y1, _⟩
      · have e1 : q = q' := Sum.inr.inj (b1.symm.trans y1)
        subst e1
        have iv : inR (folV (A.1 h) q) := by
          unfold folV
          split
          · exact ⟨by decide, by decide⟩
          · split
            · exact ⟨by decide, by decide⟩
            · cases fulfL q (flwA (A.1 h) q).1.1 (mlF (flwA (A.1 h) q).1.2.2.2.1 (nameE (plcL q.2.1) 0 bd0))
              · exact ⟨by decide, by decide⟩
              · exact ⟨by decide, by decide⟩
        exact Lk.ok iv (tfA_ok o) (fin X x1 x2) y3 y4 y5 x3 y6
      · rw [b1] at y1
        cases y1
    · unfold RnA at b5
      have n2 : ∀ c, c = 108 ∨ 119 ≤ c → τ2 c = σ c := fun c hc => by rw [b2.1 c (by omega) (by omega) (by omega) (by omega), a1 c (by omega) (by omega) (by omega)]
      have Vc2 : VC (tfA A e) τ2 := Vc.tf (T := (0, A.2.1.2)) (e := e) n2 (W2.c (fun c x y => b2.1 c (by omega) (by omega) (by omega) (by omega))) b3 (by rw [b2.1 0 (by omega) (by omega) (by omega) (by omega)]; exact a2) (by rw [b2.1 86 (by omega) (by omega) (by omega) (by omega), a1 86 (by omega) (by omega) (by omega)]; exact e86) b4.1 b4.2
      have VX := Vr.up (τ := τ2) (fun c hc => n2 c (by omega))
      rcases m_fol (sc := sc) (d := d) (X := τ2) (by omega) h0 h2 VX o with ⟨q', Z, y1, _⟩ | ⟨e', Z, y1, y2, y3, y4, y5⟩
      · rw [b1] at y1
        cases y1
      · have e1 : e = e' := Sum.inl.inj (b1.symm.trans y1)
        subst e1
        refine Lk.ok (v := -1) ⟨by decide, by decide⟩ (tfA_ok o) Vc2 y2 y3 y4 (fun u Q => ?_) y5
        simp (disch := first | assumption | omega | exact notL_I | exact notL_N | exact notL_R | exact catS_le (Nat.le_of_ble_eq_true rfl) | exact Nat.le_of_ble_eq_true rfl | exact ooRo (by assumption) | exact ooAt (by assumption) | exact ooRu (by assumption) | exact ooLo (by assumption) | exact ooHa (by assumption) | exact ooLe (by assumption) | exact ooFn | exact ooAn | exact ooPa | exact ooTo | exact ooWa | exact ooCh | rfl) only [x156_0, x156_1, x156_2, x156_5, x156_6, x156_7, x156_10, x156_11, x156_14, x156_15, x156_18, x156_19, x156_22, x156_25, x156_26, x156_27, x156_28, x156_31, x156_32, x156_35, x156_36, x156_39, x156_42, x156_45, x156_46, x156_49, x156_50, x156_53, x156_56, x156_59, x156_60, x156_62, x156_63, x156_66, x156_69, x156_72, x156_75, x156_76, x156_79, x156_80, x156_83, x156_84, x156_87, x156_90, x156_91, x156_94, x156_97, x156_101, x156_104, x156_105, x156_108, x156_110, x156_113, x156_114, x156_115, x156_116, x156_119, x156_120, x156_121, x156_122, x156_123, x156_126, x156_127, x156_130, x156_133, x156_134, x156_137, x156_138, ha, a5, gCh_parser, gCh_told, b5, Kc_some, Kc_none, if_pos, if_neg, ↓reduceIte, not_true_eq_false, not_false_eq_true]
  · have rn := r_no (sc := sc) (d := d - 1) (σ := σ) (h := h) (by omega) hh hr
    have fa := fun u Q => s_fails (sc := sc) (σ := σ) (u := u) (Q := Q) (d := d - 1) (b := 1) (Or.inr rfl)
    refine Lk.no V (Or.inl ⟨rfl, by decide⟩) (fun u Q => ?_) (fun u Q => ?_)
    · have nh := fun u Q => s_noHallC (sc := sc) (σ := σ) (d := d - 1) (u := u) (Q := Q) hh hr
      simp (disch := first | assumption | omega | exact notL_I | exact notL_N | exact notL_R | exact catS_le (Nat.le_of_ble_eq_true rfl) | exact Nat.le_of_ble_eq_true rfl | exact ooRo (by assumption) | exact ooAt (by assumption) | exact ooRu (by assumption) | exact ooLo (by assumption) | exact ooHa (by assumption) | exact ooLe (by assumption) | exact ooFn | exact ooAn | exact ooPa | exact ooTo | exact ooWa | exact ooCh | rfl) only [x156_0, x156_1, x156_2, x156_5, x156_6, x156_7, x156_10, x156_11, x156_14, x156_15, x156_18, x156_19, x156_22, x156_25, x156_26, x156_27, x156_28, x156_31, x156_32, x156_35, x156_36, x156_39, x156_42, x156_45, x156_46, x156_49, x156_50, x156_53, x156_56, x156_59, x156_60, x156_62, x156_63, x156_66, x156_69, x156_72, x156_75, x156_76, x156_79, x156_80, x156_83, x156_84, x156_87, x156_90, x156_91, x156_94, x156_97, x156_101, x156_104, x156_105, x156_108, x156_110, x156_113, x156_114, x156_115, x156_116, x156_119, x156_120, x156_121, x156_122, x156_123, x156_126, x156_127, x156_130, x156_133, x156_134, x156_137, x156_138, nh]
      exact thrK rfl rfl
    · simp (disch := first | omega | exact notL_I | exact notL_N | exact notL_R | exact oM | exact catS_le (Nat.le_of_ble_eq_true rfl) | exact Nat.le_of_ble_eq_true rfl | rfl) only [x265_0, x265_1, x265_2, x265_5, x265_8, x265_11, x265_12, x265_13, x265_14, x265_15, x265_16, x265_19, x265_20, x265_23, x265_24, x265_25, x265_28, x265_29, x265_32, x265_33, x265_34, x265_35, x265_36, x265_37, x265_40, x265_41, x265_42, x265_45, x265_46, x265_47, x265_48, x265_52, x265_54, x265_57, x265_58, x265_61, x265_63, x265_64, x265_65, x265_68, x265_71, x265_72, x265_76, x265_77, x265_78, x265_79, x265_80, x265_83, x265_86, x265_87, x265_88, x265_89, x265_90, x265_92, x265_93, x265_96, x265_98, x265_99, x265_103, x265_104, x265_107, x265_108, x265_109, x265_110, x265_111, x265_113, x265_114, x265_116, x265_117, x265_120, x265_122, x265_124, x265_125, x265_126, x265_128, x265_131, x265_134, x265_135, x265_138, x265_140, x265_141, x265_142, x265_145, x265_147, x265_150, x265_153, x265_154, x265_157, x265_159, x265_162, x265_163, x265_164, x265_165, x265_168, x265_169, x265_172, x265_174, x265_177, x265_178, x265_181, x265_182, x265_183, x265_184, x265_187, x265_188, x265_191, x265_193, x265_195, x265_198, x265_201, x265_202, x265_205, x265_207, x265_210, x265_211, x265_212, x265_215, x265_217, x265_218, x265_221, x265_224, x265_225, x265_226, x265_228, x265_229, x265_232, x265_233, x265_234, x265_235, x265_238, x265_239, x265_240, x265_241, x265_244, x265_245, x265_246, x265_249, x265_250, x265_253, x265_254, x265_255, x265_256, x265_258, x265_259, x265_262, x265_263, x265_264, x265_265, x265_268, x265_269, x265_270, x265_271, x265_274, x265_275, x265_276, x265_279, x265_282, x265_285, x265_289, x265_290, x265_292, x265_295, x265_297, x265_299, x265_300, x265_303, x265_305, x265_306, x265_309, x265_310, x265_313, x265_314, x265_315, x265_316, x265_320, x265_322, x265_325, x265_326, x265_327, x265_328, x265_330, x265_331, x265_332, x265_333, x265_335, x265_338, x265_341, x265_344, x265_348, x265_351, x265_352, x265_356, x265_358, x265_361, x265_362, x265_365, x265_367, x265_368, x265_371, x265_373, x265_374, x265_375, x265_378, x265_382, x265_383, x265_384, x265_387, x265_390, x265_391, x265_394, x265_395, rn, fa, Kc_some, if_pos, if_neg, ↓reduceIte, not_true_eq_false, not_false_eq_true]
      rfl
end F5
