/-! texts are loaded, both -/
section O9
variable {sc : Scr} {d : Nat} {σ τ : St} {A : AS}
theorem VC.tp (V : VC A σ) (o : okAS A) : TpC σ (σ 0 3) ∧ σ 86 = A.2.1.2 ∧ σ 0 3 = A.2.1.1 := by
  obtain ⟨_, _, ⟨t1, t2⟩, _⟩ := V
  exact ⟨⟨by rw [t1]; exact o.2.1, fun k k0 k1 => by rw [t2]; exact o.2.2.1 k k0 k1⟩, t2, t1⟩
/-- nothing on the tape, this fault -/
def tfA (A : AS) (e : Fa) : AS := (A.1, (0, A.2.1.2), e, A.2.2.2)
theorem tfA_ok {e : Fa} (o : okAS A) : okAS (tfA A e) := ⟨o.1, ⟨by show (0 : Int) ≤ 0; decide, by show (0 : Int) ≤ 1000; decide⟩, o.2.2.1, trivial, trivial, o.2.2.2.2.2⟩
theorem VR.x (V : VR A σ) (F : Fx σ τ) (W : WfM τ) : VR A τ := V.kp ⟨F.1, fun g g0 g1 _ => F.2.1 g g0 (by omega), W, fun z => by rw [F.2.2.1]; exact z⟩ ((F.2.1 0 (by omega) (by omega)).hl V.2.1.1 (by omega) (by omega))
/-- the reference has told the fault -/
theorem VR.te {e : Fa} {x : Int} (V : VR A σ) (o : okAS A) (hx : x = e.1) : VR (tfA A e) (su (su (su σ 373 20 x) 373 21 e.2) 373 14 0) := by
  have ne : ∀ c, c ≠ 373 → su (su (su σ 373 20 x) 373 21 e.2) 373 14 0 c = σ c := fun c a => by rw [su_ne a, su_ne a, su_ne a]
  exact V.tf (T := (0, A.2.1.2)) (e := e) (fun c a b => ne c (by omega)) (fun j hj => by rw [su_off (by omega), su_off (by omega), su_off (by omega)]) ⟨by show (0 : Int) ≤ 0; decide, by show (0 : Int) ≤ 1000; decide⟩ o.2.2.1 su_eq (by rw [ne 386 (by omega)]; exact V.2.2.1.2) (by rw [su_off (by omega), su_off (by omega), su_eq, hx]) (by rw [su_off (by omega), su_eq])
theorem te_o {e : Fa} {x : Int} : (∀ c, c < 373 → su (su (su σ 373 20 x) 373 21 e.2) 373 14 0 c = σ c) ∧ su (su (su σ 373 20 x) 373 21 e.2) 373 14 0 373 0 = σ 373 0 := ⟨fun c hc => by rw [su_ne (by omega), su_ne (by omega), su_ne (by omega)], by rw [su_off (by omega), su_off (by omega), su_off (by omega)]⟩
set_option maxHeartbeats 1000000 in
theorem op_load {h : Int} (hd : 100 ≤ d) (hh : inR h) (V : VV A σ) : Lk sc d 22 [some (vR 0), some (vI h), none] 181 [some (vR 373), some (vI h), none] σ := by
  obtain ⟨Vc, Vr, o⟩ := id V
  by_cases hr : 0 ≤ h ∧ h ≤ 2
  · obtain ⟨h0, h2⟩ := hr
    have ha := fun u Q => s_hallAt (sc := sc) (σ := σ) (d := d - 1) (u := u) (Q := Q) h0 h2
    have ob := hpb_o h0 h2
    have hb := hpb_r h2
    have oH := oHa_2
    obtain ⟨T, e86, e03⟩ := Vc.tp o
    obtain ⟨τ1, a1, a2, a3, a4, a5⟩ := s_give (sc := sc) (d := d - 1) (σ := σ) (by omega) T
    rw [e86, e03] at a4
    unfold RnA at a5
    have f2 : far 2 84 := by unfold far; omega
    have W2 : WfHa τ1 2 := Vc.2.1.1.c (fun c x y => a1 c (by omega) (by omega) (by omega))
    have W9 : WfRu τ1 94 := Vc.2.1.2.c (fun c x y => a1 c (by omega) (by omega) (by omega))
    -- what the reference gives, wherever it starts
    have ref : ∀ X : St, VR A X → (∀ u Q, Ex sc (d - 1) 182 0 [some (vI h)] [] (wH X u) Q ↔ Q (.inl (some (vI 0))) (wH X u)) ∧
        ((∃ T ρ, txtP (nxT A.2.1.2 A.2.1.1) 1001 T0x (nxT A.2.1.2 A.2.1.1 0) = .inr T ∧ VR A ρ ∧ (∀ c, c < 373 → ρ c = X c) ∧ hlR ρ 4 = HxT T ∧ TxOk T ∧ ρ 373 18 = 0 ∧ ρ 373 0 = 0 ∧ RnA sc (d - 1) 184 0 [some (vR 373), none, none] (su X 373 0 0) (some (vI 1)) ρ) ∨
        (∃ e ρ, txtP (nxT A.2.1.2 A.2.1.1) 1001 T0x (nxT A.2.1.2 A.2.1.1 0) = .inl e ∧ VR A ρ ∧ (∀ c, c < 373 → ρ c = X c) ∧ BdI ρ e ∧ ρ 373 0 = 0 ∧ RnA sc (d - 1) 184 0 [some (vR 373), none, none] (su X 373 0 0) (some (vI 0)) ρ)) := by
      intro X VX
      have VX0 := VX.th (x := 0)
      refine ⟨r_yes (sc := sc) (d := d - 1) (σ := X) (h := h) (by omega) h0 h2, ?_⟩
      have st := s_textR (sc := sc) (d := d - 1) (σ := su X 373 0 0) (by omega) VX0.2.1.1
      rw [VX0.2.2.1.1, VX0.2.2.1.2] at st
      rcases st with ⟨T, ρ, s1, s2, s3, s4, s5, s6, s7⟩ | ⟨e, ρ, s1, s2, s3, s4, s5⟩
      · exact Or.inl ⟨T, ρ, s1, VX0.x s2 s3, fun c hc => by rw [s2.1.2.2.2.2.2.2.2.2.2 c hc, su_ne (by omega)], s4, s5, s6, by rw [s2.2.2.2, su_eq], s7⟩
      · exact Or.inr ⟨e, ρ, s1, VX0.x s2 s3, fun c hc => by rw [s2.1.2.2.2.2.2.2.2.2.2 c hc, su_ne (by omega)], s4, by rw [s2.2.2.2, su_eq], s5⟩
    rcases s_textC (sc := sc) (d := d - 1) (b := 2) (by omega) oH f2 W2 a4 with ⟨Tx', τ2, b1, b2, b3, b4, b5⟩ | ⟨e, τ2, b1, b2, b3, b4, b5⟩
    · unfold RnA at b5
      have n2 : ∀ c, c = 108 ∨ 119 ≤ c → τ2 c = σ c := fun c hc => by rw [b2.1 c (by omega) (by omega) (by omega) (by omega), a1 c (by omega) (by omega) (by omega)]
      have Vc2 : VC (tfA A (0, -1)) τ2 := Vc.tf (T := (0, A.2.1.2)) (e := (0, -1)) n2 b3.2.1 (W9.c (fun c x y => b2.1 c (by omega) (by omega) (by omega) (by omega))) (by rw [b2.1 0 (by omega) (by omega) (by omega) (by omega)]; exact a2) (by rw [b2.1 86 (by omega) (by omega) (by omega) (by omega), a1 86 (by omega) (by omega) (by omega)]; exact e86) b4.1 b4.2
      have ap : apt 2 (hpb h) 84 := (apt_sp h2).2
      have wb := (Vc2.1 h h0 h2).2.1
      obtain ⟨v1, v2, v3, v4⟩ := cpHa_v (σ := τ2) ap b3.2.1 wb.2.2.2.2.2.1
      have tk := fun u Q => s_takeH (sc := sc) (σ := τ2) (u := u) (Q := Q) (d := d - 1) (q := 2) (b := hpb h) oH ob (by omega) ap
      rw [b3.1] at v3
      rw [b3.2.2] at v4
      generalize cpHa τ2 2 (hpb h) = X at *
      have kp := v1.kp h2
      have upX : ∀ c, 373 ≤ c → X c = σ c := fun c hc => by rw [kp.up h2 c hc, n2 c (by omega)]
      have VX := Vr.up upX
      obtain ⟨ry, rf⟩ := ref X VX
      have fa := fun u Q => s_fails (sc := sc) (σ := X) (u := u) (Q := Q) (d := d - 1) (b := 0) (Or.inl rfl)
      rcases rf with ⟨T2, ρ, p1, p2, p3, p4, p5, p6, p7, p8⟩ | ⟨e, ρ, p1, _⟩
      · have eT : Tx' = T2 := Sum.inr.inj (b1.symm.trans p1)
        subst eT
        unfold RnA at p8
        have te := s_tellsW (sc := sc) (d := d - 1) (σ := ρ) (e := (0, -1)) (by rw [p6]; exact ⟨by decide, by decide⟩) (by rw [p6]; rfl)
        rw [p6] at te
        have VY := p2.te (e := (0, -1)) (x := 0) o rfl
        have oY := te_o (σ := ρ) (e := (0, -1)) (x := 0)
        have h4Y : hlR (su (su (su ρ 373 20 0) 373 21 (-1)) 373 14 0) 4 = HxT Tx' := ((HQ.of (fun c a b => by rw [su_ne (by omega), su_ne (by omega), su_ne (by omega)])).hl p2.2.1.1 (by omega) (by omega)).trans p4
        dsimp only at te VY oY
        generalize su (su (su ρ 373 20 0) 373 21 (-1)) 373 14 0 = Y at *
        have cp := fun u Q => s_copies (sc := sc) (σ := Y) (u := u) (Q := Q) (d := d - 1) (f := 4) (t := h) (by omega) VY.2.1.1 (by omega) (by omega) h0 (by omega) (by omega)
        have K2 := cpH_kp (σ := Y) (f := 4) (t := h) VY.2.1.1 (by omega) (by omega)
        have e2 : hlR (cpH Y 4 h) h = HxT Tx' := (cpH_c.hl VY.2.1.1 (by omega) (by omega)).trans h4Y
        have er : rsR (cpH Y 4 h) h = Tx'.2.2.1 := congrArg (fun x : Hl => x.2.2.2.1) e2
        have rs := fun u Q => s_rowSum (sc := sc) (σ := cpH Y 4 h) (u := u) (Q := Q) (d := d - 1) (h := h) K2.2.2.1 h0 (by omega)
        rw [er] at rs
        have es : rsC X (hpb h + 3) = Tx'.2.2.1 := congrArg (fun x : Hl => x.2.2.2.1) v3
        have el := rsC_len (σ := X) (r := hpb h + 3) v2.2.2.2.1.1.1
        rw [es] at el
        have w40 := v2.2.2.2.1.1.2
        have orr := ob.rows
        have w0 := v2.1
        have v4' : X (hpb h) 0 = tabF (HxT Tx').1 26 0 := v4
        have kH : okH (HxT Tx') := ⟨p5.1, p5.2.2.2.2.2.2, ⟨by omega, p5.2.1⟩, p5.2.2.1, p5.2.2.2.1, p5.2.2.2.2.1, ⟨by show (0 : Int) ≤ 0; decide, by show (0 : Int) ≤ 3; decide⟩⟩
        refine Lk.ok (v := (Tx'.2.2.1.length : Int)) ⟨by omega, by omega⟩ ((tfA_ok o).st (h := h) kH) (Vc2.h h0 h2 kp v2 v3 v4) (VY.h K2 e2) (fun c hc => by rw [K2.1.2.2.2.2.2.2.2.2.2 c hc, oY.1 c hc, p3 c hc]) (by rw [cpH_r.1 373 (by omega), oY.2]; exact p7) (fun u Q => ?_) (fun u Q => ?_)
        · simp (disch := first | assumption | omega | exact notL_I | exact notL_N | exact notL_R | exact catS_le (Nat.le_of_ble_eq_true rfl) | exact Nat.le_of_ble_eq_true rfl | exact ooRo (by assumption) | exact ooAt (by assumption) | exact ooRu (by assumption) | exact ooLo (by assumption) | exact ooHa (by assumption) | exact ooLe (by assumption) | exact ooFn | exact ooAn | exact ooPa | exact ooTo | exact ooWa | exact ooCh | rfl) only [x22_0, x22_1, x22_2, x22_5, x22_6, x22_7, x22_10, x22_11, x22_14, x22_15, x22_18, x22_21, x22_24, x22_25, x22_26, x22_27, x22_28, x22_31, x22_34, x22_35, x22_38, x22_41, ha, a5, gCh_parser, gCh_spare, b5, tk, gHa_rows, gRo_count, el.symm, Kc_some, Kc_none, if_pos, if_neg, ↓reduceIte, not_true_eq_false, not_false_eq_true]
        · simp (disch := first | omega | exact notL_I | exact notL_N | exact notL_R | exact oM | exact catS_le (Nat.le_of_ble_eq_true rfl) | exact Nat.le_of_ble_eq_true rfl | rfl) only [x181_0, x181_1, x181_2, x181_5, x181_8, x181_11, x181_12, x181_13, x181_14, x181_17, x181_18, x181_19, x181_22, x181_23, x181_26, x181_27, x181_28, x181_29, x181_30, x181_31, x181_34, x181_35, x181_36, x181_39, ry, fa, p8, te, cp, rs, Kc_some, Kc_none, if_pos, if_neg, ↓reduceIte, not_true_eq_false, not_false_eq_true]
      · rw [b1] at p1
        cases p1
    · unfold RnA at b5
      have n2 : ∀ c, c = 108 ∨ 119 ≤ c → τ2 c = σ c := fun c hc => by rw [b2.1 c (by omega) (by omega) (by omega) (by omega), a1 c (by omega) (by omega) (by omega)]
      have Vc2 : VC (tfA A e) τ2 := Vc.tf (T := (0, A.2.1.2)) (e := e) n2 b3 (W9.c (fun c x y => b2.1 c (by omega) (by omega) (by omega) (by omega))) (by rw [b2.1 0 (by omega) (by omega) (by omega) (by omega)]; exact a2) (by rw [b2.1 86 (by omega) (by omega) (by omega) (by omega), a1 86 (by omega) (by omega) (by omega)]; exact e86) b4.1 b4.2
      have VX := Vr.up (τ := τ2) (fun c hc => n2 c (by omega))
      obtain ⟨ry, rf⟩ := ref τ2 VX
      have fa := fun u Q => s_fails (sc := sc) (σ := τ2) (u := u) (Q := Q) (d := d - 1) (b := 0) (Or.inl rfl)
      rcases rf with ⟨T2, ρ, p1, _⟩ | ⟨e', ρ, p1, p2, p3, p4, p7, p8⟩
      · rw [b1] at p1
        cases p1
      · have ee : e = e' := Sum.inl.inj (b1.symm.trans p1)
        subst ee
        have f5 := fl_txt 1001 T0x _ e b1
        unfold RnA at p8
        have te := s_tellsW (sc := sc) (d := d - 1) (σ := ρ) (e := e) (by rw [p4.1]; exact ⟨by omega, by omega⟩) (by rw [p4.1, if_neg (by omega)]; exact p4.2)
        rw [p4.1] at te
        have oY := te_o (σ := ρ) (e := e) (x := e.1)
        refine Lk.ok (v := -1) ⟨by decide, by decide⟩ (tfA_ok o) Vc2 (p2.te (e := e) (x := e.1) o rfl) (fun c hc => by rw [oY.1 c hc, p3 c hc]) (by rw [oY.2]; exact p7) (fun u Q => ?_) (fun u Q => ?_)
        · simp (disch := first | assumption | omega | exact notL_I | exact notL_N | exact notL_R | exact catS_le (Nat.le_of_ble_eq_true rfl) | exact Nat.le_of_ble_eq_true rfl | exact ooRo (by assumption) | exact ooAt (by assumption) | exact ooRu (by assumption) | exact ooLo (by assumption) | exact ooHa (by assumption) | exact ooLe (by assumption) | exact ooFn | exact ooAn | exact ooPa | exact ooTo | exact ooWa | exact ooCh | rfl) only [x22_0, x22_1, x22_2, x22_5, x22_6, x22_7, x22_10, x22_11, x22_14, x22_15, x22_18, x22_21, x22_24, x22_25, x22_26, x22_27, x22_28, x22_31, x22_34, x22_35, x22_38, x22_41, ha, a5, gCh_parser, gCh_spare, b5, Kc_some, Kc_none, if_pos, if_neg, ↓reduceIte, not_true_eq_false, not_false_eq_true]
        · simp (disch := first | omega | exact notL_I | exact notL_N | exact notL_R | exact oM | exact catS_le (Nat.le_of_ble_eq_true rfl) | exact Nat.le_of_ble_eq_true rfl | rfl) only [x181_0, x181_1, x181_2, x181_5, x181_8, x181_11, x181_12, x181_13, x181_14, x181_17, x181_18, x181_19, x181_22, x181_23, x181_26, x181_27, x181_28, x181_29, x181_30, x181_31, x181_34, x181_35, x181_36, x181_39, ry, fa, p8, te, Kc_some, Kc_none, if_pos, if_neg, ↓reduceIte, not_true_eq_false, not_false_eq_true]
  · have rn := r_no (sc := sc) (d := d - 1) (σ := σ) (h := h) (by omega) hh hr
    have fa := fun u Q => s_fails (sc := sc) (σ := σ) (u := u) (Q := Q) (d := d - 1) (b := 1) (Or.inr rfl)
    refine Lk.no V (Or.inl ⟨rfl, by decide⟩) (fun u Q => ?_) (fun u Q => ?_)
    · have nh := fun u Q => s_noHallC (sc := sc) (σ := σ) (d := d - 1) (u := u) (Q := Q) hh hr
      simp (disch := first | assumption | omega | exact notL_I | exact notL_N | exact notL_R | exact catS_le (Nat.le_of_ble_eq_true rfl) | exact Nat.le_of_ble_eq_true rfl | exact ooRo (by assumption) | exact ooAt (by assumption) | exact ooRu (by assumption) | exact ooLo (by assumption) | exact ooHa (by assumption) | exact ooLe (by assumption) | exact ooFn | exact ooAn | exact ooPa | exact ooTo | exact ooWa | exact ooCh | rfl) only [x22_0, x22_1, x22_2, x22_5, x22_6, x22_7, x22_10, x22_11, x22_14, x22_15, x22_18, x22_21, x22_24, x22_25, x22_26, x22_27, x22_28, x22_31, x22_34, x22_35, x22_38, x22_41, nh]
      exact thrK rfl rfl
    · simp (disch := first | omega | exact notL_I | exact notL_N | exact notL_R | exact oM | exact catS_le (Nat.le_of_ble_eq_true rfl) | exact Nat.le_of_ble_eq_true rfl | rfl) only [x181_0, x181_1, x181_2, x181_5, x181_8, x181_11, x181_12, x181_13, x181_14, x181_17, x181_18, x181_19, x181_22, x181_23, x181_26, x181_27, x181_28, x181_29, x181_30, x181_31, x181_34, x181_35, x181_36, x181_39, rn, fa, Kc_some, if_pos, if_neg, ↓reduceIte, not_true_eq_false, not_false_eq_true]
      rfl
end O9
