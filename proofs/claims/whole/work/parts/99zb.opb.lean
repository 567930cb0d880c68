/-! leads, both -/
section Oc
variable {sc : Scr} {d : Nat} {σ τ : St} {A : AS}
/-- another lead was told -/
def tlA (A : AS) (f : Int → Int) : AS := (A.1, A.2.1, A.2.2.1, f, A.2.2.2.2)
theorem tlA_ok {f : Int → Int} (o : okAS A) : okAS (tlA A f) := ⟨o.1, o.2.1, o.2.2.1, trivial, trivial, o.2.2.2.2.2⟩
theorem VC.tl {f : Int → Int} (V : VC A σ) (h : ∀ c, c < 373 → c < 107 ∨ 111 < c → τ c = σ c) (h8 : ∀ k, 0 ≤ k → k ≤ 99 → τ 108 k = f k) : VC (tlA A f) τ := by
  obtain ⟨v1, v2, v3, v4, v5, v6, v7⟩ := V
  refine ⟨fun g g0 g2 => ?_, ⟨v2.1.c (fun c a b => h c (by omega) (by omega)), v2.2.c (fun c a b => h c (by omega) (by omega))⟩, by rw [h 0 (by omega) (by omega), h 86 (by omega) (by omega)]; exact v3, by rw [h 87 (by omega) (by omega)]; exact v4, h8, by rw [h 119 (by omega) (by omega)]; exact v6, v7.c (by rw [h 119 (by omega) (by omega)]) (h 120 (by omega) (by omega))⟩
  obtain ⟨a1, a2, a3⟩ := v1 g g0 g2
  have r := hpb_r g2
  exact ⟨(hlC_c (fun c x y => h c (by omega) (by omega)) a2.2.1.2).trans a1, a2.c (fun c x y => h c (by omega) (by omega)), by rw [h _ (by omega) (by omega)]; exact a3⟩
theorem l_told {h g : Int} : ∀ (k : Nat) (i : Int), 0 ≤ i → i + k = 100 → ∀ (S : St),
    ∃ S', (∀ c, c ≠ 396 → S' c = S c) ∧ (∀ j, j < i → S' 396 j = S 396 j) ∧ (∀ j, i ≤ j → j < 100 → S' 396 j = S 394 j) ∧ ∀ (u : Bool × Nat × Nat × Int) (Q : Rs → HS → Prop), Ex sc d 254 46 [some (vR 373), some (vI h), some (vI g), some (vI i)] [] (wH S u) Q ↔ Q (.inl (some (vI (S 373 37)))) (wH S' u) := by
  intro k
  induction k with
  | zero =>
    intro i i0 hi S
    refine ⟨S, fun _ _ => rfl, fun _ _ => rfl, fun j a b => by omega, fun u Q => ?_⟩
    rw [x254_46]
    simp (disch := first | omega | exact notL_I | exact notL_N | exact notL_R | exact oM | exact catS_le (Nat.le_of_ble_eq_true rfl) | exact Nat.le_of_ble_eq_true rfl | rfl) only [x254_0, x254_1, x254_2, x254_5, x254_8, x254_9, x254_12, x254_15, x254_16, x254_19, x254_20, x254_23, x254_26, x254_27, x254_28, x254_29, x254_32, x254_33, x254_34, x254_35, x254_36, x254_37, x254_38, x254_41, x254_44, x254_45, x254_47, x254_49, x254_52, x254_53, x254_56, x254_57, x254_58, x254_61, x254_62, x254_63, x254_64, x254_67, x254_70, x254_71, x254_74, gM_latest, if_pos, if_neg, ↓reduceIte, not_true_eq_false, not_false_eq_true]
  | succ k ih =>
    intro i i0 hi S
    obtain ⟨S', s1, s2, s3, s4⟩ := ih (i + 1) (by omega) (by omega) (su S 396 i (S 394 i))
    refine ⟨S', fun c hc => by rw [s1 c hc, su_ne hc], fun j hj => by rw [s2 j (by omega), su_off (by omega)], fun j j0 j1 => ?_, fun u Q => ?_⟩
    · by_cases e : j = i
      · rw [s2 j (by omega), e, su_eq]
      · rw [s3 j (by omega) j1, su_ne (by omega)]
    · have := s4 u Q
      rw [su_ne (by omega)] at this
      rw [← this, x254_46]
      simp (disch := first | omega | exact notL_I | exact notL_N | exact notL_R | exact oM | exact catS_le (Nat.le_of_ble_eq_true rfl) | exact Nat.le_of_ble_eq_true rfl | rfl) only [x254_0, x254_1, x254_2, x254_5, x254_8, x254_9, x254_12, x254_15, x254_16, x254_19, x254_20, x254_23, x254_26, x254_27, x254_28, x254_29, x254_32, x254_33, x254_34, x254_35, x254_36, x254_37, x254_38, x254_41, x254_44, x254_45, x254_47, x254_49, x254_52, x254_53, x254_56, x254_57, x254_58, x254_61, x254_62, x254_63, x254_64, x254_67, x254_70, x254_71, x254_74, gM_told, gM_stand, RM_stand, WM_told, if_pos, if_neg, ↓reduceIte, not_true_eq_false, not_false_eq_true]
def ldA (A : AS) (h g : Int) : LR := leadF (A.1 h).1 (A.1 g).1 (A.1 g).2.2.2.1 (A.1 h).2.2.2.1 bd0 0
set_option maxHeartbeats 1000000 in
theorem op_leads {h g : Int} (hd : 100 ≤ d) (hh : inR h) (hg : inR g) (V : VV A σ) : Lk sc d 135 [some (vR 0), some (vI h), some (vI g), none, none, none] 254 [some (vR 373), some (vI h), some (vI g), none] σ := by
  obtain ⟨Vc, Vr, o⟩ := id V
  by_cases hr : 0 ≤ h ∧ h ≤ 2
  · obtain ⟨h0, h2⟩ := hr
    have ha := fun u Q => s_hallAt (sc := sc) (σ := σ) (d := d - 1) (u := u) (Q := Q) h0 h2
    by_cases hr2 : 0 ≤ g ∧ g ≤ 2
    · obtain ⟨g0, g2⟩ := hr2
      have hb := fun u Q => s_hallAt (sc := sc) (σ := σ) (d := d - 1) (u := u) (Q := Q) g0 g2
      have oh := hpb_o h0 h2
      have og := hpb_o g0 g2
      have rh := hpb_r h2
      have rg := hpb_r g2
      have oL := oLe_107
      have kh := o.1 h h0 h2
      have kg := o.1 g g0 g2
      obtain ⟨a1, a2, a3⟩ := Vc.1 h h0 h2
      obtain ⟨b1, b2, b3⟩ := Vc.1 g g0 g2
      have eC1 : coC σ (hpb h) = (A.1 h).1 := congrArg (fun x : Hl => x.1) a1
      have eC2 : coC σ (hpb g) = (A.1 g).1 := congrArg (fun x : Hl => x.1) b1
      have eS1 : rsC σ (hpb h + 3) = (A.1 h).2.2.2.1 := congrArg (fun x : Hl => x.2.2.2.1) a1
      have eS2 : rsC σ (hpb g + 3) = (A.1 g).2.2.2.1 := congrArg (fun x : Hl => x.2.2.2.1) b1
      have sk := s_seek (sc := sc) (d := d - 1) (σ := σ) (e := 107) (b1 := hpb h) (b2 := hpb g) (wo := -1) oL oh og (by omega) (by omega) (by omega) ⟨by decide, by decide⟩ a2 b2 (by rw [eS1, eS2, eC1, eC2]; exact fun w hw v hv e1 e2 => ok_lieT (kh.2.2.2.2.2.1.1 w hw) (kg.2.2.2.2.2.1.1 v hv) e1 e2)
      rw [tgC_all, eC1, eC2, eS1, eS2] at sk
      obtain ⟨τ, t1, t2, t3, t4⟩ := sk
      have ex : leadF (A.1 h).1 (A.1 g).1 (A.1 g).2.2.2.1 (A.1 h).2.2.2.1 bd0 0 = ldA A h g := rfl
      rw [ex] at t3 t4
      unfold RnA at t4
      -- the reference, wherever it starts
      have ref : ∀ X : St, VR A X → ∃ Z, VR (tlA A (fun k => if (ldA A h g).1 = 1 then (ldA A h g).2.2.1 k else -1)) Z ∧ (∀ c, c < 373 → Z c = X c) ∧ Z 373 0 = 0 ∧ inR (ldA A h g).1 ∧ RnA sc d 254 0 [some (vR 373), some (vI h), some (vI g), none] X (some (vI (ldA A h g).1)) Z := by
        intro X VX
        have V0 := VX.th (x := 0)
        have ry := r_yes (sc := sc) (d := d - 1) (σ := X) (h := h) (by omega) h0 h2
        have ry2 := r_yes (sc := sc) (d := d - 1) (σ := X) (h := g) (by omega) g0 g2
        have fa := fun u Q => s_fails (sc := sc) (σ := X) (u := u) (Q := Q) (d := d - 1) (b := 0) (Or.inl rfl)
        have ns := fun u Q => s_noSt (sc := sc) (σ := su X 373 0 0) (u := u) (Q := Q) (d := d - 1)
        have F1 : Fld (su X 373 0 0) (su (fl (su X 373 0 0) 394 0 100 (-1)) 373 36 0) := ⟨fun c a b _ => by rw [su_ne a, fl_ne b], fun j hj => by rw [su_off hj, fl_ne (by omega)]⟩
        have e394 : ∀ v, 0 ≤ v → v ≤ 99 → su (fl (su X 373 0 0) 394 0 100 (-1)) 373 36 0 394 v = -1 := fun v v0 v1 => by rw [su_ne (by omega), fl_at, if_pos (by omega)]
        have hB : cL (su (fl (su X 373 0 0) 394 0 100 (-1)) 373 36 0 394) = bd0 := by
          funext v
          unfold cL bd0
          split
          · rename_i hv; exact e394 v hv.1 hv.2
          · rfl
        have w0 := V0.2.1.1
        have wn := w0.nxt h0 (show h ≤ 4 by omega)
        have wn2 := w0.nxt g0 (show g ≤ 4 by omega)
        have rS1 : rsR (su X 373 0 0) h = (A.1 h).2.2.2.1 := congrArg (fun x : Hl => x.2.2.2.1) (V0.1 h h0 h2)
        have rS2 : rsR (su X 373 0 0) g = (A.1 g).2.2.2.1 := congrArg (fun x : Hl => x.2.2.2.1) (V0.1 g g0 g2)
        have rC1 : coR (su X 373 0 0) h = (A.1 h).1 := congrArg (fun x : Hl => x.1) (V0.1 h h0 h2)
        have rC2 : coR (su X 373 0 0) g = (A.1 g).1 := congrArg (fun x : Hl => x.1) (V0.1 g g0 g2)
        have hcol : ∀ n, 0 ≤ n → n < su X 373 0 0 381 h → su X 373 0 0 377 (200 * h + n) = 1 → 1 ≤ su X 373 0 0 374 (26 * h + su X 373 0 0 378 (200 * h + n)) := fun n n0 n1 n2 => by
          have me : rwR (su X 373 0 0) h n ∈ rsR (su X 373 0 0) h := (rs_memI _ _).mpr ⟨n, n0, by omega, n2, rfl⟩
          rw [rS1] at me
          have ok := (kh.2.2.2.2.2.1.1 _ me).2.2.1
          have ta := w0.tab h0 (show h ≤ 4 by omega) n0 (show n ≤ 199 by omega)
          rw [← rC1] at ok
          have e : (rwR (su X 373 0 0) h n).2.1 = su X 373 0 0 378 (200 * h + n) := rfl
          rw [e, coR_in ta.1 ta.2] at ok
          exact ok
        have l40 : (rsF (su X 373 0 0) h (su X 373 0 0 381 h).toNat 0).length ≤ 40 := by
          have : rsF (su X 373 0 0) h (su X 373 0 0 381 h).toNat 0 = (A.1 h).2.2.2.1 := rS1
          rw [this]
          exact kh.2.2.2.2.2.1.2.2.2.2.1
        have sl := s_lead (sc := sc) (σ0 := su X 373 0 0) (h := h) (to := g) (bu := -1) w0 h0 (by omega) g0 (by omega) ⟨by decide, by decide⟩ hcol 40 (su X 373 0 0 381 h).toNat 0 (d - 1) (su (fl (su X 373 0 0) 394 0 100 (-1)) 373 36 0) 0 l40 (by omega) (by omega) F1 (fun v v0 v1 => by rw [e394 v v0 v1]; omega) su_eq (by omega) (by omega)
        have tg : tgR (su X 373 0 0) g (-1) (su X 373 0 0 381 g).toNat 0 = (A.1 g).2.2.2.1 := by
          rw [← rS2]
          unfold tgR
          exact List.filter_eq_self.mpr (fun v hv => by
            have := rs_mem _ _ v hv
            exact decide_eq_true (by omega))
        have rs1 : rsF (su X 373 0 0) h (su X 373 0 0 381 h).toNat 0 = (A.1 h).2.2.2.1 := rS1
        rw [tg, rs1, rC1, rC2, hB] at sl
        have ex2 : leadF (A.1 h).1 (A.1 g).1 (A.1 g).2.2.2.1 (A.1 h).2.2.2.1 bd0 0 = ldA A h g := rfl
        rw [ex2] at sl
        obtain ⟨Y, y1, y2⟩ := sl
        unfold RnA at y2
        obtain ⟨Z, z1, z2, z3, z4⟩ := l_told (sc := sc) (d := d) (h := h) (g := g) 100 0 (by omega) (by omega) (su Y 373 37 (ldA A h g).1)
        have FY := y1.1
        have VY := V0.kp (Dt.kp (h := 0) w0 FY.dt FY.rs (FY.1 393 (by omega) (by omega) (by omega))) (FY.dt.hl w0 (by omega) (by omega))
        have Zc : ∀ c, c ≠ 396 → c ≠ 373 → Z c = Y c := fun c a b => by rw [z1 c a, su_ne b]
        have Z3 : ∀ j, j ≠ 37 → Z 373 j = Y 373 j := fun j hj => by rw [z1 373 (by omega), su_off hj]
        have Z37 : Z 373 37 = (ldA A h g).1 := by rw [z1 373 (by omega), su_eq]
        have rng : inR (ldA A h g).1 := by
          have := lit_fresh (C1 := (A.1 h).1) (C2 := (A.1 g).1) (T := (A.1 g).2.2.2.1) (A.1 h).2.2.2.1 bd0 0
          rw [ex2] at this
          exact ⟨by omega, by omega⟩
        obtain ⟨v1, ⟨v2, v2'⟩, v3, v4, v5, v6, v7, v8⟩ := VY
        have DZ : Dt Y Z := ⟨fun c a b => Zc c (by omega) (by omega), Z3 14 (by omega)⟩
        refine ⟨Z, ⟨fun q q0 q2 => (DZ.hl v2 q0 (by omega)).trans (v1 q q0 q2), ⟨DZ.wf v2, by rw [Zc 393 (by omega) (by omega)]; exact v2'⟩, by rw [Z3 14 (by omega), Zc 386 (by omega) (by omega)]; exact v3, by rw [Z3 20 (by omega), Z3 21 (by omega)]; exact v4, ⟨by rw [Z37]; exact rng, fun k k0 k1 => ?_⟩, by rw [Z3 44 (by omega)]; exact v6, by rw [Z3 42 (by omega)]; exact v7, by rw [Zc 398 (by omega) (by omega)]; exact v8⟩, fun c hc => by rw [Zc c (by omega) (by omega), FY.1 c (by omega) (by omega) (by omega), su_ne (by omega)], by rw [Z3 0 (by omega), FY.2 0 (by omega), su_eq], rng, fun u Q => ?_⟩
        · rw [Z37]
          show (if (ldA A h g).1 = 1 then Z 396 k else -1) = if (ldA A h g).1 = 1 then (ldA A h g).2.2.1 k else -1
          by_cases e : (ldA A h g).1 = 1
          · rw [if_pos e, if_pos e, z3 k k0 (by omega), su_ne (by omega), ← (y1.2.2.2.2.2.1 e).1]
            unfold cL
            rw [if_pos ⟨k0, k1⟩]
          · rw [if_neg e, if_neg e]
        · have z4' := z4 u Q
          rw [su_eq] at z4'
          rw [← z4']
          simp (disch := first | omega | exact notL_I | exact notL_N | exact notL_R | exact oM | exact catS_le (Nat.le_of_ble_eq_true rfl) | exact Nat.le_of_ble_eq_true rfl | rfl) only [x254_0, x254_1, x254_2, x254_5, x254_8, x254_9, x254_12, x254_15, x254_16, x254_19, x254_20, x254_23, x254_26, x254_27, x254_28, x254_29, x254_32, x254_33, x254_34, x254_35, x254_36, x254_37, x254_38, x254_41, x254_44, x254_45, x254_47, x254_49, x254_52, x254_53, x254_56, x254_57, x254_58, x254_61, x254_62, x254_63, x254_64, x254_67, x254_70, x254_71, x254_74, ry, ry2, fa, ns, y2, pM_latest, Kc_some, Kc_none, if_pos, if_neg, ↓reduceIte, not_true_eq_false, not_false_eq_true]
      by_cases e1 : (ldA A h g).1 = 1
      · obtain ⟨⟨n, T1, T2⟩, _⟩ := t3 e1
        have Vc1 : VC (tlA A (fun k => if (ldA A h g).1 = 1 then (ldA A h g).2.2.1 k else -1)) τ := Vc.tl (fun c _ hc => t1 c (by omega)) (fun k k0 k1 => by
          rw [if_pos e1, ← T2]
          exact (T1.2.1.at_ k0 (by omega)).symm)
        obtain ⟨Z, p1, p2, p3, p4, p5⟩ := ref τ (Vr.up (fun c hc => t1 c (by omega)))
        refine Lk.ok (v := (ldA A h g).1) p4 (tlA_ok o) Vc1 p1 p2 p3 (fun u Q => ?_) p5
        rw [e1] at t4 ⊢
        simp (disch := first | assumption | omega | exact notL_I | exact notL_N | exact notL_R | exact catS_le (Nat.le_of_ble_eq_true rfl) | exact Nat.le_of_ble_eq_true rfl | exact ooRo (by assumption) | exact ooAt (by assumption) | exact ooRu (by assumption) | exact ooLo (by assumption) | exact ooHa (by assumption) | exact ooLe (by assumption) | exact ooFn | exact ooAn | exact ooPa | exact ooTo | exact ooWa | exact ooCh | rfl) only [x135_0, x135_1, x135_2, x135_5, x135_6, x135_7, x135_8, x135_11, x135_13, x135_14, x135_17, x135_18, x135_20, x135_21, x135_24, x135_26, x135_28, x135_29, x135_32, x135_33, x135_36, x135_39, x135_41, ha, hb, gCh_latestLead, t4, Kc_some, Kc_none, if_pos, if_neg, ↓reduceIte, not_true_eq_false, not_false_eq_true]
      · have fo := fun u Q => s_forgetL (sc := sc) (d := d - 1) (σ := τ) (u := u) (Q := Q) (e := 107) oL (by omega)
        have Vc1 : VC (tlA A (fun k => if (ldA A h g).1 = 1 then (ldA A h g).2.2.1 k else -1)) (fgL 107 τ) := Vc.tl (fun c _ hc => by rw [fgL_h c (by omega), t1 c (by omega)]) (fun k k0 k1 => by
          rw [if_neg e1]
          exact fgL_1 (e := 107) k0 (by omega))
        obtain ⟨Z, p1, p2, p3, p4, p5⟩ := ref (fgL 107 τ) (Vr.up (fun c hc => by rw [fgL_h c (by omega), t1 c (by omega)]))
        refine Lk.ok (v := (ldA A h g).1) p4 (tlA_ok o) Vc1 p1 p2 p3 (fun u Q => ?_) p5
        obtain ⟨p41, p42⟩ := p4
        simp (disch := first | assumption | omega | exact notL_I | exact notL_N | exact notL_R | exact catS_le (Nat.le_of_ble_eq_true rfl) | exact Nat.le_of_ble_eq_true rfl | exact ooRo (by assumption) | exact ooAt (by assumption) | exact ooRu (by assumption) | exact ooLo (by assumption) | exact ooHa (by assumption) | exact ooLe (by assumption) | exact ooFn | exact ooAn | exact ooPa | exact ooTo | exact ooWa | exact ooCh | rfl) only [x135_0, x135_1, x135_2, x135_5, x135_6, x135_7, x135_8, x135_11, x135_13, x135_14, x135_17, x135_18, x135_20, x135_21, x135_24, x135_26, x135_28, x135_29, x135_32, x135_33, x135_36, x135_39, x135_41, ha, hb, gCh_latestLead, t4, fo, Kc_some, Kc_none, if_pos, if_neg, ↓reduceIte, not_true_eq_false, not_false_eq_true]
    · have ry := r_yes (sc := sc) (d := d - 1) (σ := σ) (h := h) (by omega) h0 h2
      have rn := r_no (sc := sc) (d := d - 1) (σ := σ) (h := g) (by omega) hg hr2
      have fa := fun u Q => s_fails (sc := sc) (σ := σ) (u := u) (Q := Q) (d := d - 1) (b := 1) (Or.inr rfl)
      refine Lk.no V (Or.inl ⟨rfl, by decide⟩) (fun u Q => ?_) (fun u Q => ?_)
      · have nh := fun u Q => s_noHallC (sc := sc) (σ := σ) (d := d - 1) (u := u) (Q := Q) hg hr2
        simp (disch := first | assumption | omega | exact notL_I | exact notL_N | exact notL_R | exact catS_le (Nat.le_of_ble_eq_true rfl) | exact Nat.le_of_ble_eq_true rfl | exact ooRo (by assumption) | exact ooAt (by assumption) | exact ooRu (by assumption) | exact ooLo (by assumption) | exact ooHa (by assumption) | exact ooLe (by assumption) | exact ooFn | exact ooAn | exact ooPa | exact ooTo | exact ooWa | exact ooCh | rfl) only [x135_0, x135_1, x135_2, x135_5, x135_6, x135_7, x135_8, x135_11, x135_13, x135_14, x135_17, x135_18, x135_20, x135_21, x135_24, x135_26, x135_28, x135_29, x135_32, x135_33, x135_36, x135_39, x135_41, ha, nh, Kc_some]
        exact thrK rfl rfl
      · simp (disch := first | omega | exact notL_I | exact notL_N | exact notL_R | exact oM | exact catS_le (Nat.le_of_ble_eq_true rfl) | exact Nat.le_of_ble_eq_true rfl | rfl) only [x254_0, x254_1, x254_2, x254_5, x254_8, x254_9, x254_12, x254_15, x254_16, x254_19, x254_20, x254_23, x254_26, x254_27, x254_28, x254_29, x254_32, x254_33, x254_34, x254_35, x254_36, x254_37, x254_38, x254_41, x254_44, x254_45, x254_46, x254_47, x254_49, x254_52, x254_53, x254_56, x254_57, x254_58, x254_61, x254_62, x254_63, x254_64, x254_67, x254_70, x254_71, x254_74, ry, rn, fa, Kc_some, if_pos, if_neg, ↓reduceIte, not_true_eq_false, not_false_eq_true]
        rfl
  · have rn := r_no (sc := sc) (d := d - 1) (σ := σ) (h := h) (by omega) hh hr
    have fa := fun u Q => s_fails (sc := sc) (σ := σ) (u := u) (Q := Q) (d := d - 1) (b := 1) (Or.inr rfl)
    refine Lk.no V (Or.inl ⟨rfl, by decide⟩) (fun u Q => ?_) (fun u Q => ?_)
    · have nh := fun u Q => s_noHallC (sc := sc) (σ := σ) (d := d - 1) (u := u) (Q := Q) hh hr
      simp (disch := first | assumption | omega | exact notL_I | exact notL_N | exact notL_R | exact catS_le (Nat.le_of_ble_eq_true rfl) | exact Nat.le_of_ble_eq_true rfl | exact ooRo (by assumption) | exact ooAt (by assumption) | exact ooRu (by assumption) | exact ooLo (by assumption) | exact ooHa (by assumption) | exact ooLe (by assumption) | exact ooFn | exact ooAn | exact ooPa | exact ooTo | exact ooWa | exact ooCh | rfl) only [x135_0, x135_1, x135_2, x135_5, x135_6, x135_7, x135_8, x135_11, x135_13, x135_14, x135_17, x135_18, x135_20, x135_21, x135_24, x135_26, x135_28, x135_29, x135_32, x135_33, x135_36, x135_39, x135_41, nh]
      exact thrK rfl rfl
    · simp (disch := first | omega | exact notL_I | exact notL_N | exact notL_R | exact oM | exact catS_le (Nat.le_of_ble_eq_true rfl) | exact Nat.le_of_ble_eq_true rfl | rfl) only [x254_0, x254_1, x254_2, x254_5, x254_8, x254_9, x254_12, x254_15, x254_16, x254_19, x254_20, x254_23, x254_26, x254_27, x254_28, x254_29, x254_32, x254_33, x254_34, x254_35, x254_36, x254_37, x254_38, x254_41, x254_44, x254_45, x254_46, x254_47, x254_49, x254_52, x254_53, x254_56, x254_57, x254_58, x254_61, x254_62, x254_63, x254_64, x254_67, x254_70, x254_71, x254_74, rn, fa, Kc_some, if_pos, if_neg, ↓reduceIte, not_true_eq_false, not_false_eq_true]
      rfl
end Oc
