/-! the core of the class -/
def hpb (h : Int) : Nat := 121 + 84 * h.toNat
theorem hpb_o {h : Int} (h0 : 0 ≤ h) (h1 : h ≤ 2) : oHa (hpb h) := oHa_h h0 h1
theorem hpb_r {h : Int} (h1 : h ≤ 2) : 121 ≤ hpb h ∧ hpb h + 84 ≤ 373 := by unfold hpb; omega
/-- what a call keeps: all but what is for use within calls, and one hall -/
def KpC (b : Nat) (σ τ : St) : Prop := (∀ c, c ≤ 1 ∨ c = 86 ∨ c = 107 ∨ c = 108 ∨ 119 ≤ c → c < b ∨ b + 84 ≤ c → τ c = σ c) ∧ τ 87 0 = σ 87 0 ∧ τ 87 1 = σ 87 1 ∧ (WfHa σ 2 → WfHa τ 2) ∧ (WfRu σ 94 → WfRu τ 94)
theorem KpC.refl {b : Nat} {σ : St} : KpC b σ σ := ⟨fun _ _ _ => rfl, rfl, rfl, id, id⟩
theorem KpC.trans {b : Nat} {σ τ ρ : St} (h1 : KpC b σ τ) (h2 : KpC b τ ρ) : KpC b σ ρ := ⟨fun c a e => (h2.1 c a e).trans (h1.1 c a e), h2.2.1.trans h1.2.1, h2.2.2.1.trans h1.2.2.1, fun w => h2.2.2.2.1 (h1.2.2.2.1 w), fun w => h2.2.2.2.2 (h1.2.2.2.2 w)⟩
theorem thrK {sc : Scr} {d y pc nx : Nat} {lv : LV} {r : List V} {Q : Rs → HS → Prop} {k : Nat} {hs : HS} (h1 : isV y pc = true) (h2 : hnd y pc k = none) : Kc sc d y pc nx lv r Q (.inr k) hs ↔ Q (.inr k) hs := by
  unfold Kc
  dsimp only
  rw [if_pos h1, h2]
/-- the cells when something was thrown -/
def thU (u : Bool × Nat × Nat × Int) : Bool × Nat × Nat × Int := (false, u.2.1 + 1, u.2.2.1 + 6, u.2.2.2)
theorem gSp_rows {σ : St} {u : Bool × Nat × Nat × Int} {f : V → Prop} : Gf (wH σ u) 3 2 4 f = f (vR 5) := gHa_rows oHa_2
section K2
variable {sc : Scr} {σ : St} {u : Bool × Nat × Nat × Int} {Q : Rs → HS → Prop} {d : Nat}
theorem s_hallAt {h : Int} (h0 : 0 ≤ h) (h1 : h ≤ 2) : Ex sc d 23 0 [some (vR 0), some (vI h)] [] (wH σ u) Q ↔ Q (.inl (some (vR (hpb h)))) (wH σ u) := by
  unfold hpb
  simp (disch := first | assumption | omega | exact notL_I | exact notL_N | exact notL_R | exact catS_le (Nat.le_of_ble_eq_true rfl) | exact Nat.le_of_ble_eq_true rfl | exact ooRo (by assumption) | exact ooAt (by assumption) | exact ooRu (by assumption) | exact ooLo (by assumption) | exact ooHa (by assumption) | exact ooLe (by assumption) | exact ooFn | exact ooAn | exact ooPa | exact ooTo | exact ooWa | exact ooCh | rfl) only [x23_0, x23_1, x23_4, x23_5, x23_6, x23_9, x23_12I, x23_12, x23_20, x23_21, x23_24, x23_25, x23_26, gCh_halls, Rr_halls, if_pos, if_neg, ↓reduceIte, not_true_eq_false, not_false_eq_true]
theorem s_noHallC {h : Int} (hh : inR h) (h1 : ¬ (0 ≤ h ∧ h ≤ 2)) : Ex sc d 23 0 [some (vR 0), some (vI h)] [] (wH σ u) Q ↔ Q (.inr 1) (wH σ (thU u)) := by
  obtain ⟨r1, r2⟩ := hh
  by_cases hn : h < 0
  · simp (disch := first | assumption | omega | exact notL_I | exact notL_N | exact notL_R | exact catS_le (Nat.le_of_ble_eq_true rfl) | exact Nat.le_of_ble_eq_true rfl | exact ooRo (by assumption) | exact ooAt (by assumption) | exact ooRu (by assumption) | exact ooLo (by assumption) | exact ooHa (by assumption) | exact ooLe (by assumption) | exact ooFn | exact ooAn | exact ooPa | exact ooTo | exact ooWa | exact ooCh | rfl) only [x23_0, x23_1, x23_4, x23_5, x23_6, x23_9, x23_12I, x23_12, x23_20, x23_21, x23_24, x23_25, x23_26, if_pos, if_neg, ↓reduceIte, not_true_eq_false, not_false_eq_true]
    exact Iff.rfl
  · simp (disch := first | assumption | omega | exact notL_I | exact notL_N | exact notL_R | exact catS_le (Nat.le_of_ble_eq_true rfl) | exact Nat.le_of_ble_eq_true rfl | exact ooRo (by assumption) | exact ooAt (by assumption) | exact ooRu (by assumption) | exact ooLo (by assumption) | exact ooHa (by assumption) | exact ooLe (by assumption) | exact ooFn | exact ooAn | exact ooPa | exact ooTo | exact ooWa | exact ooCh | rfl) only [x23_0, x23_1, x23_4, x23_5, x23_6, x23_9, x23_12I, x23_12, x23_20, x23_21, x23_24, x23_25, x23_26, if_pos, if_neg, ↓reduceIte, not_true_eq_false, not_false_eq_true]
    exact Iff.rfl
end K2
section K3
variable {sc : Scr}
/-- the rounds -/
theorem l_coreC {d : Nat} {b : Nat} {C : Int → Int} {h : Int} (hd : 5 ≤ d) : ∀ (n : Nat) (rd : Int) (σ : St), 0 ≤ rd → rd + n = 41 → WfHa σ 2 → srt (rsC σ 5) → (∀ w ∈ rsC σ 5, okW C w) → coC σ 2 = C →
    ∃ ρ o rd2, FrS σ ρ ∧ WfHa ρ 2 ∧ naC ρ 5 = naC σ 5 ∧ ρ 5 1 = σ 5 1 ∧ (∀ M, coreF C n (rsC σ 5) = some M → (o = 0 ∨ o = 1) ∧ rsC ρ 5 = M) ∧ (coreF C n (rsC σ 5) = none → o = 2) ∧ ∀ (u : Bool × Nat × Nat × Int) (Q : Rs → HS → Prop), Ex sc d 144 19 [some (vR 0), some (vI h), some (vR b), some (vI 1), some (vI rd)] [] (wH σ u) Q ↔ Ex sc d 144 46 [some (vR 0), some (vI h), some (vR b), some (vI o), some (vI rd2)] [] (wH ρ u) Q := by
  intro n
  induction n with
  | zero =>
    intro rd σ r0 hr W hs hok hc
    refine ⟨σ, 1, rd, FrS.refl, W, rfl, rfl, fun M hM => ⟨Or.inr rfl, Option.some.inj hM⟩, (fun z => by cases z), fun u Q => ?_⟩
    rw [x144_19]
    simp (disch := first | assumption | omega | exact notL_I | exact notL_N | exact notL_R | exact catS_le (Nat.le_of_ble_eq_true rfl) | exact Nat.le_of_ble_eq_true rfl | exact ooRo (by assumption) | exact ooAt (by assumption) | exact ooRu (by assumption) | exact ooLo (by assumption) | exact ooHa (by assumption) | exact ooLe (by assumption) | exact ooFn | exact ooAn | exact ooPa | exact ooTo | exact ooWa | exact ooCh | rfl) only [x144_0, x144_1, x144_2, x144_5, x144_6, x144_7, x144_10, x144_11, x144_14, x144_15, x144_16, x144_17, x144_21, x144_23, x144_26, x144_27, x144_28, x144_31, x144_32, x144_33, x144_36, x144_39, x144_40, x144_43, x144_47, x144_48, x144_51, x144_52, x144_53, x144_54, x144_57, x144_60, x144_61, x144_64, x144_67, x144_70, x144_71, x144_73, x144_74, x144_77, x144_78, x144_81, x144_84, x144_87, x144_89, if_pos, if_neg, ↓reduceIte, not_true_eq_false, not_false_eq_true]
  | succ n ih =>
    intro rd σ r0 hr W hs hok hc
    obtain ⟨ρ, z1, z2, z3, z4, z5, z6⟩ := s_shrink (sc := sc) (d := d - 1) (σ := σ) (by omega) W hs (by rw [hc]; exact hok)
    rw [hc] at z3 z6
    have W2 : WfHa ρ 2 := by
      obtain ⟨a1, a2, a3, a4, a5, a6, a7⟩ := W
      refine ⟨by rw [z1 2 (by omega) (by omega)]; exact a1, by rw [z1 2 (by omega) (by omega)]; exact a2, by rw [z1 (2 + 1) (by omega) (by omega)]; exact a3, z2, a5.c (fun c c0 c1 => z1 c (by omega) (by omega)), a6.c (by rw [z1 (2 + 11) (by omega) (by omega)]) (z1 (2 + 11 + 1) (by omega) (by omega)) (z1 (2 + 11 + 2) (by omega) (by omega)), fun k hk => (a7 k hk).c (fun c c0 c1 => z1 c (by omega) (by omega))⟩
    have c2 : coC ρ 2 = C := (coC_c (z1 (2 + 1) (by omega) (by omega))).trans hc
    rw [coreF]
    have step : ∀ (u : Bool × Nat × Nat × Int) (Q : Rs → HS → Prop), Ex sc d 144 19 [some (vR 0), some (vI h), some (vR b), some (vI 1), some (vI rd)] [] (wH σ u) Q ↔ Ex sc d 144 19 [some (vR 0), some (vI h), some (vR b), some (vI ((shrF C (rsC σ 5) (rsC σ 5)).1)), some (vI (rd + 1))] [] (wH ρ u) Q := by
      intro u Q
      rw [x144_19]
      simp (disch := first | assumption | omega | exact notL_I | exact notL_N | exact notL_R | exact catS_le (Nat.le_of_ble_eq_true rfl) | exact Nat.le_of_ble_eq_true rfl | exact ooRo (by assumption) | exact ooAt (by assumption) | exact ooRu (by assumption) | exact ooLo (by assumption) | exact ooHa (by assumption) | exact ooLe (by assumption) | exact ooFn | exact ooAn | exact ooPa | exact ooTo | exact ooWa | exact ooCh | rfl) only [x144_0, x144_1, x144_2, x144_5, x144_6, x144_7, x144_10, x144_11, x144_14, x144_15, x144_16, x144_17, x144_21, x144_23, x144_26, x144_27, x144_28, x144_31, x144_32, x144_33, x144_36, x144_39, x144_40, x144_43, x144_47, x144_48, x144_51, x144_52, x144_53, x144_54, x144_57, x144_60, x144_61, x144_64, x144_67, x144_70, x144_71, x144_73, x144_74, x144_77, x144_78, x144_81, x144_84, x144_87, x144_89, gCh_spare, z6 u, Kc_some, if_pos, if_neg, ↓reduceIte, not_true_eq_false, not_false_eq_true]
    have fin : (shrF C (rsC σ 5) (rsC σ 5)).1 ≠ 1 → ∀ (u : Bool × Nat × Nat × Int) (Q : Rs → HS → Prop), Ex sc d 144 19 [some (vR 0), some (vI h), some (vR b), some (vI ((shrF C (rsC σ 5) (rsC σ 5)).1)), some (vI (rd + 1))] [] (wH ρ u) Q ↔ Ex sc d 144 46 [some (vR 0), some (vI h), some (vR b), some (vI ((shrF C (rsC σ 5) (rsC σ 5)).1)), some (vI (rd + 1))] [] (wH ρ u) Q := by
      intro hne u Q
      have f3 := shr_012 (C := C) (L := rsC σ 5) (rsC σ 5)
      generalize (shrF C (rsC σ 5) (rsC σ 5)).1 = X at *
      rw [x144_19]
      by_cases hc : rd + 1 ≤ 40
      · simp (disch := first | assumption | omega | exact notL_I | exact notL_N | exact notL_R | exact catS_le (Nat.le_of_ble_eq_true rfl) | exact Nat.le_of_ble_eq_true rfl | exact ooRo (by assumption) | exact ooAt (by assumption) | exact ooRu (by assumption) | exact ooLo (by assumption) | exact ooHa (by assumption) | exact ooLe (by assumption) | exact ooFn | exact ooAn | exact ooPa | exact ooTo | exact ooWa | exact ooCh | rfl) only [x144_0, x144_1, x144_2, x144_5, x144_6, x144_7, x144_10, x144_11, x144_14, x144_15, x144_16, x144_17, x144_21, x144_23, x144_26, x144_27, x144_28, x144_31, x144_32, x144_33, x144_36, x144_39, x144_40, x144_43, x144_47, x144_48, x144_51, x144_52, x144_53, x144_54, x144_57, x144_60, x144_61, x144_64, x144_67, x144_70, x144_71, x144_73, x144_74, x144_77, x144_78, x144_81, x144_84, x144_87, x144_89, if_pos, if_neg, ↓reduceIte, not_true_eq_false, not_false_eq_true]
      · simp (disch := first | assumption | omega | exact notL_I | exact notL_N | exact notL_R | exact catS_le (Nat.le_of_ble_eq_true rfl) | exact Nat.le_of_ble_eq_true rfl | exact ooRo (by assumption) | exact ooAt (by assumption) | exact ooRu (by assumption) | exact ooLo (by assumption) | exact ooHa (by assumption) | exact ooLe (by assumption) | exact ooFn | exact ooAn | exact ooPa | exact ooTo | exact ooWa | exact ooCh | rfl) only [x144_0, x144_1, x144_2, x144_5, x144_6, x144_7, x144_10, x144_11, x144_14, x144_15, x144_16, x144_17, x144_21, x144_23, x144_26, x144_27, x144_28, x144_31, x144_32, x144_33, x144_36, x144_39, x144_40, x144_43, x144_47, x144_48, x144_51, x144_52, x144_53, x144_54, x144_57, x144_60, x144_61, x144_64, x144_67, x144_70, x144_71, x144_73, x144_74, x144_77, x144_78, x144_81, x144_84, x144_87, x144_89, if_pos, if_neg, ↓reduceIte, not_true_eq_false, not_false_eq_true]
    by_cases h0 : (shrF C (rsC σ 5) (rsC σ 5)).1 = 0
    · rw [if_pos h0]
      refine ⟨ρ, 0, rd + 1, z1, W2, z4, z5, fun M hM => ⟨Or.inl rfl, ?_⟩, (fun z => by cases z), fun u Q => ?_⟩
      · rw [z3, shr_same _ (by omega)]
        exact Option.some.inj hM
      · have f := fin (by omega) u Q
        rw [h0] at f
        rw [step u Q, h0]
        exact f
    · rw [if_neg h0]
      by_cases h1 : (shrF C (rsC σ 5) (rsC σ 5)).1 = 1
      · rw [if_pos h1, ← z3]
        obtain ⟨ρ2, o, rd2, y1, y2, y3, y4, y5, y6, y7⟩ := ih (rd + 1) ρ (by omega) (by omega) W2 (by rw [z3]; exact List.Pairwise.sublist (shr_sublist _) hs) (fun w hw => hok w (by rw [z3] at hw; exact shr_sub _ w hw)) c2
        exact ⟨ρ2, o, rd2, z1.trans y1, y2, y3.trans z4, y4.trans z5, y5, y6, fun u Q => (step u Q).trans (by rw [h1]; exact y7 u Q)⟩
      · rw [if_neg h1]
        have h2 : (shrF C (rsC σ 5) (rsC σ 5)).1 = 2 := by
          have := shr_012 (C := C) (L := rsC σ 5) (rsC σ 5)
          omega
        refine ⟨ρ, 2, rd + 1, z1, W2, z4, z5, (fun M hM => by cases hM), fun _ => rfl, fun u Q => ?_⟩
        have f := fin h1 u Q
        rw [h2] at f
        rw [step u Q, h2]
        exact f
/-- a hall's core: what is answered, what becomes of it -/
def coreA (s : Hl) : Int × Hl := match coreF s.1 41 s.2.2.2.1 with
  | none => (-1, s)
  | some M => ((s.2.2.2.1.length : Int) - M.length, (s.1, s.2.1, s.2.2.1, M, s.2.2.2.2))
theorem apt_sp {h : Int} (h1 : h ≤ 2) : apt (hpb h) 2 84 ∧ apt 2 (hpb h) 84 := by
  have := hpb_r h1
  unfold apt
  omega
set_option maxHeartbeats 1000000 in
theorem s_coreC {d : Nat} {σ : St} {h : Int} (hd : 6 ≤ d) (h0 : 0 ≤ h) (h1 : h ≤ 2) (W : WfHa σ (hpb h)) (W2 : WfHa σ 2) (hs : okS (coC σ (hpb h)) (rnC σ (hpb h))) :
    ∃ ρ, KpC (hpb h) σ ρ ∧ WfHa ρ (hpb h) ∧ hlC ρ (hpb h) = (coreA (hlC σ (hpb h))).2 ∧ ρ (hpb h) 0 = σ (hpb h) 0 ∧ RnA sc d 144 0 [some (vR 0), some (vI h), none, none, none] σ (some (vI (coreA (hlC σ (hpb h))).1)) ρ := by
  have o := hpb_o h0 h1
  have rb := hpb_r h1
  have ap := apt_sp h1
  have oH := oHa_2
  have oR5 : oRo 5 := oHa_2.rows
  generalize hb : hpb h = b at *
  have oRb := o.rows
  obtain ⟨v1, v2, v3, v4⟩ := cpHa_v (σ := σ) ap.1 W W2.2.2.2.2.2.1
  have er : rsC (cpHa σ b 2) 5 = rsC σ (b + 3) := congrArg (fun x : Hl => x.2.2.2.1) v3
  have ec : coC (cpHa σ b 2) 2 = coC σ b := congrArg (fun x : Hl => x.1) v3
  obtain ⟨ρ, o9, rd2, y1, y2, y3, y4, y5, y6, y7⟩ := l_coreC (sc := sc) (d := d) (b := b) (C := coC σ b) (h := h) (by omega) 41 0 (cpHa σ b 2) (by omega) (by omega) v2 (by rw [er]; exact hs.2.1) (by rw [er]; exact hs.1) ec
  rw [er] at y5 y6
  have ent : ∀ (u : Bool × Nat × Nat × Int) (Q : Rs → HS → Prop), Ex sc d 144 0 [some (vR 0), some (vI h), none, none, none] [] (wH σ u) Q ↔ Ex sc d 144 46 [some (vR 0), some (vI h), some (vR b), some (vI o9), some (vI rd2)] [] (wH ρ u) Q := by
    intro u Q
    rw [← y7 u Q]
    have hh := fun u Q => s_hallAt (sc := sc) (σ := σ) (u := u) (Q := Q) (d := d - 1) h0 h1
    have tk := fun u Q => s_takeH (sc := sc) (σ := σ) (u := u) (Q := Q) (d := d - 1) (q := b) (b := 2) o oHa_2 (by omega) ap.1
    rw [hb] at hh
    simp (disch := first | assumption | omega | exact notL_I | exact notL_N | exact notL_R | exact catS_le (Nat.le_of_ble_eq_true rfl) | exact Nat.le_of_ble_eq_true rfl | exact ooRo (by assumption) | exact ooAt (by assumption) | exact ooRu (by assumption) | exact ooLo (by assumption) | exact ooHa (by assumption) | exact ooLe (by assumption) | exact ooFn | exact ooAn | exact ooPa | exact ooTo | exact ooWa | exact ooCh | rfl) only [x144_0, x144_1, x144_2, x144_5, x144_6, x144_7, x144_10, x144_11, x144_14, x144_15, x144_16, x144_17, x144_21, x144_23, x144_26, x144_27, x144_28, x144_31, x144_32, x144_33, x144_36, x144_39, x144_40, x144_43, x144_47, x144_48, x144_51, x144_52, x144_53, x144_54, x144_57, x144_60, x144_61, x144_64, x144_67, x144_70, x144_71, x144_73, x144_74, x144_77, x144_78, x144_81, x144_84, x144_87, x144_89, hh, gCh_spare, tk, Kc_some, Kc_none, if_pos, if_neg, ↓reduceIte, not_true_eq_false, not_false_eq_true]
  have fr : ∀ c, c < 2 ∨ 86 ≤ c → c < 112 ∨ 116 < c → ρ c = σ c := fun c a e => (y1 c (by omega) e).trans (v1 c (by omega))
  have Kp : KpC b σ ρ := ⟨fun c a e => fr c (by omega) (by omega), by rw [fr 87 (by omega) (by omega)], by rw [fr 87 (by omega) (by omega)], fun _ => y2, fun w => w.c (fun c c0 c1 => fr c (by omega) (by omega))⟩
  have hbc : ∀ c, b ≤ c → c < b + 84 → ρ c = σ c := fun c c0 c1 => fr c (by omega) (by omega)
  have Wb := W.c hbc
  have hlb := hlC_c hbc W.2.1.2
  cases hcf : coreF (coC σ b) 41 (rsC σ (b + 3)) with
  | none =>
    have ho := y6 hcf
    have eA : coreA (hlC σ b) = (-1, hlC σ b) := by
      unfold coreA
      rw [show coreF (hlC σ b).1 41 (hlC σ b).2.2.2.1 = none from hcf]
    rw [eA]
    refine ⟨ρ, Kp, Wb, hlb, by rw [hbc b (by omega) (by omega)], fun u Q => ?_⟩
    rw [ent u Q, ho, x144_46]
    simp (disch := first | assumption | omega | exact notL_I | exact notL_N | exact notL_R | exact catS_le (Nat.le_of_ble_eq_true rfl) | exact Nat.le_of_ble_eq_true rfl | exact ooRo (by assumption) | exact ooAt (by assumption) | exact ooRu (by assumption) | exact ooLo (by assumption) | exact ooHa (by assumption) | exact ooLe (by assumption) | exact ooFn | exact ooAn | exact ooPa | exact ooTo | exact ooWa | exact ooCh | rfl) only [x144_0, x144_1, x144_2, x144_5, x144_6, x144_7, x144_10, x144_11, x144_14, x144_15, x144_16, x144_17, x144_21, x144_23, x144_26, x144_27, x144_28, x144_31, x144_32, x144_33, x144_36, x144_39, x144_40, x144_43, x144_47, x144_48, x144_51, x144_52, x144_53, x144_54, x144_57, x144_60, x144_61, x144_64, x144_67, x144_70, x144_71, x144_73, x144_74, x144_77, x144_78, x144_81, x144_84, x144_87, x144_89, if_pos, if_neg, ↓reduceIte, not_true_eq_false, not_false_eq_true]
  | some M =>
    obtain ⟨ho, hM⟩ := y5 M hcf
    have eA : coreA (hlC σ b) = (((rsC σ (b + 3)).length : Int) - M.length, (coC σ b, rlC σ b, σ (b + 8) 0, M, (rnC σ b).2)) := by
      unfold coreA
      rw [show coreF (hlC σ b).1 41 (hlC σ b).2.2.2.1 = some M from hcf]
      rfl
    rw [eA]
    have ap5 : apt 5 (b + 3) 5 := by unfold apt; omega
    have Wr := y2.2.2.2.1
    obtain ⟨c1, c2, c3, c4, c5⟩ := cpRo_v (σ := ρ) ap5 Wr
    have cf := (cpRo_r (σ := ρ) ap5).1
    have cfc : ∀ c, c < b + 3 ∨ b + 3 + 4 < c → cpRo ρ 5 (b + 3) c = ρ c := fun c hc => cf c hc
    refine ⟨cpRo ρ 5 (b + 3), Kp.trans ⟨fun c a e => cfc c (by omega), by rw [cfc 87 (by omega)], by rw [cfc 87 (by omega)], fun w => w.c (fun c _ _ => cfc c (by omega)), fun w => w.c (fun c _ _ => cfc c (by omega))⟩, ?_, ?_, by rw [cfc b (by omega), hbc b (by omega) (by omega)], fun u Q => ?_⟩
    · obtain ⟨a1, a2, a3, a4, a5, a6, a7⟩ := Wb
      refine ⟨by rw [cfc b (by omega)]; exact a1, by rw [cfc b (by omega)]; exact a2, by rw [cfc (b + 1) (by omega)]; exact a3, c1, a5.c (fun c c0 c1 => cfc c (by omega)), a6.c (by rw [cfc (b + 11) (by omega)]) (cfc (b + 11 + 1) (by omega)) (cfc (b + 11 + 2) (by omega)), fun k hk => (a7 k hk).c (fun c c0 c1 => cfc c (by omega))⟩
    · have e1 : coC (cpRo ρ 5 (b + 3)) b = coC σ b := coC_c ((cfc (b + 1) (by omega)).trans (hbc (b + 1) (by omega) (by omega)))
      have e2 : rlC (cpRo ρ 5 (b + 3)) b = rlC ρ b := by
        unfold rlC
        rw [cfc b (by omega)]
        have := Wb.2.1
        exact rkF_c _ _ (fun j j0 j1 => ruC_c (fun c c0 c1 => cfc c (by omega)))
      have e3 : rlC ρ b = rlC σ b := congrArg (fun x : Hl => x.2.1) hlb
      have e4 : naC (cpRo ρ 5 (b + 3)) (b + 3) = naC σ (b + 3) := by
        rw [c5, y3]
        exact congrArg (fun x : Hl => x.2.2.2.2.2.1) v3
      have e5 : cpRo ρ 5 (b + 3) (b + 3) 1 = σ (b + 3) 1 := by
        rw [c4, y4]
        exact congrArg (fun x : Hl => x.2.2.2.2.1) v3
      have e6 : stC (cpRo ρ 5 (b + 3)) (b + 8) = stC σ (b + 8) := stC_c (fun c c0 c1 => (cfc c (by omega)).trans (hbc c (by omega) (by omega)))
      have e7 : byC (cpRo ρ 5 (b + 3)) (b + 8) = byC σ (b + 8) := by
        unfold byC
        rw [cfc (b + 8 + 2) (by omega), hbc (b + 8 + 2) (by omega) (by omega)]
      have e8 : cpRo ρ 5 (b + 3) (b + 8) 0 = σ (b + 8) 0 := by rw [cfc (b + 8) (by omega), hbc (b + 8) (by omega) (by omega)]
      unfold hlC rnC
      rw [e1, e2, e3, e4, e5, e6, e7, e8, c2, hM]
    · have tr := fun u Q => s_takeR (sc := sc) (σ := ρ) (u := u) (Q := Q) (d := d - 1) (q := 5) (r := b + 3) oHa_2.rows o.rows ap5
      have l1 := rsC_len (σ := σ) (r := b + 3) W.2.2.2.1.1.1
      have l2 := rsC_len (σ := ρ) (r := 5) Wr.1.1
      rw [hM] at l2
      have k1 : ρ (b + 3) 0 = ((rsC σ (b + 3)).length : Int) := by rw [hbc (b + 3) (by omega) (by omega)]; omega
      have k2 : ρ 5 0 = (M.length : Int) := l2.symm
      rw [ent u Q, x144_46]
      rcases ho with ho | ho
      · subst ho
        simp (disch := first | assumption | omega | exact notL_I | exact notL_N | exact notL_R | exact catS_le (Nat.le_of_ble_eq_true rfl) | exact Nat.le_of_ble_eq_true rfl | exact ooRo (by assumption) | exact ooAt (by assumption) | exact ooRu (by assumption) | exact ooLo (by assumption) | exact ooHa (by assumption) | exact ooLe (by assumption) | exact ooFn | exact ooAn | exact ooPa | exact ooTo | exact ooWa | exact ooCh | rfl) only [x144_0, x144_1, x144_2, x144_5, x144_6, x144_7, x144_10, x144_11, x144_14, x144_15, x144_16, x144_17, x144_21, x144_23, x144_26, x144_27, x144_28, x144_31, x144_32, x144_33, x144_36, x144_39, x144_40, x144_43, x144_47, x144_48, x144_51, x144_52, x144_53, x144_54, x144_57, x144_60, x144_61, x144_64, x144_67, x144_70, x144_71, x144_73, x144_74, x144_77, x144_78, x144_81, x144_84, x144_87, x144_89, gHa_rows o, gSp_rows, gCh_spare, gRo_count oRb, gRo_count oR5, k1, k2, tr, Kc_none, if_pos, if_neg, ↓reduceIte, not_true_eq_false, not_false_eq_true]
      · subst ho
        simp (disch := first | assumption | omega | exact notL_I | exact notL_N | exact notL_R | exact catS_le (Nat.le_of_ble_eq_true rfl) | exact Nat.le_of_ble_eq_true rfl | exact ooRo (by assumption) | exact ooAt (by assumption) | exact ooRu (by assumption) | exact ooLo (by assumption) | exact ooHa (by assumption) | exact ooLe (by assumption) | exact ooFn | exact ooAn | exact ooPa | exact ooTo | exact ooWa | exact ooCh | rfl) only [x144_0, x144_1, x144_2, x144_5, x144_6, x144_7, x144_10, x144_11, x144_14, x144_15, x144_16, x144_17, x144_21, x144_23, x144_26, x144_27, x144_28, x144_31, x144_32, x144_33, x144_36, x144_39, x144_40, x144_43, x144_47, x144_48, x144_51, x144_52, x144_53, x144_54, x144_57, x144_60, x144_61, x144_64, x144_67, x144_70, x144_71, x144_73, x144_74, x144_77, x144_78, x144_81, x144_84, x144_87, x144_89, gHa_rows o, gSp_rows, gCh_spare, gRo_count oRb, gRo_count oR5, k1, k2, tr, Kc_none, if_pos, if_neg, ↓reduceIte, not_true_eq_false, not_false_eq_true]
end K3
