/-! what follows: the class puts the told rule's rows, and looks whether it is fulfilled -/
section F1
variable {sc : Scr} {d : Nat}
theorem s_addM {a b n : Nat} {σ : St} {i : Int} (o : oHa b) (oa : oAt a) (hab : a + 2 < b + 3 ∨ b + 13 < a) (hd : 4 ≤ d) (W : WfHa σ b) (Wa : WfAt σ a) (T : TrF σ n) (i0 : 0 ≤ i) (i1 : i < σ a 0) (h40 : σ (b + 3) 0 + 1 ≤ 40) (h200 : σ (b + 3) 1 + 1 ≤ 200) {g : At} (eg : grA (bF σ n) (atK σ a i) = g) (hg : (0 ≤ g.1 ∧ g.1 ≤ 25) ∧ (-1 ≤ g.2.1 ∧ g.2.1 ≤ 1099) ∧ (-1 ≤ g.2.2.1 ∧ g.2.2.1 ≤ 1099) ∧ (-1 ≤ g.2.2.2 ∧ g.2.2.2 ≤ 1099)) :
    ∃ τ, FrH b σ τ ∧ (∀ c, 101 ≤ c → c ≤ 106 → τ c = σ c) ∧ WfHa τ b ∧ (rsC τ (b + 3), τ (b + 3) 1, naC τ (b + 3)) = (if findL (rsC σ (b + 3)) g = none then (rsC σ (b + 3) ++ [(σ (b + 3) 1, g)], σ (b + 3) 1 + 1, mkU (naC σ (b + 3)) g) else (rsC σ (b + 3), σ (b + 3) 1, naC σ (b + 3))) ∧ (τ (b + 3) 0 = σ (b + 3) 0 ∨ τ (b + 3) 0 = σ (b + 3) 0 + 1) ∧ RnA sc d 159 0 [some (vR b), some (vR 101), some (vR a), some (vI i)] σ none τ := by
  have or := o.rows
  have op := o.planned
  have hfar := oHa_far o
  have Wr := W.2.2.2.1
  have Wl := W.2.2.2.2.1
  have Wp := W.2.2.2.2.2.1
  have ne1 : ∀ c, c ≠ b + 11 → su σ (b + 11) 0 0 c = σ c := fun c hc => su_ne hc
  have z1 : su σ (b + 11) 0 0 (b + 11) 0 = 0 := su_eq
  have Wp1 : WfAt (su σ (b + 11) 0 0) (b + 11) := ⟨by rw [z1]; exact ⟨by decide, by decide⟩, by rw [ne1 _ (by omega)]; exact Wp.2.1, by rw [ne1 _ (by omega)]; exact Wp.2.2⟩
  have cl := fun u Q => s_clrA (sc := sc) (σ := σ) (u := u) (Q := Q) (d := d - 1) op
  generalize su σ (b + 11) 0 0 = X at *
  have Wr1 : WfRo X (b + 3) := Wr.c (fun c c0 c1 => ne1 c (by omega))
  have Wl1 : WfLo X (b + 8) := Wl.c (fun c c0 c1 => ne1 c (by omega))
  have Wa1 : WfAt X a := Wa.c (by rw [ne1 _ (by omega)]) (ne1 _ (by omega)) (ne1 _ (by omega))
  have T1 : TrF X n := T.c (by rw [ne1 _ (by omega)]) (ne1 _ (by omega)) (ne1 _ (by omega))
  have eb : bF X n = bF σ n := bF_c (ne1 _ (by omega)) (ne1 _ (by omega)) n
  have ek : atK X a i = atK σ a i := by unfold atK; rw [ne1 (a + 1) (by omega), ne1 (a + 2) (by omega)]
  have er : rsC X (b + 3) = rsC σ (b + 3) := rsC_c (fun c c0 c1 => ne1 c (by omega))
  have en : naC X (b + 3) = naC σ (b + 3) := by unfold naC; rw [ne1 _ (by omega)]
  have e3 : X (b + 3) = σ (b + 3) := ne1 _ (by omega)
  have ea : X a 0 = σ a 0 := by rw [ne1 _ (by omega)]
  have e0 : asC X (b + 11) = [] := by unfold asC; rw [z1]; rfl
  have pl := fun u Q => s_plan (sc := sc) (d := d - 1) (u := u) (Q := Q) (i := i) o oa (by omega) Wa1 Wp1 Wr1 T1 i0 (by omega) (by omega)
  rw [er, eb, ek, e0, eg] at pl
  by_cases hf : findL (rsC σ (b + 3)) g = none
  · rw [if_pos hf]
    have pl2 := fun u Q => (pl u Q).trans (by rw [if_pos ⟨hf, List.not_mem_nil⟩])
    obtain ⟨v1, v2, v3, v4⟩ := adA_v (t := g.1) (x := g.2.1) (y := g.2.2.1) (z := g.2.2.2) Wp1 (by omega) hg.1 ⟨hg.2.1.1, by omega⟩ ⟨hg.2.2.1.1, by omega⟩ ⟨hg.2.2.2.1, by omega⟩
    generalize adA X (b + 11) g.1 g.2.1 g.2.2.1 g.2.2.2 = Y at *
    rw [z1] at v4
    have ag : atK Y (b + 11) 0 = g := by
      rw [e0, List.nil_append] at v3
      unfold asC at v3
      rw [v4, show ((0 : Int) + 1).toNat = 1 from rfl, akF, akF] at v3
      exact (List.cons.inj v3).1
    unfold atK at ag
    have g1 : Y (b + 11 + 1) 0 = g.1 := congrArg (fun x : At => x.1) ag
    have g2 : Y (b + 11 + 2) (0 * 3) = g.2.1 := congrArg (fun x : At => x.2.1) ag
    have g3 : Y (b + 11 + 2) (0 * 3 + 1) = g.2.2.1 := congrArg (fun x : At => x.2.2.1) ag
    have g4 : Y (b + 11 + 2) (0 * 3 + 2) = g.2.2.2 := congrArg (fun x : At => x.2.2.2) ag
    have Wr2 : WfRo Y (b + 3) := Wr1.c (fun c c0 c1 => v1 c (by omega))
    have Wl2 : WfLo Y (b + 8) := Wl1.c (fun c c0 c1 => v1 c (by omega))
    have y3 : Y (b + 3) = σ (b + 3) := by rw [v1 _ (by omega), e3]
    have eR : rsC Y (b + 3) = rsC σ (b + 3) := by rw [rsC_c (σ := X) (fun c c0 c1 => v1 c (by omega)), er]
    have eN : naC Y (b + 3) = naC σ (b + 3) := by rw [← en]; unfold naC; rw [v1 _ (by omega)]
    have hroom : Y (b + 3) 0 + 1 ≤ 40 ∧ Y (b + 3) 1 + 1 ≤ 200 := by rw [y3]; exact ⟨h40, h200⟩
    have w0 := Wr2.1
    have w1 := Wr2.2.1
    obtain ⟨rF, r0, -⟩ := adS_r (σ := Y) (r := b + 3) (t := g.1) (x := g.2.1) (y := g.2.2.1) (z := g.2.2.2)
    have rW := adS_wf (t := g.1) (x := g.2.1) (y := g.2.2.1) (z := g.2.2.2) Wr2 hroom hg.1 hg.2.1 hg.2.2.1 hg.2.2.2
    have rR := adS_rs (t := g.1) (x := g.2.1) (y := g.2.2.1) (z := g.2.2.2) Wr2
    have rN := adS_na (σ := Y) (r := b + 3) (t := g.1) (x := g.2.1) (y := g.2.2.1) (z := g.2.2.2) hg.2.1 hg.2.2.1 hg.2.2.2
    have ac := fun u Q => s_addC (sc := sc) (σ := Y) (u := u) (Q := Q) (d := d - 1) (r := b + 3) (t := g.1) (x := g.2.1) (y := g.2.2.1) (z := g.2.2.2) or ⟨by omega, by omega⟩ ⟨by omega, by omega⟩ ⟨by omega, by omega⟩ Wr2 (by omega)
    have pa := fun c u Q (h : 0 ≤ c ∧ c < 3) => s_placeAt (sc := sc) (σ := Y) (u := u) (Q := Q) (d := d - 1) (a := b + 11) (p := 0) (c := c) op ⟨by decide, by decide⟩ ⟨by omega, by omega⟩ v2
    have p0 := fun u Q => (pa 0 u Q (by decide)).trans (by rw [if_pos (by omega), show (0 * 3 + 0 : Int) = 0 * 3 from rfl, g2])
    have p1 := fun u Q => (pa 1 u Q (by decide)).trans (by rw [if_pos (by omega), g3])
    have p2 := fun u Q => (pa 2 u Q (by decide)).trans (by rw [if_pos (by omega), g4])
    have ac2 := fun u Q => (ac u Q).trans (by rw [if_pos hroom])
    generalize adS Y (b + 3) g.1 g.2.1 g.2.2.1 g.2.2.2 = Z at *
    have F : ∀ c, c < b + 3 ∨ b + 13 < c → Z c = σ c := fun c hc => by rw [rF c (by omega), v1 c (by omega), ne1 c (by omega)]
    have FH : FrH b σ Z := fun c _ e => F c e
    refine ⟨Z, FH, fun c c0 c1 => F c (by omega), WfHa.run o W FH rW (Wl2.c (fun c c0 c1 => rF c (by omega))) (v2.c (by rw [rF _ (by omega)]) (rF _ (by omega)) (rF _ (by omega))), ?_, Or.inr (by rw [r0, if_neg (by omega), if_pos rfl, y3]), fun u Q => ?_⟩
    · rw [rR, rN, r0, if_pos rfl, eR, eN, y3]
    · simp (disch := first | assumption | omega | exact notL_I | exact notL_N | exact notL_R | exact catS_le (Nat.le_of_ble_eq_true rfl) | exact Nat.le_of_ble_eq_true rfl | exact ooRo (by assumption) | exact ooAt (by assumption) | exact ooRu (by assumption) | exact ooLo (by assumption) | exact ooHa (by assumption) | exact ooLe (by assumption) | exact ooFn | exact ooAn | exact ooPa | exact ooTo | exact ooWa | exact ooCh | rfl) only [x159_0, x159_1, x159_4, x159_7, x159_8, x159_9, x159_10, x159_11, x159_14, x159_15, x159_18, x159_21, x159_24, x159_25, x159_28, x159_29, x159_32, x159_35, x159_36, x159_37, x159_38, x159_41, x159_42, x159_43, x159_46, x159_47, x159_50, x159_51, x159_52, x159_55, x159_56, x159_59, x159_60, x159_61, x159_64, x159_67, x159_68, gHa_planned, cl, pl2, gAt_count, v4, gAt_table, RAt_table, g1, gHa_rows, p0, p1, p2, ac2, Kc_some, Kc_none, if_pos, if_neg, ↓reduceIte, not_true_eq_false, not_false_eq_true]
  · rw [if_neg hf]
    have pl2 := fun u Q => (pl u Q).trans (by rw [if_neg (fun z => hf z.1)])
    have FH : FrH b σ X := fun c _ e => ne1 c (by omega)
    refine ⟨X, FH, fun c c0 c1 => ne1 c (by omega), WfHa.run o W FH Wr1 Wl1 Wp1, by rw [er, en, e3], Or.inl (by rw [e3]), fun u Q => ?_⟩
    simp (disch := first | assumption | omega | exact notL_I | exact notL_N | exact notL_R | exact catS_le (Nat.le_of_ble_eq_true rfl) | exact Nat.le_of_ble_eq_true rfl | exact ooRo (by assumption) | exact ooAt (by assumption) | exact ooRu (by assumption) | exact ooLo (by assumption) | exact ooHa (by assumption) | exact ooLe (by assumption) | exact ooFn | exact ooAn | exact ooPa | exact ooTo | exact ooWa | exact ooCh | rfl) only [x159_0, x159_1, x159_4, x159_7, x159_8, x159_9, x159_10, x159_11, x159_14, x159_15, x159_18, x159_21, x159_24, x159_25, x159_28, x159_29, x159_32, x159_35, x159_36, x159_37, x159_38, x159_41, x159_42, x159_43, x159_46, x159_47, x159_50, x159_51, x159_52, x159_55, x159_56, x159_59, x159_60, x159_61, x159_64, x159_67, x159_68, gHa_planned, cl, pl2, gAt_count, z1, Kc_none, if_pos, if_neg, ↓reduceIte, not_true_eq_false, not_false_eq_true]
/-- each atom ahead of the told rule -/
theorem l_addM {C : Int → Int} {β : Bd} {n : Nat} {h : Int} {b : Nat} (hd : 5 ≤ d) : ∀ (k : Nat) (i : Int) (σ : St), 0 ≤ i → i + k = σ 95 0 → WfHa σ 2 → WfAt σ 95 → TrF σ n → bF σ n = β → (∀ g ∈ (akF σ 95 k i).map (grA β), okG C g) → σ 5 0 + k ≤ 40 → σ 5 1 + k ≤ 200 →
    ∃ τ, FrH 2 σ τ ∧ WfHa τ 2 ∧ (rsC τ 5, τ 5 1, naC τ 5) = sadF (rsC σ 5) (σ 5 1) (naC σ 5) ((akF σ 95 k i).map (grA β)) ∧ ∀ (u : Bool × Nat × Nat × Int) (Q : Rs → HS → Prop), Ex sc d 156 61 [some (vR 0), some (vI h), some (vR b), some (vI i)] [] (wH σ u) Q ↔ Ex sc d 156 100 [some (vR 0), some (vI h), some (vR b), some (vI (σ 95 0))] [] (wH τ u) Q := by
  have oH := oHa_2
  have oru := oRu_94
  have oa : oAt 95 := oru.ahead
  have e95 : (94 + 1 : Nat) = 95 := rfl
  intro k
  induction k with
  | zero =>
    intro i σ i0 ik W Wa T eb hg h4 h2
    have hi : i = σ 95 0 := by omega
    subst hi
    have wa := Wa.1
    refine ⟨σ, FrH.refl, W, rfl, fun u Q => ?_⟩
    rw [x156_61]
    simp (disch := first | assumption | omega | exact notL_I | exact notL_N | exact notL_R | exact catS_le (Nat.le_of_ble_eq_true rfl) | exact Nat.le_of_ble_eq_true rfl | exact ooRo (by assumption) | exact ooAt (by assumption) | exact ooRu (by assumption) | exact ooLo (by assumption) | exact ooHa (by assumption) | exact ooLe (by assumption) | exact ooFn | exact ooAn | exact ooPa | exact ooTo | exact ooWa | exact ooCh | rfl) only [x156_0, x156_1, x156_2, x156_5, x156_6, x156_7, x156_10, x156_11, x156_14, x156_15, x156_18, x156_19, x156_22, x156_25, x156_26, x156_27, x156_28, x156_31, x156_32, x156_35, x156_36, x156_39, x156_42, x156_45, x156_46, x156_49, x156_50, x156_53, x156_56, x156_59, x156_60, x156_62, x156_63, x156_66, x156_69, x156_72, x156_75, x156_76, x156_79, x156_80, x156_83, x156_84, x156_87, x156_90, x156_91, x156_94, x156_97, x156_101, x156_104, x156_105, x156_108, x156_110, x156_113, x156_114, x156_115, x156_116, x156_119, x156_120, x156_121, x156_122, x156_123, x156_126, x156_127, x156_130, x156_133, x156_134, x156_137, x156_138, gCh_told, gRu_ahead, e95, gAt_count, if_pos, if_neg, ↓reduceIte, not_true_eq_false, not_false_eq_true]
  | succ k ih =>
    intro i σ i0 ik W Wa T eb hg h4 h2
    have wa := Wa.1
    have wr := W.2.2.2.1.1
    have gk : okG C (grA β (atK σ 95 i)) := hg _ (by rw [akF, List.map_cons]; exact List.mem_cons_self)
    have gin : (0 ≤ (grA β (atK σ 95 i)).1 ∧ (grA β (atK σ 95 i)).1 ≤ 25) ∧ (-1 ≤ (grA β (atK σ 95 i)).2.1 ∧ (grA β (atK σ 95 i)).2.1 ≤ 1099) ∧ (-1 ≤ (grA β (atK σ 95 i)).2.2.1 ∧ (grA β (atK σ 95 i)).2.2.1 ≤ 1099) ∧ (-1 ≤ (grA β (atK σ 95 i)).2.2.2 ∧ (grA β (atK σ 95 i)).2.2.2 ≤ 1099) := by
      obtain ⟨a1, a2, a3, X, Y, Z, hX, hY, hZ, e⟩ := gk
      have x := isTm_in hX
      have y := isTm_in hY
      have z := isTm_in hZ
      rw [e]
      unfold nrm
      dsimp only
      refine ⟨⟨a1, a2⟩, ⟨by omega, by omega⟩, ?_, ?_⟩
      · split <;> omega
      · split <;> omega
    obtain ⟨τ, q1, q2, q3, q4, q5, q6⟩ := s_addM (sc := sc) (d := d - 1) (a := 95) (b := 2) (n := n) (σ := σ) (i := i) oH oa (by omega) (by omega) W Wa T i0 (by omega) (by show σ 5 0 + 1 ≤ 40; omega) (by show σ 5 1 + 1 ≤ 200; omega) (g := grA β (atK σ 95 i)) (by rw [eb]) gin
    unfold RnA at q6
    have a5 : ∀ c, 94 ≤ c → c ≤ 97 → τ c = σ c := fun c c0 c1 => q1 c (by omega) (by omega)
    have ek : akF τ 95 k (i + 1) = akF σ 95 k (i + 1) := akF_ext _ _ (fun j _ _ => by unfold atK; rw [a5 _ (by omega) (by omega), a5 _ (by omega) (by omega)])
    have e1 : τ 5 1 ≤ σ 5 1 + 1 := by
      have := congrArg (fun x : List Rw × Int × (Int → Int) => x.2.1) q4
      dsimp only at this
      split at this
      · have e : τ 5 1 = σ 5 1 + 1 := this
        omega
      · have e : τ 5 1 = σ 5 1 := this
        omega
    have q5' : τ 5 0 = σ 5 0 ∨ τ 5 0 = σ 5 0 + 1 := q5
    obtain ⟨ρ, p1, p2, p3, p4⟩ := ih (i + 1) τ (by omega) (by rw [a5 95 (by omega) (by omega)]; omega) q3 (Wa.c (by rw [a5 _ (by omega) (by omega)]) (a5 _ (by omega) (by omega)) (a5 _ (by omega) (by omega))) (T.c (by rw [q2 _ (by omega) (by omega)]) (q2 _ (by omega) (by omega)) (q2 _ (by omega) (by omega))) (by rw [bF_c (q2 _ (by omega) (by omega)) (q2 _ (by omega) (by omega))]; exact eb) (by rw [ek]; intro g gm; exact hg g (by rw [akF, List.map_cons]; exact List.mem_cons_of_mem _ gm)) (by omega) (by omega)
    rw [ek] at p3
    refine ⟨ρ, q1.trans p1, p2, ?_, fun u Q => ?_⟩
    · rw [p3, akF, List.map_cons, sadF]
      have r1 : rsC τ 5 = _ := congrArg (fun x : List Rw × Int × (Int → Int) => x.1) q4
      have r2 : τ 5 1 = _ := congrArg (fun x : List Rw × Int × (Int → Int) => x.2.1) q4
      have r3 : naC τ 5 = _ := congrArg (fun x : List Rw × Int × (Int → Int) => x.2.2) q4
      rw [r1, r2, r3]
      by_cases hf : findL (rsC σ (2 + 3)) (grA β (atK σ 95 i)) = none
      · rw [if_pos hf, if_pos hf]
      · rw [if_neg hf, if_neg hf]
    · have p5 := p4 u Q
      rw [a5 95 (by omega) (by omega)] at p5
      rw [x156_61]
      simp (disch := first | assumption | omega | exact notL_I | exact notL_N | exact notL_R | exact catS_le (Nat.le_of_ble_eq_true rfl) | exact Nat.le_of_ble_eq_true rfl | exact ooRo (by assumption) | exact ooAt (by assumption) | exact ooRu (by assumption) | exact ooLo (by assumption) | exact ooHa (by assumption) | exact ooLe (by assumption) | exact ooFn | exact ooAn | exact ooPa | exact ooTo | exact ooWa | exact ooCh | rfl) only [x156_0, x156_1, x156_2, x156_5, x156_6, x156_7, x156_10, x156_11, x156_14, x156_15, x156_18, x156_19, x156_22, x156_25, x156_26, x156_27, x156_28, x156_31, x156_32, x156_35, x156_36, x156_39, x156_42, x156_45, x156_46, x156_49, x156_50, x156_53, x156_56, x156_59, x156_60, x156_62, x156_63, x156_66, x156_69, x156_72, x156_75, x156_76, x156_79, x156_80, x156_83, x156_84, x156_87, x156_90, x156_91, x156_94, x156_97, x156_101, x156_104, x156_105, x156_108, x156_110, x156_113, x156_114, x156_115, x156_116, x156_119, x156_120, x156_121, x156_122, x156_123, x156_126, x156_127, x156_130, x156_133, x156_134, x156_137, x156_138, gCh_told, gCh_spare, gCh_finder, gRu_ahead, e95, gAt_count, q6, Kc_none, if_pos, if_neg, ↓reduceIte, not_true_eq_false, not_false_eq_true]
      exact p5
/-- melted along the steps -/
theorem l_mltT {n : Nat} (hd : 2 ≤ d) : ∀ (k : Nat) (i : Int) (σ : St) (β : Bd), 0 ≤ i → i + k = σ 10 1 → WfLo σ 10 → TrF σ n → bF σ n = β → (∀ l ∈ skF σ 10 k i, mlt l) →
    ∃ τ, FnF σ τ ∧ TrF τ n ∧ bF τ n = mlF (skF σ 10 k i) β ∧ ∀ (u : Bool × Nat × Nat × Int) (Q : Rs → HS → Prop), Ex sc d 160 24 [some (vR 0), some (vR 10), some (vI i)] [] (wH σ u) Q ↔ Ex sc d 160 58 [some (vR 0), some (vR 10), some (vI (σ 10 1))] [] (wH τ u) Q := by
  have oH := oHa_2
  have ol : oLo 10 := oH.log
  intro k
  induction k with
  | zero =>
    intro i σ β i0 ik Wl T eb hm
    have hi : i = σ 10 1 := by omega
    subst hi
    have wl := Wl.2.1
    refine ⟨σ, FnF.refl, T, eb, fun u Q => ?_⟩
    rw [x160_24]
    simp (disch := first | assumption | omega | exact notL_I | exact notL_N | exact notL_R | exact catS_le (Nat.le_of_ble_eq_true rfl) | exact Nat.le_of_ble_eq_true rfl | exact ooRo (by assumption) | exact ooAt (by assumption) | exact ooRu (by assumption) | exact ooLo (by assumption) | exact ooHa (by assumption) | exact ooLe (by assumption) | exact ooFn | exact ooAn | exact ooPa | exact ooTo | exact ooWa | exact ooCh | rfl) only [x160_0, x160_1, x160_4, x160_5, x160_8, x160_11, x160_14, x160_15, x160_18, x160_21, x160_22, x160_23, x160_25, x160_26, x160_29, x160_32, x160_33, x160_36, x160_37, x160_38, x160_39, x160_42, x160_43, x160_44, x160_46, x160_49, x160_52, x160_55, x160_59, x160_62, x160_63, x160_66, x160_67, x160_70, x160_73, x160_76, gLo_count, if_pos, if_neg, ↓reduceIte, not_true_eq_false, not_false_eq_true]
  | succ k ih =>
    intro i σ β i0 ik Wl T eb hm
    have wl := Wl.2.1
    have s5 := Wl.2.2.1 (i * 7 + 5) (by omega) (by omega)
    have s6 := Wl.2.2.1 (i * 7 + 6) (by omega) (by omega)
    have m : mlt [σ (10 + 1) (i * 7), σ (10 + 1) (i * 7 + 1), σ (10 + 1) (i * 7 + 2), σ (10 + 1) (i * 7 + 3), σ (10 + 1) (i * 7 + 4), σ (10 + 1) (i * 7 + 5), σ (10 + 1) (i * 7 + 6)] := hm _ (by rw [skF]; exact List.mem_cons_self)
    have m2 : (σ (10 + 1) (i * 7 + 5) = -1 ∧ σ (10 + 1) (i * 7 + 6) = -1) ∨ ((0 ≤ σ (10 + 1) (i * 7 + 5) ∧ σ (10 + 1) (i * 7 + 5) ≤ 1099) ∧ 0 ≤ σ (10 + 1) (i * 7 + 6) ∧ σ (10 + 1) (i * 7 + 6) ≤ 1099) := m
    obtain ⟨τ, q1, q2, q3, q4⟩ := s_meltB (sc := sc) (d := d - 1) (σ := σ) (n := n) (w := σ (10 + 1) (i * 7 + 5)) (b := σ (10 + 1) (i * 7 + 6)) ⟨by omega, by omega⟩ (by omega) T
    unfold RnA at q4
    have t1 : ∀ c, c ≤ 100 → τ c = σ c := fun c hc => q1.1 c (by omega) (by omega) (by omega)
    have es : skF τ 10 k (i + 1) = skF σ 10 k (i + 1) := skF_c (t1 _ (by omega)) k (i + 1)
    obtain ⟨ρ, p1, p2, p3, p4⟩ := ih (i + 1) τ _ (by omega) (by rw [t1 10 (by omega)]; omega) (Wl.c (fun c c0 c1 => t1 c (by omega))) q2 q3 (by rw [es]; intro l hl; exact hm l (by rw [skF]; exact List.mem_cons_of_mem _ hl))
    rw [es, eb] at p3
    have te := fun c u Q (hc : 0 ≤ c ∧ c < 7) => s_tell (sc := sc) (σ := σ) (u := u) (Q := Q) (d := d - 1) (l := 10) (p := i) (c := c) ol ⟨by omega, by omega⟩ ⟨by omega, by omega⟩ Wl
    have t5 := fun u Q => (te 5 u Q (by decide)).trans (by rw [if_pos (by omega)])
    have t6 := fun u Q => (te 6 u Q (by decide)).trans (by rw [if_pos (by omega)])
    refine ⟨ρ, q1.trans p1, p2, by rw [p3, skF]; rfl, fun u Q => ?_⟩
    have p5 := p4 u Q
    rw [t1 10 (by omega)] at p5
    rw [x160_24]
    simp (disch := first | assumption | omega | exact notL_I | exact notL_N | exact notL_R | exact catS_le (Nat.le_of_ble_eq_true rfl) | exact Nat.le_of_ble_eq_true rfl | exact ooRo (by assumption) | exact ooAt (by assumption) | exact ooRu (by assumption) | exact ooLo (by assumption) | exact ooHa (by assumption) | exact ooLe (by assumption) | exact ooFn | exact ooAn | exact ooPa | exact ooTo | exact ooWa | exact ooCh | rfl) only [x160_0, x160_1, x160_4, x160_5, x160_8, x160_11, x160_14, x160_15, x160_18, x160_21, x160_22, x160_23, x160_25, x160_26, x160_29, x160_32, x160_33, x160_36, x160_37, x160_38, x160_39, x160_42, x160_43, x160_44, x160_46, x160_49, x160_52, x160_55, x160_59, x160_62, x160_63, x160_66, x160_67, x160_70, x160_73, x160_76, gLo_count, gCh_finder, t5, t6, q4, Kc_some, Kc_none, if_pos, if_neg, ↓reduceIte, not_true_eq_false, not_false_eq_true]
    exact p5
theorem s_fulT {σ : St} (hd : 9 ≤ d) (W : WfHa σ 2) (Wu : WfRu σ 94) (hm : ∀ l ∈ stC σ 10, mlt l) (hT : ∀ b ∈ asC σ 98, ∀ w ∈ rsC σ 5, fitT b w.2) :
    ∃ τ, FnF σ τ ∧ RnA sc d 160 0 [some (vR 0), none, none] σ (some (vI (bI (fulfL (ruC σ 94) (rsC σ 5) (mlF (stC σ 10) (nameE (plcL (asC σ 95)) 0 bd0)))))) τ := by
  have oH := oHa_2
  have oru := oRu_94
  have oa : oAt 95 := oru.ahead
  have ob : oAt 98 := oru.behind
  have or : oRo 5 := oH.rows
  have ol : oLo 10 := oH.log
  have e95 : (94 + 1 : Nat) = 95 := rfl
  have b01 : bI (fulfL (ruC σ 94) (rsC σ 5) (mlF (stC σ 10) (nameE (plcL (asC σ 95)) 0 bd0))) = 0 ∨ bI (fulfL (ruC σ 94) (rsC σ 5) (mlF (stC σ 10) (nameE (plcL (asC σ 95)) 0 bd0))) = 1 := by
    cases fulfL (ruC σ 94) (rsC σ 5) (mlF (stC σ 10) (nameE (plcL (asC σ 95)) 0 bd0))
    · exact Or.inl rfl
    · exact Or.inr rfl
  obtain ⟨τ, n, q1, q2, q3, q4⟩ := s_nameEach (sc := sc) (d := d - 1) (a := 95) (σ := σ) oa (by omega) Wu.2.2.2.1
  unfold RnA at q4
  have t1 : ∀ c, c ≤ 100 → τ c = σ c := fun c hc => q1.1 c (by omega) (by omega) (by omega)
  have wl := W.2.2.2.2.1.2.1
  have es : stC τ 10 = stC σ 10 := stC_c (fun c c0 c1 => t1 c (by omega))
  obtain ⟨ρ, p1, p2, p3, p4⟩ := l_mltT (sc := sc) (d := d) (n := n) (by omega) (σ 10 1).toNat 0 τ _ (by omega) (by rw [t1 10 (by omega)]; have : 0 ≤ σ 10 1 := wl.1; omega) (W.2.2.2.2.1.c (fun c c0 c1 => t1 c (by omega))) q2 q3 (by
    intro l hl
    refine hm l ?_
    rw [← es]
    unfold stC
    rw [t1 10 (by omega)]
    exact hl)
  have t2 : ∀ c, c ≤ 100 → ρ c = σ c := fun c hc => by rw [p1.1 c (by omega) (by omega) (by omega), t1 c hc]
  have e3 : skF τ 10 (σ 10 1).toNat 0 = stC σ 10 := by rw [← es]; unfold stC; rw [t1 10 (by omega)]
  rw [e3] at p3
  have ea : asC ρ (94 + 4) = asC σ 98 := asC_c (by rw [t2 _ (by omega)]) (t2 _ (by omega)) (t2 _ (by omega))
  have er : rsC ρ 5 = rsC σ 5 := rsC_c (fun c c0 c1 => t2 c (by omega))
  have eu : ruC ρ 94 = ruC σ 94 := ruC_c (fun c c0 c1 => t2 c (by omega))
  obtain ⟨κ, w1, w2, w3, w4⟩ := s_isFulC (sc := sc) (d := d - 1) (a := 94) (r := 5) (n := n) (σ := ρ) oru or (by omega) (Wu.c (fun c c0 c1 => t2 c (by omega))) (W.2.2.2.1.c (fun c c0 c1 => t2 c (by omega))) p2 (by rw [ea, er]; exact hT)
  rw [eu, er, p3] at w4
  unfold RnA at w4
  refine ⟨κ, (q1.trans p1).trans w1, fun u Q => ?_⟩
  have p5 := p4 u Q
  have a1 : Ex sc d 160 0 [some (vR 0), none, none] [] (wH σ u) Q ↔ Ex sc d 160 24 [some (vR 0), some (vR 10), some (vI 0)] [] (wH τ u) Q := by
    simp (disch := first | assumption | omega | exact notL_I | exact notL_N | exact notL_R | exact catS_le (Nat.le_of_ble_eq_true rfl) | exact Nat.le_of_ble_eq_true rfl | exact ooRo (by assumption) | exact ooAt (by assumption) | exact ooRu (by assumption) | exact ooLo (by assumption) | exact ooHa (by assumption) | exact ooLe (by assumption) | exact ooFn | exact ooAn | exact ooPa | exact ooTo | exact ooWa | exact ooCh | rfl) only [x160_0, x160_1, x160_4, x160_5, x160_8, x160_11, x160_14, x160_15, x160_18, x160_21, x160_22, x160_23, x160_25, x160_26, x160_29, x160_32, x160_33, x160_36, x160_37, x160_38, x160_39, x160_42, x160_43, x160_44, x160_46, x160_49, x160_52, x160_55, x160_59, x160_62, x160_63, x160_66, x160_67, x160_70, x160_73, x160_76, gCh_finder, gCh_told, gRu_ahead, e95, q4, gCh_spare, gHa_log, Kc_none]
  rw [a1, p5, x160_58]
  simp (disch := first | assumption | omega | exact notL_I | exact notL_N | exact notL_R | exact catS_le (Nat.le_of_ble_eq_true rfl) | exact Nat.le_of_ble_eq_true rfl | exact ooRo (by assumption) | exact ooAt (by assumption) | exact ooRu (by assumption) | exact ooLo (by assumption) | exact ooHa (by assumption) | exact ooLe (by assumption) | exact ooFn | exact ooAn | exact ooPa | exact ooTo | exact ooWa | exact ooCh | rfl) only [x160_0, x160_1, x160_4, x160_5, x160_8, x160_11, x160_14, x160_15, x160_18, x160_21, x160_22, x160_23, x160_25, x160_26, x160_29, x160_32, x160_33, x160_36, x160_37, x160_38, x160_39, x160_42, x160_43, x160_44, x160_46, x160_49, x160_52, x160_55, x160_59, x160_62, x160_63, x160_66, x160_67, x160_70, x160_73, x160_76, gCh_finder, gCh_told, gCh_spare, gHa_rows, w4, Kc_some]
end F1
