/-! calls that tell of a hall -/
theorem skF_get {σ : St} {l : Nat} : ∀ (k : Nat) (i : Int) (j : Nat), j < k → (skF σ l k i)[j]? = some [σ (l + 1) ((i + j) * 7), σ (l + 1) ((i + j) * 7 + 1), σ (l + 1) ((i + j) * 7 + 2), σ (l + 1) ((i + j) * 7 + 3), σ (l + 1) ((i + j) * 7 + 4), σ (l + 1) ((i + j) * 7 + 5), σ (l + 1) ((i + j) * 7 + 6)] := by
  intro k
  induction k with
  | zero => intro i j hj; omega
  | succ k ih =>
    intro i j hj
    rw [skF]
    cases j with
    | zero => rw [List.getElem?_cons_zero, Int.natCast_zero, Int.add_zero]
    | succ j => rw [List.getElem?_cons_succ, ih (i + 1) j (by omega), show i + 1 + (j : Int) = i + ((j + 1 : Nat) : Int) by omega]
theorem stF_get {σ : St} {h : Int} : ∀ (k : Nat) (i : Int) (j : Nat), j < k → (stF σ h k i)[j]? = some [σ 384 (8 * (128 * h + (i + j))), σ 384 (8 * (128 * h + (i + j)) + 1), σ 384 (8 * (128 * h + (i + j)) + 2), σ 384 (8 * (128 * h + (i + j)) + 3), σ 384 (8 * (128 * h + (i + j)) + 4), σ 384 (8 * (128 * h + (i + j)) + 5), σ 384 (8 * (128 * h + (i + j)) + 6)] := by
  intro k
  induction k with
  | zero => intro i j hj; omega
  | succ k ih =>
    intro i j hj
    rw [stF]
    cases j with
    | zero => rw [List.getElem?_cons_zero, Int.natCast_zero, Int.add_zero]
    | succ j => rw [List.getElem?_cons_succ, ih (i + 1) j (by omega), show i + 1 + (j : Int) = i + ((j + 1 : Nat) : Int) by omega]
theorem st_at {σ : St} {l : Nat} {h p c : Int} (e : stC σ l = stR σ h) (w1 : 0 ≤ σ l 1) (w2 : 0 ≤ σ 383 h) (p0 : 0 ≤ p) (p1 : p < σ l 1) (c0 : 0 ≤ c) (c1 : c ≤ 6) : σ 383 h = σ l 1 ∧ σ (l + 1) (p * 7 + c) = σ 384 (8 * (128 * h + p) + c) := by
  have a1 := stC_len w1
  have a2 := stR_len w2
  rw [e] at a1
  have g1 : (stC σ l)[p.toNat]? = _ := skF_get (σ := σ) (l := l) (σ l 1).toNat 0 p.toNat (by omega)
  have g2 : (stR σ h)[p.toNat]? = _ := stF_get (σ := σ) (h := h) (σ 383 h).toNat 0 p.toNat (by omega)
  rw [e, g2] at g1
  have := Option.some.inj g1
  rw [show (0 : Int) + (p.toNat : Int) = p by omega] at this
  simp only [List.cons.injEq, and_true] at this
  refine ⟨by omega, ?_⟩
  rcases (show c = 0 ∨ c = 1 ∨ c = 2 ∨ c = 3 ∨ c = 4 ∨ c = 5 ∨ c = 6 by omega) with rfl | rfl | rfl | rfl | rfl | rfl | rfl
  · rw [Int.add_zero, Int.add_zero]; exact this.1.symm
  · exact this.2.1.symm
  · exact this.2.2.1.symm
  · exact this.2.2.2.1.symm
  · exact this.2.2.2.2.1.symm
  · exact this.2.2.2.2.2.1.symm
  · exact this.2.2.2.2.2.2.symm
section O3
variable {sc : Scr} {d : Nat} {σ : St} {A : AS}
/-- the reference's first check -/
theorem r_yes {h : Int} (hd : 2 ≤ d) (h0 : 0 ≤ h) (h2 : h ≤ 2) (u : Bool × Nat × Nat × Int) (Q : Rs → HS → Prop) : Ex sc d 182 0 [some (vI h)] [] (wH σ u) Q ↔ Q (.inl (some (vI (0)))) (wH σ u) := by
  rw [s_noHall (by omega) ⟨by omega, by omega⟩, if_pos ⟨h0, h2⟩]
theorem r_no {h : Int} (hd : 2 ≤ d) (hh : inR h) (hn : ¬ (0 ≤ h ∧ h ≤ 2)) (u : Bool × Nat × Nat × Int) (Q : Rs → HS → Prop) : Ex sc d 182 0 [some (vI h)] [] (wH σ u) Q ↔ Q (.inl (some (vI (1)))) (wH σ u) := by
  rw [s_noHall (by omega) hh, if_neg hn]
theorem op_step {h p c : Int} (hd : 100 ≤ d) (hh : inR h) (hp : inR p) (hc : inR c) (V : VV A σ) : Lk sc d 122 [some (vR 0), some (vI h), some (vI p), some (vI c)] 251 [some (vR 373), some (vI h), some (vI p), some (vI c)] σ := by
  obtain ⟨⟨c1, _⟩, ⟨r1, r2, _⟩, o⟩ := id V
  by_cases hr : 0 ≤ h ∧ h ≤ 2
  · obtain ⟨h0, h2⟩ := hr
    have ha := fun u Q => s_hallAt (sc := sc) (σ := σ) (d := d - 1) (u := u) (Q := Q) h0 h2
    have ry := r_yes (sc := sc) (d := d - 1) (σ := σ) (h := h) (by omega) h0 h2
    have fa := fun u Q => s_fails (sc := sc) (σ := σ) (u := u) (Q := Q) (d := d - 1) (b := 0) (Or.inl rfl)
    have ob := hpb_o h0 h2
    have ol := ob.log
    obtain ⟨a1, a2, a3⟩ := c1 h h0 h2
    have wl := a2.2.2.2.2.1
    have es : stC σ (hpb h + 8) = stR σ h := (congrArg (fun x : Hl => x.2.2.2.2.2.2.1) a1).trans (congrArg (fun x : Hl => x.2.2.2.2.2.2.1) (r1 h h0 h2)).symm
    have tl := fun u Q => s_tell (sc := sc) (σ := σ) (d := d - 1) (u := u) (Q := Q) (l := hpb h + 8) (p := p) (c := c) ol hp hc wl
    have w383 := r2.1.stp h0 (show h ≤ 4 by omega)
    have e383 : σ 383 h = σ (hpb h + 8) 1 := by
      have b1 := stC_len (σ := σ) (l := hpb h + 8) wl.2.1.1
      have b2 := stR_len (σ := σ) (h := h) (by omega)
      rw [es] at b1
      omega
    have n383 : su σ 373 0 0 383 = σ 383 := su_ne (by omega)
    have n384 : su σ 373 0 0 384 = σ 384 := su_ne (by omega)
    obtain ⟨p1, p2⟩ := hp
    obtain ⟨q1, q2⟩ := hc
    have wl1 := wl.2.1
    have i1 := fun u Q => s_isIn (sc := sc) (σ := su σ 373 0 0) (u := u) (Q := Q) (d := d - 1) (v := p) (a := 0) (b := σ (hpb h + 8) 1 - 1) ⟨p1, p2⟩ ⟨by decide, by decide⟩ ⟨by omega, by omega⟩
    have i2 := fun u Q => s_isIn (sc := sc) (σ := su σ 373 0 0) (u := u) (Q := Q) (d := d - 1) (v := c) (a := 0) (b := 6) ⟨q1, q2⟩ ⟨by decide, by decide⟩ ⟨by decide, by decide⟩
    by_cases hy : 0 ≤ p ∧ p < σ (hpb h + 8) 1 ∧ 0 ≤ c ∧ c < 7
    · simp only [if_pos hy] at tl
      simp only [if_pos (show 0 ≤ p ∧ p ≤ σ (hpb h + 8) 1 - 1 by omega)] at i1
      simp only [if_pos (show 0 ≤ c ∧ c ≤ 6 by omega)] at i2
      have sa := (st_at (σ := σ) (l := hpb h + 8) (h := h) (p := p) (c := c) es wl.2.1.1 (by omega) hy.1 hy.2.1 hy.2.2.1 (by omega)).2
      have wb := wl.2.2.1 (p * 7 + c) (by omega) (by omega)
      refine Lk.eq V (v := σ (hpb h + 8 + 1) (p * 7 + c)) ⟨by omega, by omega⟩ (fun u Q => ?_) (fun u Q => ?_)
      · simp (disch := first | assumption | omega | exact notL_I | exact notL_N | exact notL_R | exact catS_le (Nat.le_of_ble_eq_true rfl) | exact Nat.le_of_ble_eq_true rfl | exact ooRo (by assumption) | exact ooAt (by assumption) | exact ooRu (by assumption) | exact ooLo (by assumption) | exact ooHa (by assumption) | exact ooLe (by assumption) | exact ooFn | exact ooAn | exact ooPa | exact ooTo | exact ooWa | exact ooCh | rfl) only [x122_0, x122_1, x122_2, x122_5, x122_8, x122_9, x122_10, x122_13, ha, gHa_log, tl, Kc_some, if_pos, if_neg, ↓reduceIte, not_true_eq_false, not_false_eq_true]
      · rw [sa]
        simp (disch := first | omega | exact notL_I | exact notL_N | exact notL_R | exact oM | exact catS_le (Nat.le_of_ble_eq_true rfl) | exact Nat.le_of_ble_eq_true rfl | rfl) only [x251_0, x251_1, x251_2, x251_5, x251_8, x251_11, x251_12, x251_13, x251_14, x251_15, x251_16, x251_19, x251_20, x251_21, x251_22, x251_23, x251_26, x251_29, x251_30, x251_31, x251_33, x251_36, x251_39, x251_40, x251_41, x251_42, x251_43, x251_46, x251_49, x251_50, x252_0, x252_1, x252_4, x252_6, x252_9, x252_10, x252_11, x252_12, x252_13, x252_14, x252_15, x252_16, x252_17, ry, fa, gM_stepMany, RM_stepMany, gM_steps, RM_steps, n383, n384, e383, i1, i2, Kc_some, if_pos, if_neg, ↓reduceIte, not_true_eq_false, not_false_eq_true]
    · simp only [if_neg hy] at tl
      refine Lk.eq V (v := -1) ⟨by decide, by decide⟩ (fun u Q => ?_) (fun u Q => ?_)
      · simp (disch := first | assumption | omega | exact notL_I | exact notL_N | exact notL_R | exact catS_le (Nat.le_of_ble_eq_true rfl) | exact Nat.le_of_ble_eq_true rfl | exact ooRo (by assumption) | exact ooAt (by assumption) | exact ooRu (by assumption) | exact ooLo (by assumption) | exact ooHa (by assumption) | exact ooLe (by assumption) | exact ooFn | exact ooAn | exact ooPa | exact ooTo | exact ooWa | exact ooCh | rfl) only [x122_0, x122_1, x122_2, x122_5, x122_8, x122_9, x122_10, x122_13, ha, gHa_log, tl, Kc_some, if_pos, if_neg, ↓reduceIte, not_true_eq_false, not_false_eq_true]
      · by_cases hy1 : 0 ≤ p ∧ p ≤ σ (hpb h + 8) 1 - 1
        · simp only [if_pos hy1] at i1
          simp only [if_neg (show ¬ (0 ≤ c ∧ c ≤ 6) by omega)] at i2
          simp (disch := first | omega | exact notL_I | exact notL_N | exact notL_R | exact oM | exact catS_le (Nat.le_of_ble_eq_true rfl) | exact Nat.le_of_ble_eq_true rfl | rfl) only [x251_0, x251_1, x251_2, x251_5, x251_8, x251_11, x251_12, x251_13, x251_14, x251_15, x251_16, x251_19, x251_20, x251_21, x251_22, x251_23, x251_26, x251_29, x251_30, x251_31, x251_33, x251_36, x251_39, x251_40, x251_41, x251_42, x251_43, x251_46, x251_49, x251_50, ry, fa, gM_stepMany, RM_stepMany, n383, e383, i1, i2, Kc_some, if_pos, if_neg, ↓reduceIte, not_true_eq_false, not_false_eq_true]
        · simp only [if_neg hy1] at i1
          simp (disch := first | omega | exact notL_I | exact notL_N | exact notL_R | exact oM | exact catS_le (Nat.le_of_ble_eq_true rfl) | exact Nat.le_of_ble_eq_true rfl | rfl) only [x251_0, x251_1, x251_2, x251_5, x251_8, x251_11, x251_12, x251_13, x251_14, x251_15, x251_16, x251_19, x251_20, x251_21, x251_22, x251_23, x251_26, x251_29, x251_30, x251_31, x251_33, x251_36, x251_39, x251_40, x251_41, x251_42, x251_43, x251_46, x251_49, x251_50, ry, fa, gM_stepMany, RM_stepMany, n383, e383, i1, Kc_some, if_pos, if_neg, ↓reduceIte, not_true_eq_false, not_false_eq_true]
  · have rn := r_no (sc := sc) (d := d - 1) (σ := σ) (h := h) (by omega) hh hr
    have fa := fun u Q => s_fails (sc := sc) (σ := σ) (u := u) (Q := Q) (d := d - 1) (b := 1) (Or.inr rfl)
    refine Lk.no V (Or.inl ⟨rfl, by decide⟩) (fun u Q => ?_) (fun u Q => ?_)
    · have nh := fun u Q => s_noHallC (sc := sc) (σ := σ) (d := d - 1) (u := u) (Q := Q) hh hr
      simp (disch := first | assumption | omega | exact notL_I | exact notL_N | exact notL_R | exact catS_le (Nat.le_of_ble_eq_true rfl) | exact Nat.le_of_ble_eq_true rfl | exact ooRo (by assumption) | exact ooAt (by assumption) | exact ooRu (by assumption) | exact ooLo (by assumption) | exact ooHa (by assumption) | exact ooLe (by assumption) | exact ooFn | exact ooAn | exact ooPa | exact ooTo | exact ooWa | exact ooCh | rfl) only [x122_0, x122_1, x122_2, x122_5, x122_8, x122_9, x122_10, x122_13, nh]
      exact thrK rfl rfl
    · simp (disch := first | omega | exact notL_I | exact notL_N | exact notL_R | exact oM | exact catS_le (Nat.le_of_ble_eq_true rfl) | exact Nat.le_of_ble_eq_true rfl | rfl) only [x251_0, x251_1, x251_2, x251_5, x251_8, x251_11, x251_12, x251_13, x251_14, x251_15, x251_16, x251_19, x251_20, x251_21, x251_22, x251_23, x251_26, x251_29, x251_30, x251_31, x251_33, x251_36, x251_39, x251_40, x251_41, x251_42, x251_43, x251_46, x251_49, x251_50, rn, fa, Kc_some, if_pos, if_neg, ↓reduceIte, not_true_eq_false, not_false_eq_true]
      rfl
theorem op_by {h n : Int} (hd : 100 ≤ d) (hh : inR h) (hn : inR n) (V : VV A σ) : Lk sc d 125 [some (vR 0), some (vI h), some (vI n)] 253 [some (vR 373), some (vI h), some (vI n)] σ := by
  obtain ⟨⟨c1, _⟩, ⟨r1, r2, _⟩, o⟩ := id V
  by_cases hr : 0 ≤ h ∧ h ≤ 2
  · obtain ⟨h0, h2⟩ := hr
    have ha := fun u Q => s_hallAt (sc := sc) (σ := σ) (d := d - 1) (u := u) (Q := Q) h0 h2
    have ry := r_yes (sc := sc) (d := d - 1) (σ := σ) (h := h) (by omega) h0 h2
    have fa := fun u Q => s_fails (sc := sc) (σ := σ) (u := u) (Q := Q) (d := d - 1) (b := 0) (Or.inl rfl)
    have ob := hpb_o h0 h2
    have ol := ob.log
    obtain ⟨a1, a2, a3⟩ := c1 h h0 h2
    have wl := a2.2.2.2.2.1
    have es : byC σ (hpb h + 8) = byR σ h := (congrArg (fun x : Hl => x.2.2.2.2.2.2.2) a1).trans (congrArg (fun x : Hl => x.2.2.2.2.2.2.2) (r1 h h0 h2)).symm
    have mk := fun u Q => s_maker (sc := sc) (σ := σ) (d := d - 1) (u := u) (Q := Q) (l := hpb h + 8) (n := n) ol hn
    have wn := r2.1.nxt h0 (show h ≤ 4 by omega)
    have n381 : su σ 373 0 0 381 = σ 381 := su_ne (by omega)
    have n380 : su σ 373 0 0 380 = σ 380 := su_ne (by omega)
    have bb : -1 ≤ byC σ (hpb h + 8) n ∧ byC σ (hpb h + 8) n ≤ 100 := by
      unfold byC
      split
      · exact wl.2.2.2 n (by omega) (by omega)
      · omega
    have i1 := fun u Q => s_isIn (sc := sc) (σ := su σ 373 0 0) (u := u) (Q := Q) (d := d - 1) (v := n) (a := 0) (b := σ 381 h - 1) hn ⟨by decide, by decide⟩ ⟨by omega, by omega⟩
    refine Lk.eq V (v := byC σ (hpb h + 8) n) ⟨by omega, by omega⟩ (fun u Q => ?_) (fun u Q => ?_)
    · simp (disch := first | assumption | omega | exact notL_I | exact notL_N | exact notL_R | exact catS_le (Nat.le_of_ble_eq_true rfl) | exact Nat.le_of_ble_eq_true rfl | exact ooRo (by assumption) | exact ooAt (by assumption) | exact ooRu (by assumption) | exact ooLo (by assumption) | exact ooHa (by assumption) | exact ooLe (by assumption) | exact ooFn | exact ooAn | exact ooPa | exact ooTo | exact ooWa | exact ooCh | rfl) only [x125_0, x125_1, x125_2, x125_5, x125_8, x125_9, x125_12, ha, gHa_log, mk, Kc_some, if_pos, if_neg, ↓reduceIte, not_true_eq_false, not_false_eq_true]
    · rw [es]
      unfold byR
      by_cases hy : 0 ≤ n ∧ n < σ 381 h
      · rw [if_pos hy]
        simp only [if_pos (show 0 ≤ n ∧ n ≤ σ 381 h - 1 by omega)] at i1
        simp (disch := first | omega | exact notL_I | exact notL_N | exact notL_R | exact oM | exact catS_le (Nat.le_of_ble_eq_true rfl) | exact Nat.le_of_ble_eq_true rfl | rfl) only [x253_0, x253_1, x253_2, x253_5, x253_8, x253_11, x253_12, x253_13, x253_14, x253_15, x253_16, x253_19, x253_20, x253_21, x253_22, x253_23, x253_26, x253_29, x253_30, x253_33, x253_36, x253_37, x253_38, x253_39, x253_40, x253_41, x253_44, x253_45, ry, fa, gM_nextRow, RM_nextRow, gM_byStep, RM_byStep, n381, n380, i1, Kc_some, if_pos, if_neg, ↓reduceIte, not_true_eq_false, not_false_eq_true]
      · rw [if_neg hy]
        simp only [if_neg (show ¬ (0 ≤ n ∧ n ≤ σ 381 h - 1) by omega)] at i1
        simp (disch := first | omega | exact notL_I | exact notL_N | exact notL_R | exact oM | exact catS_le (Nat.le_of_ble_eq_true rfl) | exact Nat.le_of_ble_eq_true rfl | rfl) only [x253_0, x253_1, x253_2, x253_5, x253_8, x253_11, x253_12, x253_13, x253_14, x253_15, x253_16, x253_19, x253_20, x253_21, x253_22, x253_23, x253_26, x253_29, x253_30, x253_33, x253_36, x253_37, x253_38, x253_39, x253_40, x253_41, x253_44, x253_45, ry, fa, gM_nextRow, RM_nextRow, n381, i1, Kc_some, if_pos, if_neg, ↓reduceIte, not_true_eq_false, not_false_eq_true]
  · have rn := r_no (sc := sc) (d := d - 1) (σ := σ) (h := h) (by omega) hh hr
    have fa := fun u Q => s_fails (sc := sc) (σ := σ) (u := u) (Q := Q) (d := d - 1) (b := 1) (Or.inr rfl)
    refine Lk.no V (Or.inl ⟨rfl, by decide⟩) (fun u Q => ?_) (fun u Q => ?_)
    · have nh := fun u Q => s_noHallC (sc := sc) (σ := σ) (d := d - 1) (u := u) (Q := Q) hh hr
      simp (disch := first | assumption | omega | exact notL_I | exact notL_N | exact notL_R | exact catS_le (Nat.le_of_ble_eq_true rfl) | exact Nat.le_of_ble_eq_true rfl | exact ooRo (by assumption) | exact ooAt (by assumption) | exact ooRu (by assumption) | exact ooLo (by assumption) | exact ooHa (by assumption) | exact ooLe (by assumption) | exact ooFn | exact ooAn | exact ooPa | exact ooTo | exact ooWa | exact ooCh | rfl) only [x125_0, x125_1, x125_2, x125_5, x125_8, x125_9, x125_12, nh]
      exact thrK rfl rfl
    · simp (disch := first | omega | exact notL_I | exact notL_N | exact notL_R | exact oM | exact catS_le (Nat.le_of_ble_eq_true rfl) | exact Nat.le_of_ble_eq_true rfl | rfl) only [x253_0, x253_1, x253_2, x253_5, x253_8, x253_11, x253_12, x253_13, x253_14, x253_15, x253_16, x253_19, x253_20, x253_21, x253_22, x253_23, x253_26, x253_29, x253_30, x253_33, x253_36, x253_37, x253_38, x253_39, x253_40, x253_41, x253_44, x253_45, rn, fa, Kc_some, if_pos, if_neg, ↓reduceIte, not_true_eq_false, not_false_eq_true]
      rfl
end O3
