/-! the reference reads: signs, tables -/
/-- what a token may be -/
def tkOk (n : Int) (s : Ps) : Prop := (0 ≤ s.1 ∧ s.1 ≤ 999) ∧ (0 ≤ s.2.1 ∧ s.2.1 ≤ n) ∧ (0 ≤ s.2.2 ∧ s.2.2 ≤ n)
theorem tk_nx {f : Int → Int} {n p : Int} (hf : ∀ k, 0 ≤ k → k < n → 0 ≤ f k ∧ f k ≤ 255) (h0 : 0 ≤ p) (h1 : p ≤ n) : tkOk n (nxT f n p) := by
  have e := tok_e (f := f) h0 h1
  refine ⟨?_, by omega, by omega⟩
  clear e
  unfold nxT
  have s := spn_v (f := f) (n := n) (p := p) (q := isSp) h1
  generalize spn f n isSp p = q at *
  unfold tokA
  by_cases hq : q < n
  · have fq := hf q (by omega) hq
    rw [if_neg (by omega)]
    by_cases hl : isLt (f q) = true
    · rw [if_pos hl]
      rw [isLt_n] at hl
      dsimp only
      unfold wrdK
      split
      · split <;> omega
      · repeat' split
        all_goals omega
    · rw [if_neg hl]
      by_cases hd : isDg (f q) = true
      · rw [if_pos hd]
        have t := spn_v (f := f) (n := n) (p := q) (q := isDg) (by omega)
        dsimp only
        unfold numK
        split
        · rw [isDg_n] at hd
          split
          · omega
          · rename_i c1 c2
            have t1 : q < spn f n isDg q := by
              by_cases e : spn f n isDg q = q
              · have := t.2.2.2 (by omega)
                rw [e, isDg_n.mpr hd] at this
                cases this
              · omega
            have := t.2.2.1 (q + 1) (by omega) (by omega)
            rw [isDg_n] at this
            omega
        · omega
      · rw [if_neg hd]
        split
        · dsimp only; omega
        · split
          · dsimp only; omega
          · dsimp only; omega
  · rw [if_pos hq]
    dsimp only
    omega
/-- reading under way: nothing wrong yet -/
def PcI (τ : St) (s : Ps) : Prop := PsI τ s ∧ τ 373 18 = 0 ∧ tkOk (τ 373 14) s
/-- the text stays; only what reading itself uses changes -/
def Fpa (σ τ : St) : Prop := (∀ c, c ≠ 373 → c ≠ 387 → τ c = σ c) ∧ ∀ j, j < 15 ∨ 19 < j → j ≠ 22 → τ 373 j = σ 373 j
theorem Fpa.refl {σ : St} : Fpa σ σ := ⟨fun _ _ _ => rfl, fun _ _ _ => rfl⟩
theorem Fpa.trans {σ τ ρ : St} (h1 : Fpa σ τ) (h2 : Fpa τ ρ) : Fpa σ ρ := ⟨fun c a b => (h2.1 c a b).trans (h1.1 c a b), fun j a b => (h2.2 j a b).trans (h1.2 j a b)⟩
theorem Ft.pa {σ τ : St} (h : Ft σ τ) : Fpa σ τ := ⟨fun c a _ => h.1 c a, fun j a _ => h.2 j (by omega) (by omega) (by omega)⟩
theorem Fpa.dt {σ τ : St} (h : Fpa σ τ) : Dt σ τ := ⟨fun c a b => h.1 c (by omega) (by omega), h.2 14 (by omega) (by omega)⟩
theorem Fpa.su3 {σ : St} {j x : Int} (hj : (15 ≤ j ∧ j ≤ 19) ∨ j = 22) : Fpa σ (su σ 373 j x) := ⟨fun c a _ => su_ne a, fun i a b => su_off (by omega)⟩
theorem Fpa.su7 {σ : St} {j x : Int} : Fpa σ (su σ 387 j x) := ⟨fun c _ a => su_ne a, fun i _ _ => by rw [su_ne (by omega)]⟩
theorem Fpa.tx {σ τ : St} (h : Fpa σ τ) : τ 386 = σ 386 ∧ τ 373 14 = σ 373 14 := ⟨h.1 386 (by omega) (by omega), h.2 14 (by omega) (by omega)⟩
/-- what is wrong, and where -/
def BdI (τ : St) (e : Fa) : Prop := τ 373 18 = e.1 ∧ τ 373 19 = e.2
section L1
variable {sc : Scr} {d : Nat} {σ : St}
theorem tapF (W : WfM σ) : ∀ k, 0 ≤ k → k < σ 373 14 → 0 ≤ σ 386 k ∧ σ 386 k ≤ 255 := fun k k0 k1 => W.tap k0 (by have := W.tpd; omega)
theorem s_lookP (hd : 3 ≤ d) (W : WfM σ) {s : Ps} (H : PcI σ s) : ∃ τ, Ft σ τ ∧ PcI τ (nxT (σ 386) (σ 373 14) s.2.2) ∧ RnA sc d 186 0 [some (vR 373), none, none, none, none] σ none τ := by
  obtain ⟨⟨p1, p2, p3⟩, h2, h3⟩ := H
  obtain ⟨τ, z1, z2, z3⟩ := s_look0 (sc := sc) (d := d) hd W h3.2.2.1 h3.2.2.2 p3
  exact ⟨τ, z1, ⟨z2, by rw [z1.2 18 (by omega) (by omega) (by omega)]; exact h2, by rw [z1.2 14 (by omega) (by omega) (by omega)]; exact tk_nx (tapF W) h3.2.2.1 h3.2.2.2⟩, z3⟩
theorem s_bad {k p : Int} (hw : σ 373 18 = 0) (u : Bool × Nat × Nat × Int) (Q : Rs → HS → Prop) : Ex sc d 192 0 [some (vR 373), some (vI k), some (vI p)] [] (wH σ u) Q ↔ Q (.inl (some (vI (0)))) (wH (su (su σ 373 18 k) 373 19 p) u) := by
  simp (disch := first | omega | exact notL_I | exact notL_N | exact notL_R | exact oM | exact catS_le (Nat.le_of_ble_eq_true rfl) | exact Nat.le_of_ble_eq_true rfl | rfl) only [x192_0, x192_1, x192_4, x192_7, x192_8, x192_9, x192_12, x192_13, x192_14, x192_17, x192_18, gM_wrong, pM_wrong, pM_wrongAt, hw, if_pos, if_neg, ↓reduceIte, not_true_eq_false, not_false_eq_true]
theorem bad_v {k p : Int} : Fpa σ (su (su σ 373 18 k) 373 19 p) ∧ BdI (su (su σ 373 18 k) 373 19 p) (k, p) := ⟨(Fpa.su3 (by omega)).trans (Fpa.su3 (by omega)), by rw [su_off (by omega), su_eq], su_eq⟩
theorem s_isSign {t c : Int} (ht : σ 373 16 = t) (t0 : 0 ≤ t ∧ t ≤ 999) (c0 : 0 ≤ c ∧ c ≤ 255) (u : Bool × Nat × Nat × Int) (Q : Rs → HS → Prop) : Ex sc d 197 0 [some (vR 373), some (vI c)] [] (wH σ u) Q ↔ Q (.inl (some (vI (if t = 500 + c then 1 else 0)))) (wH σ u) := by
  by_cases h : t = 500 + c
  · rw [if_pos h]
    simp (disch := first | omega | exact notL_I | exact notL_N | exact notL_R | exact oM | exact catS_le (Nat.le_of_ble_eq_true rfl) | exact Nat.le_of_ble_eq_true rfl | rfl) only [x197_0, x197_1, x197_4, x197_7, x197_8, x197_9, x197_12, x197_13, x197_16, x197_17, gM_token, ht, if_pos, if_neg, ↓reduceIte, not_true_eq_false, not_false_eq_true]
  · rw [if_neg h]
    simp (disch := first | omega | exact notL_I | exact notL_N | exact notL_R | exact oM | exact catS_le (Nat.le_of_ble_eq_true rfl) | exact Nat.le_of_ble_eq_true rfl | rfl) only [x197_0, x197_1, x197_4, x197_7, x197_8, x197_9, x197_12, x197_13, x197_16, x197_17, gM_token, ht, if_pos, if_neg, ↓reduceIte, not_true_eq_false, not_false_eq_true]
theorem s_isNum {t : Int} (hd : 1 ≤ d) (ht : σ 373 16 = t) (t0 : 0 ≤ t ∧ t ≤ 999) (u : Bool × Nat × Nat × Int) (Q : Rs → HS → Prop) : Ex sc d 195 0 [some (vR 373)] [] (wH σ u) Q ↔ Q (.inl (some (vI (if 300 ≤ t ∧ t ≤ 399 then 1 else 0)))) (wH σ u) := by
  have i1 := fun u Q => s_isIn (sc := sc) (σ := σ) (u := u) (Q := Q) (d := d - 1) (v := t) (a := 300) (b := 399) ⟨by omega, by omega⟩ ⟨by decide, by decide⟩ ⟨by decide, by decide⟩
  simp (disch := first | omega | exact notL_I | exact notL_N | exact notL_R | exact oM | exact catS_le (Nat.le_of_ble_eq_true rfl) | exact Nat.le_of_ble_eq_true rfl | rfl) only [x195_0, x195_1, x195_4, x195_7, x195_10, x195_13, gM_token, ht, i1, Kc_some]
theorem s_need {c : Int} {s : Ps} (hd : 4 ≤ d) (W : WfM σ) (H : PcI σ s) (c0 : 0 ≤ c ∧ c ≤ 255) :
    (∃ s' τ, needP (nxT (σ 386) (σ 373 14)) c s = .inr s' ∧ Ft σ τ ∧ PcI τ s' ∧ RnA sc d 196 0 [some (vR 373), some (vI c)] σ (some (vI 1)) τ) ∨ (∃ e τ, needP (nxT (σ 386) (σ 373 14)) c s = .inl e ∧ Fpa σ τ ∧ BdI τ e ∧ RnA sc d 196 0 [some (vR 373), some (vI c)] σ (some (vI 0)) τ) := by
  have sg := s_isSign (sc := sc) (d := d - 1) H.1.1 H.2.2.1 c0
  by_cases h : s.1 = 500 + c
  · simp only [if_pos h] at sg
    obtain ⟨τ, z1, z2, z3⟩ := s_lookP (sc := sc) (d := d - 1) (by omega) W H
    refine Or.inl ⟨_, τ, by unfold needP; rw [if_pos h], z1, z2, fun u Q => ?_⟩
    simp (disch := first | omega | exact notL_I | exact notL_N | exact notL_R | exact oM | exact catS_le (Nat.le_of_ble_eq_true rfl) | exact Nat.le_of_ble_eq_true rfl | rfl) only [x196_0, x196_1, x196_2, x196_5, x196_8, x196_9, x196_10, x196_11, x196_14, x196_17, x196_18, x196_19, x196_22, x196_23, sg, z3 u, Kc_some, Kc_none, if_pos, if_neg, ↓reduceIte, not_true_eq_false, not_false_eq_true]
  · simp only [if_neg h] at sg
    have bd := fun u Q => s_bad (sc := sc) (d := d - 1) (σ := σ) (k := 1) (p := s.2.1) H.2.1 u Q
    refine Or.inr ⟨_, _, by unfold needP; rw [if_neg h], bad_v.1, bad_v.2, fun u Q => ?_⟩
    simp (disch := first | omega | exact notL_I | exact notL_N | exact notL_R | exact oM | exact catS_le (Nat.le_of_ble_eq_true rfl) | exact Nat.le_of_ble_eq_true rfl | rfl) only [x196_0, x196_1, x196_2, x196_5, x196_8, x196_9, x196_10, x196_11, x196_14, x196_17, x196_18, x196_19, x196_22, x196_23, sg, gM_tokenAt, H.1.2.1, bd, Kc_some, if_pos, if_neg, ↓reduceIte, not_true_eq_false, not_false_eq_true]
/-- a table that is there -/
theorem s_aTab1 {h : Int} {s : Ps} (hd : 1 ≤ d) (W : WfM σ) (h1 : 0 ≤ h) (h2 : h ≤ 4) (H : PcI σ s) :
    (∃ t τ, tabP (coR σ h) s = .inr t ∧ t = s.1 - 100 ∧ 0 ≤ t ∧ t ≤ 25 ∧ 1 ≤ σ 374 (26 * h + t) ∧ Fpa σ τ ∧ PcI τ s ∧ τ 373 22 = t ∧ RnA sc d 191 0 [some (vR 373), some (vI h), some (vI 1)] σ (some (vI 1)) τ) ∨ (∃ e τ, tabP (coR σ h) s = .inl e ∧ Fpa σ τ ∧ BdI τ e ∧ RnA sc d 191 0 [some (vR 373), some (vI h), some (vI 1)] σ (some (vI 0)) τ) := by
  obtain ⟨⟨p1, p2, p3⟩, hw, t0, t1, t2⟩ := H
  have i1 := fun u Q => s_isIn (sc := sc) (σ := σ) (u := u) (Q := Q) (d := d - 1) (v := s.1) (a := 100) (b := 125) ⟨by omega, by omega⟩ ⟨by decide, by decide⟩ ⟨by decide, by decide⟩
  unfold tabP
  by_cases ht : 100 ≤ s.1 ∧ s.1 ≤ 125
  · simp only [if_pos ht] at i1
    rw [if_pos ht]
    have ec : coR σ h (s.1 - 100) = σ 374 (26 * h + (s.1 - 100)) := coR_in (by omega) (by omega)
    have wc := W.col h1 h2 (t := s.1 - 100) (by omega) (by omega)
    rw [ec]
    have co := fun u Q => s_colsOf (sc := sc) (σ := su σ 373 22 (s.1 - 100)) (u := u) (Q := Q) (d := d - 1) (h := h) (t := s.1 - 100) h1 h2 (by omega) (by omega)
    have ne : su σ 373 22 (s.1 - 100) 374 = σ 374 := su_ne (by omega)
    rw [ne] at co
    have e22 : su σ 373 22 (s.1 - 100) 373 22 = s.1 - 100 := su_eq
    have e17 : su σ 373 22 (s.1 - 100) 373 17 = s.2.1 := by rw [su_off (by omega)]; exact p2
    have e18 : su σ 373 22 (s.1 - 100) 373 18 = 0 := by rw [su_off (by omega)]; exact hw
    by_cases hc : 0 < σ 374 (26 * h + (s.1 - 100))
    · rw [if_pos hc]
      refine Or.inl ⟨s.1 - 100, su σ 373 22 (s.1 - 100), rfl, rfl, by omega, by omega, by omega, Fpa.su3 (by omega), ⟨⟨by rw [su_off (by omega)]; exact p1, e17, by rw [su_off (by omega)]; exact p3⟩, e18, by rw [su_off (by omega)]; exact ⟨t0, t1, t2⟩⟩, e22, fun u Q => ?_⟩
      simp (disch := first | omega | exact notL_I | exact notL_N | exact notL_R | exact oM | exact catS_le (Nat.le_of_ble_eq_true rfl) | exact Nat.le_of_ble_eq_true rfl | rfl) only [x191_0, x191_1, x191_4, x191_6, x191_8, x191_11, x191_14, x191_15, x191_16, x191_17, x191_20, x191_23, x191_24, x191_25, x191_26, x191_29, x191_31, x191_32, x191_35, x191_36, x191_37, x191_38, x191_41, x191_44, x191_47, x191_48, x191_51, x191_52, x191_53, x191_56, x191_57, x191_58, x191_59, x191_62, x191_65, x191_66, x191_67, gM_token, p1, i1, pM_read, gM_read, e22, co, Kc_some, if_pos, if_neg, ↓reduceIte, not_true_eq_false, not_false_eq_true]
    · rw [if_neg hc]
      have bd := fun u Q => s_bad (sc := sc) (d := d - 1) (σ := su σ 373 22 (s.1 - 100)) (k := 2) (p := s.2.1) e18 u Q
      refine Or.inr ⟨_, _, rfl, (Fpa.su3 (σ := σ) (j := 22) (x := s.1 - 100) (by omega)).trans bad_v.1, bad_v.2, fun u Q => ?_⟩
      simp (disch := first | omega | exact notL_I | exact notL_N | exact notL_R | exact oM | exact catS_le (Nat.le_of_ble_eq_true rfl) | exact Nat.le_of_ble_eq_true rfl | rfl) only [x191_0, x191_1, x191_4, x191_6, x191_8, x191_11, x191_14, x191_15, x191_16, x191_17, x191_20, x191_23, x191_24, x191_25, x191_26, x191_29, x191_31, x191_32, x191_35, x191_36, x191_37, x191_38, x191_41, x191_44, x191_47, x191_48, x191_51, x191_52, x191_53, x191_56, x191_57, x191_58, x191_59, x191_62, x191_65, x191_66, x191_67, gM_token, gM_tokenAt, p1, i1, pM_read, gM_read, e22, e17, co, bd, Kc_some, if_pos, if_neg, ↓reduceIte, not_true_eq_false, not_false_eq_true]
  · simp only [if_neg ht] at i1
    rw [if_neg ht]
    have bd := fun u Q => s_bad (sc := sc) (d := d - 1) (σ := σ) (k := 1) (p := s.2.1) hw u Q
    refine Or.inr ⟨_, _, rfl, bad_v.1, bad_v.2, fun u Q => ?_⟩
    simp (disch := first | omega | exact notL_I | exact notL_N | exact notL_R | exact oM | exact catS_le (Nat.le_of_ble_eq_true rfl) | exact Nat.le_of_ble_eq_true rfl | rfl) only [x191_0, x191_1, x191_4, x191_6, x191_8, x191_11, x191_14, x191_15, x191_16, x191_17, x191_20, x191_23, x191_24, x191_25, x191_26, x191_29, x191_31, x191_32, x191_35, x191_36, x191_37, x191_38, x191_41, x191_44, x191_47, x191_48, x191_51, x191_52, x191_53, x191_56, x191_57, x191_58, x191_59, x191_62, x191_65, x191_66, x191_67, gM_token, gM_tokenAt, p1, p2, i1, bd, Kc_some, if_pos, if_neg, ↓reduceIte, not_true_eq_false, not_false_eq_true]
/-- a table that is not there -/
theorem s_aTab0 {h : Int} {s : Ps} (hd : 1 ≤ d) (W : WfM σ) (h1 : 0 ≤ h) (h2 : h ≤ 4) (H : PcI σ s) :
    (∃ t τ, isTb s ∧ t = s.1 - 100 ∧ 0 ≤ t ∧ t ≤ 25 ∧ σ 374 (26 * h + t) = 0 ∧ Fpa σ τ ∧ PcI τ s ∧ τ 373 22 = t ∧ RnA sc d 191 0 [some (vR 373), some (vI h), some (vI 0)] σ (some (vI 1)) τ) ∨ (∃ e τ, ((¬ isTb s ∧ e = (1, s.2.1)) ∨ (isTb s ∧ 0 < coR σ h (s.1 - 100) ∧ e = (2, s.2.1))) ∧ Fpa σ τ ∧ BdI τ e ∧ RnA sc d 191 0 [some (vR 373), some (vI h), some (vI 0)] σ (some (vI 0)) τ) := by
  obtain ⟨⟨p1, p2, p3⟩, hw, t0, t1, t2⟩ := H
  have i1 := fun u Q => s_isIn (sc := sc) (σ := σ) (u := u) (Q := Q) (d := d - 1) (v := s.1) (a := 100) (b := 125) ⟨by omega, by omega⟩ ⟨by decide, by decide⟩ ⟨by decide, by decide⟩
  by_cases ht : 100 ≤ s.1 ∧ s.1 ≤ 125
  · simp only [if_pos ht] at i1
    have ec : coR σ h (s.1 - 100) = σ 374 (26 * h + (s.1 - 100)) := coR_in (by omega) (by omega)
    have wc := W.col h1 h2 (t := s.1 - 100) (by omega) (by omega)
    have co := fun u Q => s_colsOf (sc := sc) (σ := su σ 373 22 (s.1 - 100)) (u := u) (Q := Q) (d := d - 1) (h := h) (t := s.1 - 100) h1 h2 (by omega) (by omega)
    have ne : su σ 373 22 (s.1 - 100) 374 = σ 374 := su_ne (by omega)
    rw [ne] at co
    have e22 : su σ 373 22 (s.1 - 100) 373 22 = s.1 - 100 := su_eq
    have e17 : su σ 373 22 (s.1 - 100) 373 17 = s.2.1 := by rw [su_off (by omega)]; exact p2
    have e18 : su σ 373 22 (s.1 - 100) 373 18 = 0 := by rw [su_off (by omega)]; exact hw
    by_cases hc : ¬ 0 < σ 374 (26 * h + (s.1 - 100))
    · refine Or.inl ⟨s.1 - 100, su σ 373 22 (s.1 - 100), ht, rfl, by omega, by omega, by omega, Fpa.su3 (by omega), ⟨⟨by rw [su_off (by omega)]; exact p1, e17, by rw [su_off (by omega)]; exact p3⟩, e18, by rw [su_off (by omega)]; exact ⟨t0, t1, t2⟩⟩, e22, fun u Q => ?_⟩
      simp (disch := first | omega | exact notL_I | exact notL_N | exact notL_R | exact oM | exact catS_le (Nat.le_of_ble_eq_true rfl) | exact Nat.le_of_ble_eq_true rfl | rfl) only [x191_0, x191_1, x191_4, x191_6, x191_8, x191_11, x191_14, x191_15, x191_16, x191_17, x191_20, x191_23, x191_24, x191_25, x191_26, x191_29, x191_31, x191_32, x191_35, x191_36, x191_37, x191_38, x191_41, x191_44, x191_47, x191_48, x191_51, x191_52, x191_53, x191_56, x191_57, x191_58, x191_59, x191_62, x191_65, x191_66, x191_67, gM_token, p1, i1, pM_read, gM_read, e22, co, Kc_some, if_pos, if_neg, ↓reduceIte, not_true_eq_false, not_false_eq_true]
    · have hc' : 0 < σ 374 (26 * h + (s.1 - 100)) := by omega
      have bd := fun u Q => s_bad (sc := sc) (d := d - 1) (σ := su σ 373 22 (s.1 - 100)) (k := 2) (p := s.2.1) e18 u Q
      refine Or.inr ⟨_, _, Or.inr ⟨ht, by rw [ec]; exact hc', rfl⟩, (Fpa.su3 (σ := σ) (j := 22) (x := s.1 - 100) (by omega)).trans bad_v.1, bad_v.2, fun u Q => ?_⟩
      simp (disch := first | omega | exact notL_I | exact notL_N | exact notL_R | exact oM | exact catS_le (Nat.le_of_ble_eq_true rfl) | exact Nat.le_of_ble_eq_true rfl | rfl) only [x191_0, x191_1, x191_4, x191_6, x191_8, x191_11, x191_14, x191_15, x191_16, x191_17, x191_20, x191_23, x191_24, x191_25, x191_26, x191_29, x191_31, x191_32, x191_35, x191_36, x191_37, x191_38, x191_41, x191_44, x191_47, x191_48, x191_51, x191_52, x191_53, x191_56, x191_57, x191_58, x191_59, x191_62, x191_65, x191_66, x191_67, gM_token, gM_tokenAt, p1, i1, pM_read, gM_read, e22, e17, co, bd, Kc_some, if_pos, if_neg, ↓reduceIte, not_true_eq_false, not_false_eq_true]
  · simp only [if_neg ht] at i1
    have bd := fun u Q => s_bad (sc := sc) (d := d - 1) (σ := σ) (k := 1) (p := s.2.1) hw u Q
    refine Or.inr ⟨_, _, Or.inl ⟨ht, rfl⟩, bad_v.1, bad_v.2, fun u Q => ?_⟩
    simp (disch := first | omega | exact notL_I | exact notL_N | exact notL_R | exact oM | exact catS_le (Nat.le_of_ble_eq_true rfl) | exact Nat.le_of_ble_eq_true rfl | rfl) only [x191_0, x191_1, x191_4, x191_6, x191_8, x191_11, x191_14, x191_15, x191_16, x191_17, x191_20, x191_23, x191_24, x191_25, x191_26, x191_29, x191_31, x191_32, x191_35, x191_36, x191_37, x191_38, x191_41, x191_44, x191_47, x191_48, x191_51, x191_52, x191_53, x191_56, x191_57, x191_58, x191_59, x191_62, x191_65, x191_66, x191_67, gM_token, gM_tokenAt, p1, p2, i1, bd, Kc_some, if_pos, if_neg, ↓reduceIte, not_true_eq_false, not_false_eq_true]
end L1
