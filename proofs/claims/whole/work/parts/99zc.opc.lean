/-! a row is struck, both -/
theorem erase_filter : ∀ (L : List Rw) (p : Nat) (w : Rw), srt L → L[p]? = some w → L.eraseIdx p = L.filter (fun v => decide (v.1 ≠ w.1)) := by
  intro L
  induction L with
  | nil => intro p w _ h; cases h
  | cons a L ih =>
    intro p w hs h
    have hp := List.pairwise_cons.mp hs
    cases p with
    | zero =>
      have e : a = w := Option.some.inj h
      subst e
      rw [List.eraseIdx_cons_zero, List.filter_cons, if_neg (by simp)]
      exact (List.filter_eq_self.mpr (fun v hv => decide_eq_true (by have := hp.1 v hv; omega))).symm
    | succ p =>
      rw [List.getElem?_cons_succ] at h
      have := hp.1 w (List.mem_of_getElem? h)
      rw [List.eraseIdx_cons_succ, List.filter_cons, if_pos (decide_eq_true (by omega)), ih p w hp.2 h]
section Od
variable {sc : Scr} {d : Nat} {σ τ : St} {A : AS}
theorem rsF_struck {h n : Int} (n0 : 0 ≤ n) : ∀ (k : Nat) (m : Int), 0 ≤ m → rsF (su σ 377 (200 * h + n) 0) h k m = (rsF σ h k m).filter (fun v => decide (v.1 ≠ n)) := by
  intro k
  induction k with
  | zero => intro m _; rfl
  | succ k ih =>
    intro m m0
    have er : rwR (su σ 377 (200 * h + n) 0) h m = rwR σ h m := by unfold rwR; rw [su_ne (by omega), su_ne (by omega), su_ne (by omega)]
    have e1 : (rwR σ h m).1 = m := rfl
    rw [rsF, rsF, er, ih (m + 1) (by omega), su_at]
    by_cases e : m = n
    · subst e
      rw [if_pos rfl, if_neg (by omega)]
      split
      · rw [List.filter_cons, if_neg (by rw [e1]; simp)]
      · rfl
    · have i1 : (if 200 * h + m = 200 * h + n then (0 : Int) else σ 377 (200 * h + m)) = σ 377 (200 * h + m) := if_neg (by omega)
      rw [i1]
      split
      · rw [List.filter_cons, if_pos (decide_eq_true (by rw [e1]; exact e))]
      · rfl
theorem su7_v {h n : Int} (W : WfM σ) (h0 : 0 ≤ h) (h4 : h ≤ 4) (n0 : 0 ≤ n) (n1 : n ≤ 199) : Mf h σ (su σ 377 (200 * h + n) 0) ∧ rnR (su σ 377 (200 * h + n) 0) h = ((rsR σ h).filter (fun v => decide (v.1 ≠ n)), (rnR σ h).2) := by
  have so : ∀ c, c ≠ 377 → su σ 377 (200 * h + n) 0 c = σ c := fun c hc => su_ne hc
  refine ⟨⟨RsR.su_ (by omega), fun c a b => su_ne (by omega), fun g hg => ?_, ?_, by rw [su_ne (by omega)]⟩, ?_⟩
  · refine ⟨HQa.of (fun c a b => su_ne (by omega)), ⟨fun m m0 m1 => ⟨?_, by rw [so 378 (by omega)]⟩, fun n _ _ => by rw [so 379 (by omega)], by rw [so 381 (by omega)], fun k _ _ => by rw [so 385 (by omega)]⟩, ⟨fun n _ _ => by rw [so 380 (by omega)], by rw [so 382 (by omega)], by rw [so 383 (by omega)], fun k _ _ => by rw [so 384 (by omega)]⟩⟩
    rw [su_off (by omega)]
  · refine WfM.mk W ?_ ?_ ?_ ?_ ?_ ?_ ?_ ?_ ?_ ?_ ?_ ?_ ?_
    · rw [so 374 (by omega)]; exact W.p4
    · rw [so 375 (by omega)]; exact W.p5
    · intro i i0 i1; exact okU_c (W.p6 i i0 i1) (fun k _ _ => by rw [so 376 (by omega)])
    · intro i i0 i1; rw [su_at]; split; exact Or.inl rfl; exact W.p7 i i0 i1
    · rw [so 378 (by omega)]; exact W.p8
    · rw [so 379 (by omega)]; exact W.p9
    · rw [so 380 (by omega)]; exact W.p0
    · rw [so 381 (by omega)]; exact W.p1
    · rw [so 382 (by omega)]; exact W.p2
    · rw [so 383 (by omega)]; exact W.p3
    · rw [so 385 (by omega)]; exact W.pa
    · exact so 386 (by omega)
    · rw [so 373 (by omega)]
  · have e1 : rsR (su σ 377 (200 * h + n) 0) h = (rsR σ h).filter (fun v => decide (v.1 ≠ n)) := by
      unfold rsR
      rw [so 381 (by omega)]
      exact rsF_struck n0 _ 0 (Int.le_refl _)
    have e2 : ∀ (k : Nat) (i : Int), stF (su σ 377 (200 * h + n) 0) h k i = stF σ h k i := by
      intro k
      induction k with
      | zero => intro i; rfl
      | succ k ih => intro i; rw [stF, stF, so 384 (by omega), ih]
    unfold rnR naR stR byR
    rw [e1, so 381 (by omega), so 385 (by omega), so 383 (by omega), so 380 (by omega), e2]
theorem op_strike {h n : Int} (hd : 100 ≤ d) (hh : inR h) (hn : inR n) (V : VV A σ) : Lk sc d 88 [some (vR 0), some (vI h), some (vI n), none, none] 224 [some (vR 373), some (vI h), some (vI n)] σ := by
  obtain ⟨Vc, Vr, o⟩ := id V
  by_cases hr : 0 ≤ h ∧ h ≤ 2
  · obtain ⟨h0, h2⟩ := hr
    have ha := fun u Q => s_hallAt (sc := sc) (σ := σ) (d := d - 1) (u := u) (Q := Q) h0 h2
    have ob := hpb_o h0 h2
    have hb := hpb_r h2
    have orr := ob.rows
    have ol := ob.log
    have k := o.1 h h0 h2
    obtain ⟨a1, a2, a3⟩ := Vc.1 h h0 h2
    have eS : rsC σ (hpb h + 3) = (A.1 h).2.2.2.1 := congrArg (fun x : Hl => x.2.2.2.1) a1
    have wro := a2.2.2.2.1
    have po := fun u Q => s_posOf (sc := sc) (σ := σ) (d := d - 1) (u := u) (Q := Q) (r := hpb h + 3) (n := n) orr hn wro
    rw [eS] at po
    have el := rsC_len (σ := σ) (r := hpb h + 3) wro.1.1
    rw [eS] at el
    have w40 := wro.1.2
    have rS : rsR σ h = (A.1 h).2.2.2.1 := congrArg (fun x : Hl => x.2.2.2.1) (Vr.1 h h0 h2)
    have e381 : σ 381 h = (A.1 h).2.2.2.2.1 := congrArg (fun x : Hl => x.2.2.2.2.1) (Vr.1 h h0 h2)
    have wn := Vr.2.1.1.nxt h0 (show h ≤ 4 by omega)
    have ry := fun X => r_yes (sc := sc) (d := d - 1) (σ := X) (h := h) (by omega) h0 h2
    have fa := fun X u Q => s_fails (sc := sc) (σ := X) (u := u) (Q := Q) (d := d - 1) (b := 0) (Or.inl rfl)
    have is1 := fun (S : St) u Q => s_isIn (sc := sc) (σ := S) (u := u) (Q := Q) (d := d - 1) (v := n) (a := 0) (b := σ 381 h - 1) hn ⟨by decide, by decide⟩ ⟨by omega, by omega⟩
    have n381 : ∀ X : St, su X 373 0 0 381 = X 381 := fun X => su_ne (by omega)
    have n377 : ∀ X : St, su X 373 0 0 377 = X 377 := fun X => su_ne (by omega)
    by_cases hp : posF (fun w => decide (w.1 = n)) (A.1 h).2.2.2.1 0 = -1
    · -- no such row
      rw [hp] at po
      have none_ : ∀ w ∈ (A.1 h).2.2.2.1, w.1 ≠ n := by
        have : ∀ (L : List Rw) (p : Int), 0 ≤ p → posF (fun w => decide (w.1 = n)) L p = -1 → ∀ w ∈ L, w.1 ≠ n := by
          intro L
          induction L with
          | nil => intro p _ _ w hw; cases hw
          | cons a L ih =>
            intro p p0 hq w hw
            rw [posF] at hq
            by_cases e : a.1 = n
            · rw [if_pos (decide_eq_true e)] at hq
              omega
            · rw [if_neg (by simp [e])] at hq
              rcases List.mem_cons.mp hw with rfl | h
              · exact e
              · exact ih (p + 1) (by omega) hq w h
        exact this _ 0 (Int.le_refl _) hp
      refine Lk.eq V (v := 0) ⟨by decide, by decide⟩ (fun u Q => ?_) (fun u Q => ?_)
      · simp (disch := first | assumption | omega | exact notL_I | exact notL_N | exact notL_R | exact catS_le (Nat.le_of_ble_eq_true rfl) | exact Nat.le_of_ble_eq_true rfl | exact ooRo (by assumption) | exact ooAt (by assumption) | exact ooRu (by assumption) | exact ooLo (by assumption) | exact ooHa (by assumption) | exact ooLe (by assumption) | exact ooFn | exact ooAn | exact ooPa | exact ooTo | exact ooWa | exact ooCh | rfl) only [x88_0, x88_1, x88_2, x88_5, x88_6, x88_7, x88_10, x88_11, x88_14, x88_16, x88_18, x88_19, x88_22, x88_23, x88_24, x88_25, x88_28, x88_30, x88_33, x88_34, x88_37, x88_38, x88_41, x88_42, ha, gHa_rows, po, Kc_some, if_pos, if_neg, ↓reduceIte, not_true_eq_false, not_false_eq_true]
      · have ry' := ry σ
        have fa' := fa σ
        by_cases hi : 0 ≤ n ∧ n ≤ σ 381 h - 1
        · simp only [if_pos hi] at is1
          have nt : σ 377 (200 * h + n) ≠ 1 := fun z => by
            have me : rwR σ h n ∈ rsR σ h := (rs_memI _ _).mpr ⟨n, hi.1, by omega, z, rfl⟩
            rw [rS] at me
            exact none_ _ me rfl
          have it := fun u Q => s_isThere (sc := sc) (σ := su σ 373 0 0) (u := u) (Q := Q) (d := d - 1) (h := h) (n := n) h0 (by omega) hi.1 (by omega) (by rw [n377]; exact Vr.2.1.1.thr h0 (by omega) hi.1 (by omega))
          rw [n377] at it
          simp only [if_neg nt] at it
          simp (disch := first | omega | exact notL_I | exact notL_N | exact notL_R | exact oM | exact catS_le (Nat.le_of_ble_eq_true rfl) | exact Nat.le_of_ble_eq_true rfl | rfl) only [x224_0, x224_1, x224_2, x224_5, x224_8, x224_11, x224_12, x224_13, x224_14, x224_17, x224_18, x224_19, x224_20, x224_21, x224_24, x224_27, x224_28, x224_29, x224_30, x224_33, x224_36, x224_37, x224_38, x224_39, x224_42, x224_45, x224_46, x224_47, x224_48, x224_49, x224_50, x224_51, x224_52, x224_55, x224_56, x224_57, x224_58, x224_59, ry', fa', gM_nextRow, RM_nextRow, n381, is1, it, Kc_some, if_pos, if_neg, ↓reduceIte, not_true_eq_false, not_false_eq_true]
        · simp only [if_neg hi] at is1
          simp (disch := first | omega | exact notL_I | exact notL_N | exact notL_R | exact oM | exact catS_le (Nat.le_of_ble_eq_true rfl) | exact Nat.le_of_ble_eq_true rfl | rfl) only [x224_0, x224_1, x224_2, x224_5, x224_8, x224_11, x224_12, x224_13, x224_14, x224_17, x224_18, x224_19, x224_20, x224_21, x224_24, x224_27, x224_28, x224_29, x224_30, x224_33, x224_36, x224_37, x224_38, x224_39, x224_42, x224_45, x224_46, x224_47, x224_48, x224_49, x224_50, x224_51, x224_52, x224_55, x224_56, x224_57, x224_58, x224_59, ry', fa', gM_nextRow, RM_nextRow, n381, is1, Kc_some, if_pos, if_neg, ↓reduceIte, not_true_eq_false, not_false_eq_true]
    · obtain ⟨p0, p1, w, pw, pn, _⟩ := pos_some (A.1 h).2.2.2.1 0 _ rfl hp
      rw [Int.sub_zero] at pw
      have wn' : w.1 = n := of_decide_eq_true pn
      have okm := k.2.2.2.2.2.1.2.2.1 w (List.mem_of_getElem? pw)
      generalize hpp : posF (fun w => decide (w.1 = n)) (A.1 h).2.2.2.1 0 = p at *
      have p2 : p < σ (hpb h + 3) 0 := by omega
      have ef := erase_filter (A.1 h).2.2.2.1 p.toNat w k.2.2.2.2.2.1.2.1 pw
      rw [wn'] at ef
      have rm := fun u Q => s_removeAt (sc := sc) (σ := σ) (d := d - 1) (u := u) (Q := Q) (r := hpb h + 3) (p := p) orr p0 p2 wro
      have rw1 := rmS_wf wro p0 p2
      have rw2 := rmS_rs wro p0 p2
      have rw3 := rmS_na (σ := σ) (r := hpb h + 3) (p := p)
      obtain ⟨fr, f0, -⟩ := rmS_r (σ := σ) (r := hpb h + 3) (p := p)
      have f1 : rmS σ (hpb h + 3) p (hpb h + 3) 1 = σ (hpb h + 3) 1 := by rw [f0 1, if_neg (by omega)]
      rw [eS, ef] at rw2
      generalize rmS σ (hpb h + 3) p = X at *
      have frb := fr.b
      have ne : ∀ c, c < hpb h + 3 ∨ hpb h + 8 ≤ c → X c = σ c := fun c hc => frb c (by omega)
      have ne2 : ∀ c, c < hpb h + 3 ∨ hpb h + 8 < c → su X (hpb h + 8) 0 0 c = σ c := fun c hc => by rw [su_ne (by omega), ne c (by omega)]
      have nX : ∀ c, c < hpb h + 8 → su X (hpb h + 8) 0 0 c = X c := fun c hc => su_ne (by omega)
      have g80 : su X (hpb h + 8) 0 0 (hpb h + 8) 0 = 0 := su_eq
      have g8 : ∀ j, j ≠ 0 → su X (hpb h + 8) 0 0 (hpb h + 8) j = σ (hpb h + 8) j := fun j hj => by rw [su_off hj, ne _ (by omega)]
      have frX : FrB (hpb h) 84 σ (su X (hpb h + 8) 0 0) := fun c hc => ne2 c (by omega)
      obtain ⟨w0, w1, w2, w3, w4, w5, w6⟩ := a2
      have HX : hlC (su X (hpb h + 8) 0 0) (hpb h) = ((A.1 h).1, (A.1 h).2.1, 0, (A.1 h).2.2.2.1.filter (fun v => decide (v.1 ≠ n)), (A.1 h).2.2.2.2) := by
        have q1 : coC (su X (hpb h + 8) 0 0) (hpb h) = (A.1 h).1 := (coC_eq (ne2 (hpb h + 1) (by omega))).trans (congrArg (fun x : Hl => x.1) a1)
        have q2 : rlC (su X (hpb h + 8) 0 0) (hpb h) = (A.1 h).2.1 := by
          have : rlC (su X (hpb h + 8) 0 0) (hpb h) = rlC σ (hpb h) := by
            unfold rlC
            rw [ne2 (hpb h) (by omega)]
            exact rkF_c _ _ (fun j j0 j1 => ruC_c (fun c c0 c1 => ne2 c (by omega)))
          exact this.trans (congrArg (fun x : Hl => x.2.1) a1)
        have q3 : rsC (su X (hpb h + 8) 0 0) (hpb h + 3) = (A.1 h).2.2.2.1.filter (fun v => decide (v.1 ≠ n)) := (rsC_c (fun c c0 c1 => nX c (by omega))).trans rw2
        have q4 : naC (su X (hpb h + 8) 0 0) (hpb h + 3) = (A.1 h).2.2.2.2.2.1 := by
          have : naC (su X (hpb h + 8) 0 0) (hpb h + 3) = naC X (hpb h + 3) := by unfold naC; rw [nX _ (by omega)]
          exact this.trans (rw3.trans (congrArg (fun x : Hl => x.2.2.2.2.2.1) a1))
        have q5 : stC (su X (hpb h + 8) 0 0) (hpb h + 8) = (A.1 h).2.2.2.2.2.2.1 := by
          have : stC (su X (hpb h + 8) 0 0) (hpb h + 8) = stC σ (hpb h + 8) := by
            unfold stC
            rw [g8 1 (by omega)]
            exact skF_c (ne2 (hpb h + 8 + 1) (by omega)) _ _
          exact this.trans (congrArg (fun x : Hl => x.2.2.2.2.2.2.1) a1)
        have q6 : byC (su X (hpb h + 8) 0 0) (hpb h + 8) = (A.1 h).2.2.2.2.2.2.2 := by
          have : byC (su X (hpb h + 8) 0 0) (hpb h + 8) = byC σ (hpb h + 8) := by unfold byC; rw [ne2 (hpb h + 8 + 2) (by omega)]
          exact this.trans (congrArg (fun x : Hl => x.2.2.2.2.2.2.2) a1)
        have q7 : su X (hpb h + 8) 0 0 (hpb h + 3) 1 = (A.1 h).2.2.2.2.1 := by
          rw [nX _ (by omega), f1]
          exact congrArg (fun x : Hl => x.2.2.2.2.1) a1
        unfold hlC rnC
        rw [q1, q2, q3, q4, q5, q6, q7, g80]
      have WX : WfHa (su X (hpb h + 8) 0 0) (hpb h) := ⟨by rw [ne2 _ (by omega)]; exact w0, by rw [ne2 _ (by omega)]; exact w1, by rw [ne2 _ (by omega)]; exact w2, rw1.c (fun c c0 c1 => nX c (by omega)), ⟨by rw [g80]; omega, by rw [g8 1 (by omega)]; exact w4.2.1, by rw [ne2 _ (by omega)]; exact w4.2.2.1, by rw [ne2 _ (by omega)]; exact w4.2.2.2⟩, w5.c (by rw [ne2 _ (by omega)]) (ne2 _ (by omega)) (ne2 _ (by omega)), fun j hj => (w6 j hj).c (fun c c0 c1 => ne2 c (by omega))⟩
      have kp := frX.kp h2
      have frX0 : su X (hpb h + 8) 0 0 (hpb h) 0 = σ (hpb h) 0 := by rw [ne2 _ (by omega)]
      have pl8 : ∀ (u : Bool × Nat × Nat × Int) (Q : Rs → HS → Prop), Ex sc d 88 0 [some (vR 0), some (vI h), some (vI n), none, none] [] (wH σ u) Q ↔ Q (.inl (some (vI (1)))) (wH (su X (hpb h + 8) 0 0) u) := by
        intro u Q
        simp (disch := first | assumption | omega | exact notL_I | exact notL_N | exact notL_R | exact catS_le (Nat.le_of_ble_eq_true rfl) | exact Nat.le_of_ble_eq_true rfl | exact ooRo (by assumption) | exact ooAt (by assumption) | exact ooRu (by assumption) | exact ooLo (by assumption) | exact ooHa (by assumption) | exact ooLe (by assumption) | exact ooFn | exact ooAn | exact ooPa | exact ooTo | exact ooWa | exact ooCh | rfl) only [x88_0, x88_1, x88_2, x88_5, x88_6, x88_7, x88_10, x88_11, x88_14, x88_16, x88_18, x88_19, x88_22, x88_23, x88_24, x88_25, x88_28, x88_30, x88_33, x88_34, x88_37, x88_38, x88_41, x88_42, ha, gHa_rows, gHa_log, po, rm, pLo_state, Kc_some, Kc_none, if_pos, if_neg, ↓reduceIte, not_true_eq_false, not_false_eq_true]
      have up := kp.up h2
      have V1 := Vr.up up
      generalize su X (hpb h + 8) 0 0 = Y at *
      have kH : okH ((A.1 h).1, (A.1 h).2.1, 0, (A.1 h).2.2.2.1.filter (fun v => decide (v.1 ≠ n)), (A.1 h).2.2.2.2) := ⟨k.1, k.2.1, k.2.2.1, k.2.2.2.1, k.2.2.2.2.1, okS_sub k.2.2.2.2.2.1 List.filter_sublist, ⟨by show (0 : Int) ≤ 0; decide, by show (0 : Int) ≤ 3; decide⟩⟩
      have V0 := V1.th (x := 0)
      have W0 := V0.2.1.1
      have rS0 : rsR (su Y 373 0 0) h = (A.1 h).2.2.2.1 := congrArg (fun x : Hl => x.2.2.2.1) (V0.1 h h0 h2)
      have me := rs_mem _ _ w (by rw [show rsF (su Y 373 0 0) h (su Y 373 0 0 381 h).toNat 0 = (A.1 h).2.2.2.1 from rS0]; exact List.mem_of_getElem? pw)
      have wnY := W0.nxt h0 (show h ≤ 4 by omega)
      rw [wn'] at me
      obtain ⟨m1, m2, m3, -⟩ := me
      have e381Y : Y 381 h = σ 381 h := by rw [up 381 (by omega)]
      have n381Y : su Y 373 0 0 381 h = σ 381 h := by rw [su_ne (by omega)]; exact e381Y
      obtain ⟨M1, r1⟩ := su7_v (h := h) (n := n) W0 h0 (show h ≤ 4 by omega) m1 (by omega)
      obtain ⟨M2, r2⟩ := Mf.st (h := h) (x := 0) M1.2.2.2.1 h0 (by omega) (by omega) (by omega)
      have M := M1.trans M2
      have it := fun u Q => s_isThere (sc := sc) (σ := su Y 373 0 0) (u := u) (Q := Q) (d := d - 1) (h := h) (n := n) h0 (by omega) m1 (by omega) (W0.thr h0 (by omega) m1 (by omega))
      simp only [if_pos m3] at it
      simp only [if_pos (show 0 ≤ n ∧ n ≤ σ 381 h - 1 by omega)] at is1
      have z0 : su (su (su Y 373 0 0) 377 (200 * h + n) 0) 382 h 0 373 0 = 0 := by rw [M.2.2.2.2, su_eq]
      have HZ : hlR (su (su (su Y 373 0 0) 377 (200 * h + n) 0) 382 h 0) h = ((A.1 h).1, (A.1 h).2.1, 0, (A.1 h).2.2.2.1.filter (fun v => decide (v.1 ≠ n)), (A.1 h).2.2.2.2) := by
        have q1 : coR (su (su (su Y 373 0 0) 377 (200 * h + n) 0) 382 h 0) h = (A.1 h).1 := M.co.trans (congrArg (fun x : Hl => x.1) (V0.1 h h0 h2))
        have q2 : rlR (su (su (su Y 373 0 0) 377 (200 * h + n) 0) 382 h 0) h = (A.1 h).2.1 := M.rl.trans (congrArg (fun x : Hl => x.2.1) (V0.1 h h0 h2))
        have q3 : (rnR (su Y 373 0 0) h).2 = (A.1 h).2.2.2.2 := congrArg (fun x : Hl => x.2.2.2.2) (V0.1 h h0 h2)
        unfold hlR
        rw [q1, q2, r2, r1, rS0, q3, su_eq]
      have K := (Kp.th (h := h) V1.2.1.1).trans (M.kp (fun z => by rw [su_ne (by omega), su_ne (by omega)]; exact z))
      refine Lk.ok (v := 1) ⟨by decide, by decide⟩ (o.st (h := h) kH) (Vc.h h0 h2 kp WX HX (by rw [frX0]; exact a3)) (V1.h K HZ) K.1.2.2.2.2.2.2.2.2.2 z0 pl8 (fun u Q => ?_)
      have ry' := ry Y
      have fa' := fa Y
      simp (disch := first | omega | exact notL_I | exact notL_N | exact notL_R | exact oM | exact catS_le (Nat.le_of_ble_eq_true rfl) | exact Nat.le_of_ble_eq_true rfl | rfl) only [x224_0, x224_1, x224_2, x224_5, x224_8, x224_11, x224_12, x224_13, x224_14, x224_17, x224_18, x224_19, x224_20, x224_21, x224_24, x224_27, x224_28, x224_29, x224_30, x224_33, x224_36, x224_37, x224_38, x224_39, x224_42, x224_45, x224_46, x224_47, x224_48, x224_49, x224_50, x224_51, x224_52, x224_55, x224_56, x224_57, x224_58, x224_59, ry', fa', gM_nextRow, RM_nextRow, n381Y, is1, it, gM_there, WM_there, gM_state, WM_state, Kc_some, if_pos, if_neg, ↓reduceIte, not_true_eq_false, not_false_eq_true]
  · have rn := r_no (sc := sc) (d := d - 1) (σ := σ) (h := h) (by omega) hh hr
    have fa := fun u Q => s_fails (sc := sc) (σ := σ) (u := u) (Q := Q) (d := d - 1) (b := 1) (Or.inr rfl)
    refine Lk.no V (Or.inl ⟨rfl, by decide⟩) (fun u Q => ?_) (fun u Q => ?_)
    · have nh := fun u Q => s_noHallC (sc := sc) (σ := σ) (d := d - 1) (u := u) (Q := Q) hh hr
      simp (disch := first | assumption | omega | exact notL_I | exact notL_N | exact notL_R | exact catS_le (Nat.le_of_ble_eq_true rfl) | exact Nat.le_of_ble_eq_true rfl | exact ooRo (by assumption) | exact ooAt (by assumption) | exact ooRu (by assumption) | exact ooLo (by assumption) | exact ooHa (by assumption) | exact ooLe (by assumption) | exact ooFn | exact ooAn | exact ooPa | exact ooTo | exact ooWa | exact ooCh | rfl) only [x88_0, x88_1, x88_2, x88_5, x88_6, x88_7, x88_10, x88_11, x88_14, x88_16, x88_18, x88_19, x88_22, x88_23, x88_24, x88_25, x88_28, x88_30, x88_33, x88_34, x88_37, x88_38, x88_41, x88_42, nh]
      exact thrK rfl rfl
    · simp (disch := first | omega | exact notL_I | exact notL_N | exact notL_R | exact oM | exact catS_le (Nat.le_of_ble_eq_true rfl) | exact Nat.le_of_ble_eq_true rfl | rfl) only [x224_0, x224_1, x224_2, x224_5, x224_8, x224_11, x224_12, x224_13, x224_14, x224_17, x224_18, x224_19, x224_20, x224_21, x224_24, x224_27, x224_28, x224_29, x224_30, x224_33, x224_36, x224_37, x224_38, x224_39, x224_42, x224_45, x224_46, x224_47, x224_48, x224_49, x224_50, x224_51, x224_52, x224_55, x224_56, x224_57, x224_58, x224_59, rn, fa, Kc_some, if_pos, if_neg, ↓reduceIte, not_true_eq_false, not_false_eq_true]
      rfl
end Od
