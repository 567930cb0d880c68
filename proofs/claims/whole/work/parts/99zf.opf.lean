/-! a row is put, both: the call -/
theorem okS_put {C : Int → Int} {s : Rn} {g : At} (h : okS C s) (hg : okW C (s.2.1, g)) (hl : s.1.length < 40) (hn : s.2.1 < 200) : okS C (s.1 ++ [(s.2.1, g)], s.2.1 + 1, mkU s.2.2.1 g, s.2.2.2) := by
  obtain ⟨s1, s2, s3, s4, s5, s6, s7⟩ := h
  have mk := fun k => mks_ge (k := k) [g] s.2.2.1
  refine ⟨fun w hw => ?_, srt_app s2 (fun w hw => (s3 w hw).2), fun w hw => ?_, ?_, ?_, fun k => ?_, fun w hw k k0 hk => ?_⟩
  · rcases List.mem_append.mp hw with h | h
    · exact s1 w h
    · rw [List.mem_singleton.mp h]
      exact hg
  · rcases List.mem_append.mp hw with h | h
    · have := s3 w h
      exact ⟨this.1, by show w.1 < s.2.1 + 1; omega⟩
    · rw [List.mem_singleton.mp h]
      exact ⟨by show 0 ≤ s.2.1; omega, by show s.2.1 < s.2.1 + 1; omega⟩
  · show 0 ≤ s.2.1 + 1 ∧ s.2.1 + 1 ≤ 200
    omega
  · show (s.1 ++ [(s.2.1, g)]).length ≤ 40
    rw [List.length_append, List.length_singleton]
    omega
  · exact (mk k s6).1 k
  · rcases List.mem_append.mp hw with h | h
    · exact (mk k s6).2.1 (s7 w h k k0 hk)
    · rw [List.mem_singleton.mp h] at hk
      exact (mk k s6).2.2 _ (List.mem_singleton.mpr rfl) k0 hk
section Og
variable {sc : Scr} {d : Nat} {σ τ X : St} {A : AS}
set_option maxHeartbeats 1000000 in
theorem op_put {h t x y z : Int} (hd : 100 ≤ d) (hh : inR h) (ht : inR t) (hx : inR x) (hy : inR y) (hz : inR z) (V : VV A σ) : Lk sc d 84 [some (vR 0), some (vI h), some (vI t), some (vI x), some (vI y), some (vI z), none, none, none, none, none, none] 222 [some (vR 373), some (vI h), some (vI t), some (vI x), some (vI y), some (vI z), none, none] σ := by
  obtain ⟨Vc, Vr, o⟩ := id V
  by_cases hr : 0 ≤ h ∧ h ≤ 2
  · obtain ⟨h0, h2⟩ := hr
    have ob := hpb_o h0 h2
    have hb := hpb_r h2
    have orr := ob.rows
    have ol := ob.log
    have k := o.1 h h0 h2
    obtain ⟨a1, a2, a3⟩ := Vc.1 h h0 h2
    have eC : coC σ (hpb h) = (A.1 h).1 := congrArg (fun x : Hl => x.1) a1
    have eS : rsC σ (hpb h + 3) = (A.1 h).2.2.2.1 := congrArg (fun x : Hl => x.2.2.2.1) a1
    have e1 : σ (hpb h + 3) 1 = (A.1 h).2.2.2.2.1 := congrArg (fun x : Hl => x.2.2.2.2.1) a1
    have c3 := k.1 t
    by_cases hz0 : (A.1 h).1 t = 0
    · -- no such table
      have ha := fun u Q => s_hallAt (sc := sc) (σ := σ) (d := d - 1) (u := u) (Q := Q) h0 h2
      have co := fun u Q => s_colsC (sc := sc) (σ := σ) (d := d - 1) (u := u) (Q := Q) (b := hpb h) (t := t) ob ht
      rw [eC, hz0] at co
      have ry := r_yes (sc := sc) (d := d - 1) (σ := σ) (h := h) (by omega) h0 h2
      have fa := fun u Q => s_fails (sc := sc) (σ := σ) (u := u) (Q := Q) (d := d - 1) (b := 0) (Or.inl rfl)
      have is1 := fun u Q => s_isIn (sc := sc) (σ := su σ 373 0 0) (u := u) (Q := Q) (d := d - 1) (v := t) (a := 0) (b := 25) ht ⟨by decide, by decide⟩ ⟨by decide, by decide⟩
      refine Lk.eq V (v := -1) ⟨by decide, by decide⟩ (fun u Q => ?_) (fun u Q => ?_)
      · simp (disch := first | assumption | omega | exact notL_I | exact notL_N | exact notL_R | exact catS_le (Nat.le_of_ble_eq_true rfl) | exact Nat.le_of_ble_eq_true rfl | exact ooRo (by assumption) | exact ooAt (by assumption) | exact ooRu (by assumption) | exact ooLo (by assumption) | exact ooHa (by assumption) | exact ooLe (by assumption) | exact ooFn | exact ooAn | exact ooPa | exact ooTo | exact ooWa | exact ooCh | rfl) only [x84_0, x84_1, x84_2, x84_5, x84_7, x84_9, x84_10, x84_13, x84_15, x84_17, x84_20, x84_21, x84_22, x84_24, x84_25, x84_28, x84_30, x84_33, x84_34, x84_36, x84_38, x84_39, x84_42, x84_44, x84_47, x84_48, x84_50, x84_51, x84_54, x84_57, x84_59, x84_60, x84_63, x84_65, x84_68, x84_71, x84_73, x84_74, x84_77, x84_79, x84_82, x84_85, x84_86, x84_89, x84_92, x84_93, x84_94, x84_96, x84_98, x84_101, x84_103, x84_105, x84_106, x84_109, x84_111, x84_114, x84_116, x84_119, x84_120, x84_122, x84_125, x84_126, x84_127, x84_129, x84_131, x84_134, x84_136, x84_138, x84_139, x84_142, x84_144, x84_147, x84_148, x84_151, x84_153, ha, co, Kc_some, if_pos, if_neg, ↓reduceIte, not_true_eq_false, not_false_eq_true]
      · by_cases hi : 0 ≤ t ∧ t ≤ 25
        · simp only [if_pos hi] at is1
          have V0 := Vr.th (x := 0)
          have eR : coR (su σ 373 0 0) h = (A.1 h).1 := congrArg (fun x : Hl => x.1) (V0.1 h h0 h2)
          have cr := fun u Q => s_colsOf (sc := sc) (σ := su σ 373 0 0) (u := u) (Q := Q) (d := d - 1) (h := h) (t := t) h0 (by omega) hi.1 hi.2
          rw [← coR_in (σ := su σ 373 0 0) (h := h) hi.1 hi.2, eR, hz0] at cr
          simp (disch := first | omega | exact notL_I | exact notL_N | exact notL_R | exact oM | exact catS_le (Nat.le_of_ble_eq_true rfl) | exact Nat.le_of_ble_eq_true rfl | rfl) only [x222_0, x222_1, x222_2, x222_5, x222_8, x222_11, x222_12, x222_13, x222_14, x222_15, x222_17, x222_20, x222_23, x222_24, x222_25, x222_26, x222_29, x222_32, x222_33, x222_34, x222_35, x222_36, x222_37, x222_40, x222_42, x222_43, x222_46, x222_49, x222_51, x222_52, x222_55, x222_57, x222_60, x222_63, x222_65, x222_66, x222_69, x222_71, x222_74, x222_77, x222_78, x222_80, x222_81, x222_82, x222_83, x222_85, x222_87, x222_90, x222_92, x222_94, x222_95, x222_98, x222_100, x222_101, x222_102, x222_103, x222_106, x222_108, x222_111, x222_112, x222_115, x222_116, x222_117, x222_120, x222_123, x222_124, x222_125, x222_126, x222_129, x222_130, x222_131, x222_132, x222_133, x222_134, x222_135, x222_136, x222_138, x222_139, x222_142, x222_144, x222_147, x222_148, x222_150, x222_151, x222_154, x222_156, x222_159, x222_160, x222_163, ry, fa, is1, cr, Kc_some, if_pos, if_neg, ↓reduceIte, not_true_eq_false, not_false_eq_true]
        · simp only [if_neg hi] at is1
          simp (disch := first | omega | exact notL_I | exact notL_N | exact notL_R | exact oM | exact catS_le (Nat.le_of_ble_eq_true rfl) | exact Nat.le_of_ble_eq_true rfl | rfl) only [x222_0, x222_1, x222_2, x222_5, x222_8, x222_11, x222_12, x222_13, x222_14, x222_15, x222_17, x222_20, x222_23, x222_24, x222_25, x222_26, x222_29, x222_32, x222_33, x222_34, x222_35, x222_36, x222_37, x222_40, x222_42, x222_43, x222_46, x222_49, x222_51, x222_52, x222_55, x222_57, x222_60, x222_63, x222_65, x222_66, x222_69, x222_71, x222_74, x222_77, x222_78, x222_80, x222_81, x222_82, x222_83, x222_85, x222_87, x222_90, x222_92, x222_94, x222_95, x222_98, x222_100, x222_101, x222_102, x222_103, x222_106, x222_108, x222_111, x222_112, x222_115, x222_116, x222_117, x222_120, x222_123, x222_124, x222_125, x222_126, x222_129, x222_130, x222_131, x222_132, x222_133, x222_134, x222_135, x222_136, x222_138, x222_139, x222_142, x222_144, x222_147, x222_148, x222_150, x222_151, x222_154, x222_156, x222_159, x222_160, x222_163, ry, fa, is1, Kc_some, if_pos, if_neg, ↓reduceIte, not_true_eq_false, not_false_eq_true]
    · have hi : 0 ≤ t ∧ t ≤ 25 := by
        by_cases e : 0 ≤ t ∧ t ≤ 25
        · exact e
        · exact absurd (k.2.1 t e) hz0
      have cc := c_chk (sc := sc) (d := d) (σ := σ) (h := h) (t := t) (x := x) (y := y) (z := z) (m := (A.1 h).1 t) (by omega) h0 h2 ht hx hy hz (by rw [eC]) (by omega) (by omega)
      have eR : ∀ S : St, VR A S → S 374 (26 * h + t) = (A.1 h).1 t := fun S VS => by
        rw [← coR_in (σ := S) (h := h) hi.1 hi.2]
        exact congrFun (congrArg (fun x : Hl => x.1) (VS.1 h h0 h2)) t
      have mc := fun (S : St) (VS : VR A S) => m_chkP (sc := sc) (d := d) (X := S) (h := h) (t := t) (x := x) (y := y) (z := z) (m := (A.1 h).1 t) (by omega) h0 h2 hi hx hy hz (eR _ (VS.th (x := 0))) (by omega) (by omega)
      by_cases hT : tmOk ((A.1 h).1 t) x y z
      · have nb := nrm_b hT
        have wro := a2.2.2.2.1
        have fi := fun u Q => s_findC (sc := sc) (d := d - 1) (σ := σ) (u := u) (Q := Q) (r := hpb h + 3) (t := t) (x := x) (y := (nrm ((A.1 h).1 t) x y z).2.1) (z := (nrm ((A.1 h).1 t) x y z).2.2) orr ht hx ⟨by omega, by omega⟩ ⟨by omega, by omega⟩ wro
        rw [eS] at fi
        have eg : (t, x, (nrm ((A.1 h).1 t) x y z).2.1, (nrm ((A.1 h).1 t) x y z).2.2) = (t, nrm ((A.1 h).1 t) x y z) := rfl
        rw [eg] at fi
        have el := rsC_len (σ := σ) (r := hpb h + 3) wro.1.1
        rw [eS] at el
        have w40 := wro.1
        have wn := wro.2.1
        have mf := fun (S : St) (VS : VR A S) u Q => s_find (sc := sc) (d := d - 1) (σ := su S 373 0 0) (u := u) (Q := Q) (h := h) (t := t) (x := x) (y := y) (z := z) (VS.th (x := 0)).2.1.1 (by omega) h0 (by omega) hi.1 hi.2 hx hy hz
        have rS : ∀ S : St, VR A S → rsR S h = (A.1 h).2.2.2.1 := fun S VS => congrArg (fun x : Hl => x.2.2.2.1) (VS.1 h h0 h2)
        have r81 : ∀ S : St, VR A S → S 381 h = (A.1 h).2.2.2.2.1 := fun S VS => congrArg (fun x : Hl => x.2.2.2.2.1) (VS.1 h h0 h2)
        by_cases hp : posF (fun w => decide (w.2 = (t, nrm ((A.1 h).1 t) x y z))) (A.1 h).2.2.2.1 0 = -1
        · have hf := pos_find.mp hp
          rw [hp] at fi
          have ad := fun u Q => s_addC (sc := sc) (d := d - 1) (σ := σ) (u := u) (Q := Q) (r := hpb h + 3) (t := t) (x := x) (y := (nrm ((A.1 h).1 t) x y z).2.1) (z := (nrm ((A.1 h).1 t) x y z).2.2) orr hx ⟨by omega, by omega⟩ ⟨by omega, by omega⟩ wro (by omega)
          by_cases hroom : σ (hpb h + 3) 0 + 1 ≤ 40 ∧ σ (hpb h + 3) 1 + 1 ≤ 200
          · simp only [if_pos hroom] at ad
            have aw := adS_wf (t := t) (x := x) (y := (nrm ((A.1 h).1 t) x y z).2.1) (z := (nrm ((A.1 h).1 t) x y z).2.2) wro hroom hi nb.1 nb.2.1 nb.2.2
            have ar := adS_rs (t := t) (x := x) (y := (nrm ((A.1 h).1 t) x y z).2.1) (z := (nrm ((A.1 h).1 t) x y z).2.2) wro
            have an := adS_na (σ := σ) (r := hpb h + 3) (t := t) nb.1 nb.2.1 nb.2.2
            obtain ⟨fr, f0, -, -, -, -⟩ := adS_r (σ := σ) (r := hpb h + 3) (t := t) (x := x) (y := (nrm ((A.1 h).1 t) x y z).2.1) (z := (nrm ((A.1 h).1 t) x y z).2.2)
            have f1 := f0 1
            rw [if_pos rfl] at f1
            generalize adS σ (hpb h + 3) t x (nrm ((A.1 h).1 t) x y z).2.1 (nrm ((A.1 h).1 t) x y z).2.2 = Y at *
            obtain ⟨y1, y2, y3, y4⟩ := hl_rows a2 fr aw
            have eN : naC σ (hpb h + 3) = (A.1 h).2.2.2.2.2.1 := congrArg (fun x : Hl => x.2.2.2.2.2.1) a1
            have eRl : rlC σ (hpb h) = (A.1 h).2.1 := congrArg (fun x : Hl => x.2.1) a1
            have eSt : stC σ (hpb h + 8) = (A.1 h).2.2.2.2.2.2.1 := congrArg (fun x : Hl => x.2.2.2.2.2.2.1) a1
            have eBy : byC σ (hpb h + 8) = (A.1 h).2.2.2.2.2.2.2 := congrArg (fun x : Hl => x.2.2.2.2.2.2.2) a1
            rw [ar, an, f1, eC, eRl, eSt, eBy, eS, eN, e1, eg] at y2
            have kp := y3.kp h2
            have cls : ∀ (u : Bool × Nat × Nat × Int) (Q : Rs → HS → Prop), Ex sc d 84 0 [some (vR 0), some (vI h), some (vI t), some (vI x), some (vI y), some (vI z), none, none, none, none, none, none] [] (wH σ u) Q ↔ Q (.inl (some (vI (σ (hpb h + 3) 1 + 1 - 1)))) (wH (su Y (hpb h + 8) 0 0) u) := by
              intro u Q
              rw [(cc u Q).1 hT, x84_87]
              simp (disch := first | assumption | omega | exact notL_I | exact notL_N | exact notL_R | exact catS_le (Nat.le_of_ble_eq_true rfl) | exact Nat.le_of_ble_eq_true rfl | exact ooRo (by assumption) | exact ooAt (by assumption) | exact ooRu (by assumption) | exact ooLo (by assumption) | exact ooHa (by assumption) | exact ooLe (by assumption) | exact ooFn | exact ooAn | exact ooPa | exact ooTo | exact ooWa | exact ooCh | rfl) only [x84_0, x84_1, x84_2, x84_5, x84_7, x84_9, x84_10, x84_13, x84_15, x84_17, x84_20, x84_21, x84_22, x84_24, x84_25, x84_28, x84_30, x84_33, x84_34, x84_36, x84_38, x84_39, x84_42, x84_44, x84_47, x84_48, x84_50, x84_51, x84_54, x84_57, x84_59, x84_60, x84_63, x84_65, x84_68, x84_71, x84_73, x84_74, x84_77, x84_79, x84_82, x84_85, x84_86, x84_89, x84_92, x84_93, x84_94, x84_96, x84_98, x84_101, x84_103, x84_105, x84_106, x84_109, x84_111, x84_114, x84_116, x84_119, x84_120, x84_122, x84_125, x84_126, x84_127, x84_129, x84_131, x84_134, x84_136, x84_138, x84_139, x84_142, x84_144, x84_147, x84_148, x84_151, x84_153, gHa_rows, gHa_log, fi, ad, pLo_state, Kc_some, if_pos, if_neg, ↓reduceIte, not_true_eq_false, not_false_eq_true]
            have V1 := Vr.up (kp.up h2)
            rw [← y4] at a3
            generalize su Y (hpb h + 8) 0 0 = Z at *
            have V0 := V1.th (x := 0)
            have W0 := V0.2.1.1
            obtain ⟨M2, r2⟩ := Mf.st (h := h) (x := 0) (σ := su Z 373 0 0) W0 h0 (by omega) (by omega) (by omega)
            have e81 : su (su Z 373 0 0) 382 h 0 381 h = (A.1 h).2.2.2.2.1 := by rw [su_ne (by omega)]; exact r81 _ V0
            have e74 : su (su Z 373 0 0) 382 h 0 374 (26 * h + t) = (A.1 h).1 t := by rw [su_ne (by omega)]; exact eR _ V0
            have tm0 : isTm 0 := Or.inl ⟨by decide, by decide⟩
            have ty : isTm (if 1 < (A.1 h).1 t then y else 0) := by
              split
              · rename_i e; exact hT.2.1 (by omega)
              · exact tm0
            have tz : isTm (if 2 < (A.1 h).1 t then z else 0) := by
              split
              · rename_i e; exact hT.2.2 (by omega)
              · exact tm0
            obtain ⟨ρ, q1, q2⟩ := s_addR (sc := sc) (d := d - 1) (σ := su (su Z 373 0 0) 382 h 0) (h := h) (t := t) (x := x) (y := if 1 < (A.1 h).1 t then y else 0) (z := if 2 < (A.1 h).1 t then z else 0) (by omega) M2.2.2.2.1 h0 (by omega) (by rw [e81]; omega) hi.1 hi.2 (by rw [e74]; omega) hT.1 ty tz
            unfold RnA at q2
            have M3 := q1.mf M2.2.2.2.1 h0 (by omega) (by rw [e81]; omega) hi.1 hi.2 hT.1 ty tz
            have M := M2.trans M3
            have rn3 := q1.rn M2.2.2.2.1 h0 (by omega) (by rw [e81]; omega) hi.1 hi.2 hT.1 ty tz
            rw [e74, nrm_0, e81] at rn3
            have u1 : rsR (su (su Z 373 0 0) 382 h 0) h = (A.1 h).2.2.2.1 := (congrArg Prod.fst r2).trans (rS _ V0)
            have u2 : naR (su (su Z 373 0 0) 382 h 0) h = (A.1 h).2.2.2.2.2.1 := (congrArg (fun x : Rn => x.2.2.1) r2).trans (congrArg (fun x : Hl => x.2.2.2.2.2.1) (V0.1 h h0 h2))
            have u3 : stR (su (su Z 373 0 0) 382 h 0) h = (A.1 h).2.2.2.2.2.2.1 := (congrArg (fun x : Rn => x.2.2.2.1) r2).trans (congrArg (fun x : Hl => x.2.2.2.2.2.2.1) (V0.1 h h0 h2))
            have u4 : byR (su (su Z 373 0 0) 382 h 0) h = (A.1 h).2.2.2.2.2.2.2 := (congrArg (fun x : Rn => x.2.2.2.2) r2).trans (congrArg (fun x : Hl => x.2.2.2.2.2.2.2) (V0.1 h h0 h2))
            rw [u1, u2, u3, u4] at rn3
            have HZ : hlR ρ h = ((A.1 h).1, (A.1 h).2.1, 0, (A.1 h).2.2.2.1 ++ [((A.1 h).2.2.2.2.1, t, nrm ((A.1 h).1 t) x y z)], (A.1 h).2.2.2.2.1 + 1, mkU (A.1 h).2.2.2.2.2.1 (t, nrm ((A.1 h).1 t) x y z), (A.1 h).2.2.2.2.2.2.1, (A.1 h).2.2.2.2.2.2.2) := by
              have w1 : coR ρ h = (A.1 h).1 := M.co.trans (congrArg (fun x : Hl => x.1) (V0.1 h h0 h2))
              have w2 : rlR ρ h = (A.1 h).2.1 := M.rl.trans (congrArg (fun x : Hl => x.2.1) (V0.1 h h0 h2))
              have w3 : ρ 382 h = 0 := by rw [q1.1 382 (by omega) (by omega) (by omega) (by omega) (by omega) (by omega), su_eq]
              unfold hlR
              rw [w1, w2, w3, rn3]
            have kW : okW (A.1 h).1 ((A.1 h).2.2.2.2.1, t, nrm ((A.1 h).1 t) x y z) := ⟨hi.1, hi.2, by show 1 ≤ (A.1 h).1 t; omega, x, (if 1 < (A.1 h).1 t then y else 0), (if 2 < (A.1 h).1 t then z else 0), hT.1, ty, tz, nrm_0.symm⟩
            have kH : okH ((A.1 h).1, (A.1 h).2.1, 0, (A.1 h).2.2.2.1 ++ [((A.1 h).2.2.2.2.1, t, nrm ((A.1 h).1 t) x y z)], (A.1 h).2.2.2.2.1 + 1, mkU (A.1 h).2.2.2.2.2.1 (t, nrm ((A.1 h).1 t) x y z), (A.1 h).2.2.2.2.2.2.1, (A.1 h).2.2.2.2.2.2.2) := ⟨k.1, k.2.1, k.2.2.1, k.2.2.2.1, k.2.2.2.2.1, okS_put k.2.2.2.2.2.1 kW (by omega) (by omega), ⟨by show (0 : Int) ≤ 0; decide, by show (0 : Int) ≤ 3; decide⟩⟩
            have f393 : ρ 393 = Z 393 := by rw [q1.1 393 (by omega) (by omega) (by omega) (by omega) (by omega) (by omega), su_ne (by omega), su_ne (by omega)]
            have K := (Kp.th (h := h) V1.2.1.1).trans (M.kp (fun z => by rw [f393]; rw [su_ne (by omega)] at z; exact z))
            have z0 : ρ 373 0 = 0 := by rw [M.2.2.2.2, su_eq]
            have rs := fun u Q => s_rowSum (sc := sc) (σ := su Z 373 0 0) (u := u) (Q := Q) (d := d - 1) (h := h) W0 h0 (by omega)
            rw [rS _ V0] at rs
            have fd := mf Z V1
            rw [rS _ V0, eR _ V0, hf] at fd
            have fd' : ∀ (u : Bool × Nat × Nat × Int) (Q : Rs → HS → Prop), Ex sc (d - 1) 200 0 [some (vR 373), some (vI h), some (vI t), some (vI x), some (vI y), some (vI z), none, none, none] [] (wH (su Z 373 0 0) u) Q ↔ Q (.inl (some (vI (-1)))) (wH (su Z 373 0 0) u) := fd
            have n81 := r81 _ V0
            rw [e81] at q2
            have ev : σ (hpb h + 3) 1 + 1 - 1 = (A.1 h).2.2.2.2.1 := by omega
            rw [ev] at cls
            refine Lk.ok (v := (A.1 h).2.2.2.2.1) ⟨by omega, by omega⟩ (o.st (h := h) kH) (Vc.h h0 h2 kp y1 y2 a3) (V1.h K HZ) K.1.2.2.2.2.2.2.2.2.2 z0 cls (fun u Q => ?_)
            rw [(mc Z V1 u Q).1 hT, x222_79]
            rcases (show (A.1 h).1 t = 1 ∨ (A.1 h).1 t = 2 ∨ (A.1 h).1 t = 3 by omega) with e | e | e
            · rw [e, if_neg (by omega), if_neg (by omega)] at q2
              rw [e]
              simp (disch := first | omega | exact notL_I | exact notL_N | exact notL_R | exact oM | exact catS_le (Nat.le_of_ble_eq_true rfl) | exact Nat.le_of_ble_eq_true rfl | rfl) only [x222_0, x222_1, x222_2, x222_5, x222_8, x222_11, x222_12, x222_13, x222_14, x222_15, x222_17, x222_20, x222_23, x222_24, x222_25, x222_26, x222_29, x222_32, x222_33, x222_34, x222_35, x222_36, x222_37, x222_40, x222_42, x222_43, x222_46, x222_49, x222_51, x222_52, x222_55, x222_57, x222_60, x222_63, x222_65, x222_66, x222_69, x222_71, x222_74, x222_77, x222_78, x222_80, x222_81, x222_82, x222_83, x222_85, x222_87, x222_90, x222_92, x222_94, x222_95, x222_98, x222_100, x222_101, x222_102, x222_103, x222_106, x222_108, x222_111, x222_112, x222_115, x222_116, x222_117, x222_120, x222_123, x222_124, x222_125, x222_126, x222_129, x222_130, x222_131, x222_132, x222_133, x222_134, x222_135, x222_136, x222_138, x222_139, x222_142, x222_144, x222_147, x222_148, x222_150, x222_151, x222_154, x222_156, x222_159, x222_160, x222_163, fd', rs, gM_nextRow, RM_nextRow, n81, gM_state, WM_state, q2, Kc_some, if_pos, if_neg, ↓reduceIte, not_true_eq_false, not_false_eq_true]
            · rw [e, if_pos (by omega), if_neg (by omega)] at q2
              rw [e]
              simp (disch := first | omega | exact notL_I | exact notL_N | exact notL_R | exact oM | exact catS_le (Nat.le_of_ble_eq_true rfl) | exact Nat.le_of_ble_eq_true rfl | rfl) only [x222_0, x222_1, x222_2, x222_5, x222_8, x222_11, x222_12, x222_13, x222_14, x222_15, x222_17, x222_20, x222_23, x222_24, x222_25, x222_26, x222_29, x222_32, x222_33, x222_34, x222_35, x222_36, x222_37, x222_40, x222_42, x222_43, x222_46, x222_49, x222_51, x222_52, x222_55, x222_57, x222_60, x222_63, x222_65, x222_66, x222_69, x222_71, x222_74, x222_77, x222_78, x222_80, x222_81, x222_82, x222_83, x222_85, x222_87, x222_90, x222_92, x222_94, x222_95, x222_98, x222_100, x222_101, x222_102, x222_103, x222_106, x222_108, x222_111, x222_112, x222_115, x222_116, x222_117, x222_120, x222_123, x222_124, x222_125, x222_126, x222_129, x222_130, x222_131, x222_132, x222_133, x222_134, x222_135, x222_136, x222_138, x222_139, x222_142, x222_144, x222_147, x222_148, x222_150, x222_151, x222_154, x222_156, x222_159, x222_160, x222_163, fd', rs, gM_nextRow, RM_nextRow, n81, gM_state, WM_state, q2, Kc_some, if_pos, if_neg, ↓reduceIte, not_true_eq_false, not_false_eq_true]
            · rw [e, if_pos (by omega), if_pos (by omega)] at q2
              rw [e]
              simp (disch := first | omega | exact notL_I | exact notL_N | exact notL_R | exact oM | exact catS_le (Nat.le_of_ble_eq_true rfl) | exact Nat.le_of_ble_eq_true rfl | rfl) only [x222_0, x222_1, x222_2, x222_5, x222_8, x222_11, x222_12, x222_13, x222_14, x222_15, x222_17, x222_20, x222_23, x222_24, x222_25, x222_26, x222_29, x222_32, x222_33, x222_34, x222_35, x222_36, x222_37, x222_40, x222_42, x222_43, x222_46, x222_49, x222_51, x222_52, x222_55, x222_57, x222_60, x222_63, x222_65, x222_66, x222_69, x222_71, x222_74, x222_77, x222_78, x222_80, x222_81, x222_82, x222_83, x222_85, x222_87, x222_90, x222_92, x222_94, x222_95, x222_98, x222_100, x222_101, x222_102, x222_103, x222_106, x222_108, x222_111, x222_112, x222_115, x222_116, x222_117, x222_120, x222_123, x222_124, x222_125, x222_126, x222_129, x222_130, x222_131, x222_132, x222_133, x222_134, x222_135, x222_136, x222_138, x222_139, x222_142, x222_144, x222_147, x222_148, x222_150, x222_151, x222_154, x222_156, x222_159, x222_160, x222_163, fd', rs, gM_nextRow, RM_nextRow, n81, gM_state, WM_state, q2, Kc_some, if_pos, if_neg, ↓reduceIte, not_true_eq_false, not_false_eq_true]
          · simp only [if_neg hroom] at ad
            have V0 := Vr.th (x := 0)
            have rs := fun u Q => s_rowSum (sc := sc) (σ := su σ 373 0 0) (u := u) (Q := Q) (d := d - 1) (h := h) V0.2.1.1 h0 (by omega)
            rw [rS _ V0] at rs
            have fd := mf σ Vr
            rw [rS _ V0, eR _ V0, hf] at fd
            have fd' : ∀ (u : Bool × Nat × Nat × Int) (Q : Rs → HS → Prop), Ex sc (d - 1) 200 0 [some (vR 373), some (vI h), some (vI t), some (vI x), some (vI y), some (vI z), none, none, none] [] (wH (su σ 373 0 0) u) Q ↔ Q (.inl (some (vI (-1)))) (wH (su σ 373 0 0) u) := fd
            have n81 := r81 _ V0
            refine Lk.eq V (v := -1) ⟨by decide, by decide⟩ (fun u Q => ?_) (fun u Q => ?_)
            · rw [(cc u Q).1 hT, x84_87]
              simp (disch := first | assumption | omega | exact notL_I | exact notL_N | exact notL_R | exact catS_le (Nat.le_of_ble_eq_true rfl) | exact Nat.le_of_ble_eq_true rfl | exact ooRo (by assumption) | exact ooAt (by assumption) | exact ooRu (by assumption) | exact ooLo (by assumption) | exact ooHa (by assumption) | exact ooLe (by assumption) | exact ooFn | exact ooAn | exact ooPa | exact ooTo | exact ooWa | exact ooCh | rfl) only [x84_0, x84_1, x84_2, x84_5, x84_7, x84_9, x84_10, x84_13, x84_15, x84_17, x84_20, x84_21, x84_22, x84_24, x84_25, x84_28, x84_30, x84_33, x84_34, x84_36, x84_38, x84_39, x84_42, x84_44, x84_47, x84_48, x84_50, x84_51, x84_54, x84_57, x84_59, x84_60, x84_63, x84_65, x84_68, x84_71, x84_73, x84_74, x84_77, x84_79, x84_82, x84_85, x84_86, x84_89, x84_92, x84_93, x84_94, x84_96, x84_98, x84_101, x84_103, x84_105, x84_106, x84_109, x84_111, x84_114, x84_116, x84_119, x84_120, x84_122, x84_125, x84_126, x84_127, x84_129, x84_131, x84_134, x84_136, x84_138, x84_139, x84_142, x84_144, x84_147, x84_148, x84_151, x84_153, gHa_rows, fi, ad, Kc_some, if_pos, if_neg, ↓reduceIte, not_true_eq_false, not_false_eq_true]
            · rw [(mc σ Vr u Q).1 hT, x222_79]
              by_cases e : ((A.1 h).2.2.2.1.length : Int) = 40
              · simp (disch := first | omega | exact notL_I | exact notL_N | exact notL_R | exact oM | exact catS_le (Nat.le_of_ble_eq_true rfl) | exact Nat.le_of_ble_eq_true rfl | rfl) only [x222_0, x222_1, x222_2, x222_5, x222_8, x222_11, x222_12, x222_13, x222_14, x222_15, x222_17, x222_20, x222_23, x222_24, x222_25, x222_26, x222_29, x222_32, x222_33, x222_34, x222_35, x222_36, x222_37, x222_40, x222_42, x222_43, x222_46, x222_49, x222_51, x222_52, x222_55, x222_57, x222_60, x222_63, x222_65, x222_66, x222_69, x222_71, x222_74, x222_77, x222_78, x222_80, x222_81, x222_82, x222_83, x222_85, x222_87, x222_90, x222_92, x222_94, x222_95, x222_98, x222_100, x222_101, x222_102, x222_103, x222_106, x222_108, x222_111, x222_112, x222_115, x222_116, x222_117, x222_120, x222_123, x222_124, x222_125, x222_126, x222_129, x222_130, x222_131, x222_132, x222_133, x222_134, x222_135, x222_136, x222_138, x222_139, x222_142, x222_144, x222_147, x222_148, x222_150, x222_151, x222_154, x222_156, x222_159, x222_160, x222_163, fd', rs, Kc_some, if_pos, if_neg, ↓reduceIte, not_true_eq_false, not_false_eq_true]
              · simp (disch := first | omega | exact notL_I | exact notL_N | exact notL_R | exact oM | exact catS_le (Nat.le_of_ble_eq_true rfl) | exact Nat.le_of_ble_eq_true rfl | rfl) only [x222_0, x222_1, x222_2, x222_5, x222_8, x222_11, x222_12, x222_13, x222_14, x222_15, x222_17, x222_20, x222_23, x222_24, x222_25, x222_26, x222_29, x222_32, x222_33, x222_34, x222_35, x222_36, x222_37, x222_40, x222_42, x222_43, x222_46, x222_49, x222_51, x222_52, x222_55, x222_57, x222_60, x222_63, x222_65, x222_66, x222_69, x222_71, x222_74, x222_77, x222_78, x222_80, x222_81, x222_82, x222_83, x222_85, x222_87, x222_90, x222_92, x222_94, x222_95, x222_98, x222_100, x222_101, x222_102, x222_103, x222_106, x222_108, x222_111, x222_112, x222_115, x222_116, x222_117, x222_120, x222_123, x222_124, x222_125, x222_126, x222_129, x222_130, x222_131, x222_132, x222_133, x222_134, x222_135, x222_136, x222_138, x222_139, x222_142, x222_144, x222_147, x222_148, x222_150, x222_151, x222_154, x222_156, x222_159, x222_160, x222_163, fd', rs, gM_nextRow, RM_nextRow, n81, Kc_some, if_pos, if_neg, ↓reduceIte, not_true_eq_false, not_false_eq_true]
        · obtain ⟨w, w1, w2⟩ := pos_num rfl hp
          obtain ⟨p0, p1, _⟩ := pos_some (A.1 h).2.2.2.1 0 _ rfl hp
          have okm := k.2.2.2.2.2.1.2.2.1 w (List.mem_of_getElem? w1)
          have k4 := k.2.2.2.2.2.1.2.2.2.1
          generalize posF (fun w => decide (w.2 = (t, nrm ((A.1 h).1 t) x y z))) (A.1 h).2.2.2.1 0 = p at *
          have gp := rsC_get (σ := σ) (r := hpb h + 3) (p := p) p0 (by omega)
          rw [eS, w1] at gp
          have ew : σ (hpb h + 3 + 1) p = w.1 := (congrArg Prod.fst (Option.some.inj gp)).symm
          have nu := fun u Q => s_numAt (sc := sc) (d := d - 1) (σ := σ) (u := u) (Q := Q) (r := hpb h + 3) (p := p) orr ⟨by omega, by omega⟩ wro
          simp only [if_pos (show 0 ≤ p ∧ p < σ (hpb h + 3) 0 by omega), ew] at nu
          have V0 := Vr.th (x := 0)
          have fd := mf σ Vr
          rw [rS _ V0, eR _ V0, w2] at fd
          have fd' : ∀ (u : Bool × Nat × Nat × Int) (Q : Rs → HS → Prop), Ex sc (d - 1) 200 0 [some (vR 373), some (vI h), some (vI t), some (vI x), some (vI y), some (vI z), none, none, none] [] (wH (su σ 373 0 0) u) Q ↔ Q (.inl (some (vI w.1))) (wH (su σ 373 0 0) u) := fd
          generalize w.1 = n at *
          refine Lk.eq V (v := n) ⟨by omega, by omega⟩ (fun u Q => ?_) (fun u Q => ?_)
          · rw [(cc u Q).1 hT, x84_87]
            simp (disch := first | assumption | omega | exact notL_I | exact notL_N | exact notL_R | exact catS_le (Nat.le_of_ble_eq_true rfl) | exact Nat.le_of_ble_eq_true rfl | exact ooRo (by assumption) | exact ooAt (by assumption) | exact ooRu (by assumption) | exact ooLo (by assumption) | exact ooHa (by assumption) | exact ooLe (by assumption) | exact ooFn | exact ooAn | exact ooPa | exact ooTo | exact ooWa | exact ooCh | rfl) only [x84_0, x84_1, x84_2, x84_5, x84_7, x84_9, x84_10, x84_13, x84_15, x84_17, x84_20, x84_21, x84_22, x84_24, x84_25, x84_28, x84_30, x84_33, x84_34, x84_36, x84_38, x84_39, x84_42, x84_44, x84_47, x84_48, x84_50, x84_51, x84_54, x84_57, x84_59, x84_60, x84_63, x84_65, x84_68, x84_71, x84_73, x84_74, x84_77, x84_79, x84_82, x84_85, x84_86, x84_89, x84_92, x84_93, x84_94, x84_96, x84_98, x84_101, x84_103, x84_105, x84_106, x84_109, x84_111, x84_114, x84_116, x84_119, x84_120, x84_122, x84_125, x84_126, x84_127, x84_129, x84_131, x84_134, x84_136, x84_138, x84_139, x84_142, x84_144, x84_147, x84_148, x84_151, x84_153, gHa_rows, fi, nu, Kc_some, if_pos, if_neg, ↓reduceIte, not_true_eq_false, not_false_eq_true]
          · rw [(mc σ Vr u Q).1 hT, x222_79]
            simp (disch := first | omega | exact notL_I | exact notL_N | exact notL_R | exact oM | exact catS_le (Nat.le_of_ble_eq_true rfl) | exact Nat.le_of_ble_eq_true rfl | rfl) only [x222_0, x222_1, x222_2, x222_5, x222_8, x222_11, x222_12, x222_13, x222_14, x222_15, x222_17, x222_20, x222_23, x222_24, x222_25, x222_26, x222_29, x222_32, x222_33, x222_34, x222_35, x222_36, x222_37, x222_40, x222_42, x222_43, x222_46, x222_49, x222_51, x222_52, x222_55, x222_57, x222_60, x222_63, x222_65, x222_66, x222_69, x222_71, x222_74, x222_77, x222_78, x222_80, x222_81, x222_82, x222_83, x222_85, x222_87, x222_90, x222_92, x222_94, x222_95, x222_98, x222_100, x222_101, x222_102, x222_103, x222_106, x222_108, x222_111, x222_112, x222_115, x222_116, x222_117, x222_120, x222_123, x222_124, x222_125, x222_126, x222_129, x222_130, x222_131, x222_132, x222_133, x222_134, x222_135, x222_136, x222_138, x222_139, x222_142, x222_144, x222_147, x222_148, x222_150, x222_151, x222_154, x222_156, x222_159, x222_160, x222_163, fd', Kc_some, if_pos, if_neg, ↓reduceIte, not_true_eq_false, not_false_eq_true]
      · refine Lk.eq V (v := -1) ⟨by decide, by decide⟩ (fun u Q => (cc u Q).2 hT) (fun u Q => (mc σ Vr u Q).2 hT)
  · have rn := r_no (sc := sc) (d := d - 1) (σ := σ) (h := h) (by omega) hh hr
    have fa := fun u Q => s_fails (sc := sc) (σ := σ) (u := u) (Q := Q) (d := d - 1) (b := 1) (Or.inr rfl)
    refine Lk.no V (Or.inl ⟨rfl, by decide⟩) (fun u Q => ?_) (fun u Q => ?_)
    · have nh := fun u Q => s_noHallC (sc := sc) (σ := σ) (d := d - 1) (u := u) (Q := Q) hh hr
      simp (disch := first | assumption | omega | exact notL_I | exact notL_N | exact notL_R | exact catS_le (Nat.le_of_ble_eq_true rfl) | exact Nat.le_of_ble_eq_true rfl | exact ooRo (by assumption) | exact ooAt (by assumption) | exact ooRu (by assumption) | exact ooLo (by assumption) | exact ooHa (by assumption) | exact ooLe (by assumption) | exact ooFn | exact ooAn | exact ooPa | exact ooTo | exact ooWa | exact ooCh | rfl) only [x84_0, x84_1, x84_2, x84_5, x84_7, x84_9, x84_10, x84_13, x84_15, x84_17, x84_20, x84_21, x84_22, x84_24, x84_25, x84_28, x84_30, x84_33, x84_34, x84_36, x84_38, x84_39, x84_42, x84_44, x84_47, x84_48, x84_50, x84_51, x84_54, x84_57, x84_59, x84_60, x84_63, x84_65, x84_68, x84_71, x84_73, x84_74, x84_77, x84_79, x84_82, x84_85, x84_86, x84_87, x84_89, x84_92, x84_93, x84_94, x84_96, x84_98, x84_101, x84_103, x84_105, x84_106, x84_109, x84_111, x84_114, x84_116, x84_119, x84_120, x84_122, x84_125, x84_126, x84_127, x84_129, x84_131, x84_134, x84_136, x84_138, x84_139, x84_142, x84_144, x84_147, x84_148, x84_151, x84_153, nh]
      exact thrK rfl rfl
    · simp (disch := first | omega | exact notL_I | exact notL_N | exact notL_R | exact oM | exact catS_le (Nat.le_of_ble_eq_true rfl) | exact Nat.le_of_ble_eq_true rfl | rfl) only [x222_0, x222_1, x222_2, x222_5, x222_8, x222_11, x222_12, x222_13, x222_14, x222_15, x222_17, x222_20, x222_23, x222_24, x222_25, x222_26, x222_29, x222_32, x222_33, x222_34, x222_35, x222_36, x222_37, x222_40, x222_42, x222_43, x222_46, x222_49, x222_51, x222_52, x222_55, x222_57, x222_60, x222_63, x222_65, x222_66, x222_69, x222_71, x222_74, x222_77, x222_78, x222_79, x222_80, x222_81, x222_82, x222_83, x222_85, x222_87, x222_90, x222_92, x222_94, x222_95, x222_98, x222_100, x222_101, x222_102, x222_103, x222_106, x222_108, x222_111, x222_112, x222_115, x222_116, x222_117, x222_120, x222_123, x222_124, x222_125, x222_126, x222_129, x222_130, x222_131, x222_132, x222_133, x222_134, x222_135, x222_136, x222_138, x222_139, x222_142, x222_144, x222_147, x222_148, x222_150, x222_151, x222_154, x222_156, x222_159, x222_160, x222_163, rn, fa, Kc_some, if_pos, if_neg, ↓reduceIte, not_true_eq_false, not_false_eq_true]
      rfl
end Og
