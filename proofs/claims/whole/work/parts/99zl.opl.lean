/-! halls are looked at, both -/
theorem ns_fold0 {L : List Rw} {s : Int → Int} (hs : ∀ k, 0 ≤ k → k < 100 → s k = 0) : tabF (L.foldl mkR s) 100 0 = nsL L := by
  unfold nsL
  refine tabF_b 100 0 (fun j a b => ?_)
  obtain ⟨h1, h2⟩ := mkR_v (k := j) a (by omega) L s (fun k k0 k1 => Or.inl (hs k k0 k1))
  have := h1 j a (by omega)
  have sj := hs j a (by omega)
  cases e : mtL L (1000 + j) with
  | true =>
    have := h2.mpr (Or.inl e)
    rw [this]
    exact ⟨fun _ => by decide, fun _ => by decide⟩
  | false =>
    have z : ¬ (L.foldl mkR s j = 1) := fun q => by
      rcases h2.mp q with q | q
      · rw [e] at q; cases q
      · omega
    rw [show L.foldl mkR s j = 0 by omega]
    exact ⟨fun q => by omega, fun q => absurd q (by decide)⟩
theorem tab_0 {f : Int → Int} : ∀ (k : Nat) (i : Int), (∀ j, i ≤ j → j < i + k → f j = 0) → tabF f k i = 0 := by
  intro k
  induction k with
  | zero => intro i _; rfl
  | succ k ih => intro i h; rw [tabF, ih (i + 1) (fun j a b => h j (by omega) (by omega)), h i (by omega) (by omega)]; rfl
theorem leF_cc {f g : Int → Int} : ∀ (k : Nat) (i : Int), (∀ j, i ≤ j → j < i + k → f j = g j) → leF f k i = leF g k i ∧ (i ≤ leF f k i ∧ leF f k i ≤ i + k) := by
  intro k
  induction k with
  | zero => intro i _; rw [leF, leF]; exact ⟨rfl, by omega, by omega⟩
  | succ k ih =>
    intro i h
    obtain ⟨a, b⟩ := ih (i + 1) (fun j a b => h j (by omega) (by omega))
    rw [leF, leF, h i (by omega) (by omega), a]
    rw [a] at b
    refine ⟨rfl, ?_⟩
    split
    · omega
    · omega
section Ol
variable {sc : Scr} {d : Nat} {σ : St} {A : AS}
theorem l_nm0 {h : Int} {l3 l4 l5 : Option V} : ∀ (k : Nat) (i : Int), 0 ≤ i → i + k = 100 → ∀ (u : Bool × Nat × Nat × Int) (Q : Rs → HS → Prop), (Ex sc d 219 2 [some (vR 373), some (vI h), some (vI i), l3, l4, l5] [] (wH (fl σ 388 0 i 0) u) Q ↔ Ex sc d 219 21 [some (vR 373), some (vI h), some (vI 100), l3, l4, l5] [] (wH (fl σ 388 0 100 0) u) Q) := by
  intro k
  induction k with
  | zero =>
    intro i i0 hi u Q
    have : i = 100 := by omega
    subst this
    rw [x219_2]
    simp (disch := first | omega | exact notL_I | exact notL_N | exact notL_R | exact oM | exact catS_le (Nat.le_of_ble_eq_true rfl) | exact Nat.le_of_ble_eq_true rfl | rfl) only [x219_0, x219_1, x219_3, x219_5, x219_8, x219_9, x219_12, x219_13, x219_14, x219_15, x219_18, x219_22, x219_23, x219_24, x219_25, x219_26, x219_27, x219_30, x219_31, x219_32, x219_35, x219_36, x219_38, x219_40, x219_41, x219_44, x219_45, x219_46, x219_47, x219_50, x219_53, x219_55, x219_56, x219_57, x219_58, x219_59, x219_60, x219_63, x219_66, x219_69, x219_70, x219_71, x219_72, x219_74, x219_77, x219_79, x219_81, x219_84, x219_87, x219_88, x219_91, x219_93, x219_96, x219_97, x219_98, x219_101, x219_104, x219_105, x219_108, x219_110, x219_113, x219_114, x219_115, x219_116, x219_119, x219_122, x219_125, x219_128, x219_131, x219_132, if_pos, if_neg, ↓reduceIte, not_true_eq_false, not_false_eq_true]
  | succ k ih =>
    intro i i0 hi u Q
    rw [← ih (i + 1) (by omega) (by omega) u Q, x219_2, ← fl_su i0]
    simp (disch := first | omega | exact notL_I | exact notL_N | exact notL_R | exact oM | exact catS_le (Nat.le_of_ble_eq_true rfl) | exact Nat.le_of_ble_eq_true rfl | rfl) only [x219_0, x219_1, x219_3, x219_5, x219_8, x219_9, x219_12, x219_13, x219_14, x219_15, x219_18, x219_22, x219_23, x219_24, x219_25, x219_26, x219_27, x219_30, x219_31, x219_32, x219_35, x219_36, x219_38, x219_40, x219_41, x219_44, x219_45, x219_46, x219_47, x219_50, x219_53, x219_55, x219_56, x219_57, x219_58, x219_59, x219_60, x219_63, x219_66, x219_69, x219_70, x219_71, x219_72, x219_74, x219_77, x219_79, x219_81, x219_84, x219_87, x219_88, x219_91, x219_93, x219_96, x219_97, x219_98, x219_101, x219_104, x219_105, x219_108, x219_110, x219_113, x219_114, x219_115, x219_116, x219_119, x219_122, x219_125, x219_128, x219_131, x219_132, gM_seen, WM_seen, if_pos, if_neg, ↓reduceIte, not_true_eq_false, not_false_eq_true]
theorem s_nameSum {h : Int} (hd : 5 ≤ d) (W : WfM σ) (h0 : 0 ≤ h) (h4 : h ≤ 4) (hcol : ∀ n, 0 ≤ n → n < σ 381 h → σ 377 (200 * h + n) = 1 → 1 ≤ σ 374 (26 * h + σ 378 (200 * h + n))) :
    ∃ τ, (∀ c, c ≠ 388 → τ c = σ c) ∧ RnA sc d 219 0 [some (vR 373), some (vI h), none, none, none, none] σ (some (vI (nsL (rsR σ h)))) τ := by
  have wn := W.nxt h0 h4
  have es : fl σ 388 0 100 0 = snS σ (fun j => if 0 ≤ j ∧ j < 100 then 0 else σ 388 j) := by
    funext c
    by_cases e : c = 388
    · subst e
      funext j
      rw [fl_at, snS_at]
    · rw [fl_ne e, snS_ne e]
  have z : ∀ k, 0 ≤ k → k < 100 → (fun j => if 0 ≤ j ∧ j < 100 then 0 else σ 388 j) k = 0 := fun k k0 k1 => if_pos ⟨k0, k1⟩
  have t0 : tabF (fun j => if 0 ≤ j ∧ j < 100 then 0 else σ 388 j) 100 0 = 0 := tab_0 100 0 (fun j a b => z j a (by omega))
  have nl := l_nmL (sc := sc) (d := d) (σ := σ) (h := h) hd W h0 h4 hcol (σ 381 h).toNat 0 (fun j => if 0 ≤ j ∧ j < 100 then 0 else σ 388 j) none none notL_N notL_N (fun k k0 k1 => Or.inl (z k k0 k1)) (by omega) (by omega)
  have er : rsF σ h (σ 381 h).toNat 0 = rsR σ h := rfl
  rw [er, ns_fold0 z, t0, ← es] at nl
  refine ⟨snS σ ((rsR σ h).foldl mkR (fun j => if 0 ≤ j ∧ j < 100 then 0 else σ 388 j)), fun c hc => snS_ne hc, fun u Q => ?_⟩
  rw [← nl u Q]
  have l0 := l_nm0 (sc := sc) (d := d) (σ := σ) (h := h) (l3 := none) (l4 := none) (l5 := none) 100 0 (by omega) (by omega) u Q
  rw [fl_0] at l0
  have a : Ex sc d 219 0 [some (vR 373), some (vI h), none, none, none, none] [] (wH σ u) Q ↔ Ex sc d 219 2 [some (vR 373), some (vI h), some (vI 0), none, none, none] [] (wH σ u) Q := by
    simp (disch := first | omega | exact notL_I | exact notL_N | exact notL_R | exact oM | exact catS_le (Nat.le_of_ble_eq_true rfl) | exact Nat.le_of_ble_eq_true rfl | rfl) only [x219_0, x219_1, x219_3, x219_5, x219_8, x219_9, x219_12, x219_13, x219_14, x219_15, x219_18, x219_22, x219_23, x219_24, x219_25, x219_26, x219_27, x219_30, x219_31, x219_32, x219_35, x219_36, x219_38, x219_40, x219_41, x219_44, x219_45, x219_46, x219_47, x219_50, x219_53, x219_55, x219_56, x219_57, x219_58, x219_59, x219_60, x219_63, x219_66, x219_69, x219_70, x219_71, x219_72, x219_74, x219_77, x219_79, x219_81, x219_84, x219_87, x219_88, x219_91, x219_93, x219_96, x219_97, x219_98, x219_101, x219_104, x219_105, x219_108, x219_110, x219_113, x219_114, x219_115, x219_116, x219_119, x219_122, x219_125, x219_128, x219_131, x219_132]
  rw [a, l0, x219_21]
  simp (disch := first | omega | exact notL_I | exact notL_N | exact notL_R | exact oM | exact catS_le (Nat.le_of_ble_eq_true rfl) | exact Nat.le_of_ble_eq_true rfl | rfl) only [x219_0, x219_1, x219_3, x219_5, x219_8, x219_9, x219_12, x219_13, x219_14, x219_15, x219_18, x219_22, x219_23, x219_24, x219_26, x219_27, x219_30, x219_31, x219_32, x219_35, x219_36, x219_38, x219_40, x219_41, x219_44, x219_45, x219_46, x219_47, x219_50, x219_53, x219_55, x219_56, x219_57, x219_58, x219_59, x219_60, x219_63, x219_66, x219_69, x219_70, x219_71, x219_72, x219_74, x219_77, x219_79, x219_81, x219_84, x219_87, x219_88, x219_91, x219_93, x219_96, x219_97, x219_98, x219_101, x219_104, x219_105, x219_108, x219_110, x219_113, x219_114, x219_115, x219_116, x219_119, x219_122, x219_125, x219_128, x219_131, x219_132]
set_option maxHeartbeats 1000000 in
theorem op_look {h q : Int} (hd : 100 ≤ d) (hh : inR h) (hq : inR q) (V : VV A σ) : Lk sc d 76 [some (vR 0), some (vI h), some (vI q), none] 218 [some (vR 373), some (vI h), some (vI q)] σ := by
  obtain ⟨Vc, Vr, o⟩ := id V
  by_cases hr : 0 ≤ h ∧ h ≤ 2
  · obtain ⟨h0, h2⟩ := hr
    have ha := fun u Q => s_hallAt (sc := sc) (σ := σ) (d := d - 1) (u := u) (Q := Q) h0 h2
    have ob := hpb_o h0 h2
    have orr := ob.rows
    have ol := ob.log
    have k := o.1 h h0 h2
    obtain ⟨a1, a2, a3⟩ := Vc.1 h h0 h2
    have V0 := Vr.th (x := 0)
    have W0 := V0.2.1.1
    have b1 := V0.1 h h0 h2
    have ry := r_yes (sc := sc) (d := d - 1) (σ := σ) (h := h) (by omega) h0 h2
    have fa := fun u Q => s_fails (sc := sc) (σ := σ) (u := u) (Q := Q) (d := d - 1) (b := 0) (Or.inl rfl)
    have eS : rsC σ (hpb h + 3) = (A.1 h).2.2.2.1 := congrArg (fun x : Hl => x.2.2.2.1) a1
    have rS : rsR (su σ 373 0 0) h = (A.1 h).2.2.2.1 := congrArg (fun x : Hl => x.2.2.2.1) b1
    have wro := a2.2.2.2.1
    have w00 := a2.1
    have w01 := a2.2.1
    have wlo := a2.2.2.2.2.1
    have wr0 := wro.1
    have wr1 := wro.2.1
    have wl0 := wlo.1
    have wl1 := wlo.2.1
    by_cases q0 : q = 0
    · subst q0
      have ts := fun u Q => s_tableSum (sc := sc) (σ := su σ 373 0 0) (u := u) (Q := Q) (d := d - 1) (h := h) W0 (by omega) h0 (by omega)
      have et : tabF (fun t => su σ 373 0 0 374 (26 * h + t)) 26 0 = σ (hpb h) 0 := by
        rw [a3]
        refine tabF_c 26 0 (fun j a b => ?_)
        rw [← coR_in (σ := su σ 373 0 0) (h := h) a (by omega)]
        exact congrFun (congrArg (fun x : Hl => x.1) b1) j
      rw [et] at ts
      refine Lk.eq V (v := σ (hpb h) 0) ⟨by omega, by omega⟩ (fun u Q => ?_) (fun u Q => ?_)
      · simp (disch := first | assumption | omega | exact notL_I | exact notL_N | exact notL_R | exact catS_le (Nat.le_of_ble_eq_true rfl) | exact Nat.le_of_ble_eq_true rfl | exact ooRo (by assumption) | exact ooAt (by assumption) | exact ooRu (by assumption) | exact ooLo (by assumption) | exact ooHa (by assumption) | exact ooLe (by assumption) | exact ooFn | exact ooAn | exact ooPa | exact ooTo | exact ooWa | exact ooCh | rfl) only [x76_0, x76_1, x76_2, x76_5, x76_6, x76_7_0, x76_7_1, x76_7_2, x76_7_3, x76_7_4, x76_7_5, x76_7_6, x76_7_7, x76_7, x76_52, x76_53, x76_56, x76_57, x76_58, x76_61, x76_62, x76_63, x76_66, x76_69, x76_70, x76_71, x76_74, x76_77, x76_78, x76_79, x76_82, x76_85, x76_86, x76_87, x76_90, x76_93, x76_94, x76_95, x76_98, x76_101, x76_102, x76_103, x76_106, x76_107, x76_110, x76_111, x76_112, ha, gHa_tableCount, Kc_some, if_pos, if_neg, ↓reduceIte, not_true_eq_false, not_false_eq_true]
      · simp (disch := first | omega | exact notL_I | exact notL_N | exact notL_R | exact oM | exact catS_le (Nat.le_of_ble_eq_true rfl) | exact Nat.le_of_ble_eq_true rfl | rfl) only [x218_0, x218_1, x218_2, x218_5, x218_8, x218_11, x218_12, x218_13, x218_14_0, x218_14_1, x218_14_2, x218_14_3, x218_14_4, x218_14_5, x218_14_6, x218_14_7, x218_14, x218_60, x218_61, x218_62, x218_65, x218_66, x218_67, x218_70, x218_71, x218_72, x218_73, x218_74, x218_75, x218_78, x218_79, x218_80, x218_83, x218_84, x218_85, x218_86, x218_87, x218_88, x218_91, x218_92, x218_93, x218_96, x218_97, x218_98, x218_99, x218_100, x218_103, x218_104, x218_105, x218_106, x218_107, x218_108, x218_111, x218_112, x218_113, ry, fa, ts, Kc_some, if_pos, if_neg, ↓reduceIte, not_true_eq_false, not_false_eq_true]
    · by_cases q1 : q = 1
      · subst q1
        have e1 := (Vc.ru (r := 0) h0 h2).1
        have e2 := (V0.ru (r := 0) h0 h2).1
        refine Lk.eq V (v := σ (hpb h) 1) ⟨by omega, by omega⟩ (fun u Q => ?_) (fun u Q => ?_)
        · simp (disch := first | assumption | omega | exact notL_I | exact notL_N | exact notL_R | exact catS_le (Nat.le_of_ble_eq_true rfl) | exact Nat.le_of_ble_eq_true rfl | exact ooRo (by assumption) | exact ooAt (by assumption) | exact ooRu (by assumption) | exact ooLo (by assumption) | exact ooHa (by assumption) | exact ooLe (by assumption) | exact ooFn | exact ooAn | exact ooPa | exact ooTo | exact ooWa | exact ooCh | rfl) only [x76_0, x76_1, x76_2, x76_5, x76_6, x76_7_0, x76_7_1, x76_7_2, x76_7_3, x76_7_4, x76_7_5, x76_7_6, x76_7_7, x76_7, x76_52, x76_53, x76_56, x76_57, x76_58, x76_61, x76_62, x76_63, x76_66, x76_69, x76_70, x76_71, x76_74, x76_77, x76_78, x76_79, x76_82, x76_85, x76_86, x76_87, x76_90, x76_93, x76_94, x76_95, x76_98, x76_101, x76_102, x76_103, x76_106, x76_107, x76_110, x76_111, x76_112, ha, gHa_ruleCount, Kc_some, if_pos, if_neg, ↓reduceIte, not_true_eq_false, not_false_eq_true]
        · rw [e1, ← e2]
          simp (disch := first | omega | exact notL_I | exact notL_N | exact notL_R | exact oM | exact catS_le (Nat.le_of_ble_eq_true rfl) | exact Nat.le_of_ble_eq_true rfl | rfl) only [x218_0, x218_1, x218_2, x218_5, x218_8, x218_11, x218_12, x218_13, x218_14_0, x218_14_1, x218_14_2, x218_14_3, x218_14_4, x218_14_5, x218_14_6, x218_14_7, x218_14, x218_60, x218_61, x218_62, x218_65, x218_66, x218_67, x218_70, x218_71, x218_72, x218_73, x218_74, x218_75, x218_78, x218_79, x218_80, x218_83, x218_84, x218_85, x218_86, x218_87, x218_88, x218_91, x218_92, x218_93, x218_96, x218_97, x218_98, x218_99, x218_100, x218_103, x218_104, x218_105, x218_106, x218_107, x218_108, x218_111, x218_112, x218_113, ry, fa, gM_ruleMany, RM_ruleMany, Kc_some, if_pos, if_neg, ↓reduceIte, not_true_eq_false, not_false_eq_true]
      · by_cases q2 : q = 2
        · subst q2
          have el := rsC_len (σ := σ) (r := hpb h + 3) wro.1.1
          rw [eS] at el
          have rs := fun u Q => s_rowSum (sc := sc) (σ := su σ 373 0 0) (u := u) (Q := Q) (d := d - 1) (h := h) W0 h0 (by omega)
          rw [rS, el] at rs
          refine Lk.eq V (v := σ (hpb h + 3) 0) ⟨by omega, by omega⟩ (fun u Q => ?_) (fun u Q => ?_)
          · simp (disch := first | assumption | omega | exact notL_I | exact notL_N | exact notL_R | exact catS_le (Nat.le_of_ble_eq_true rfl) | exact Nat.le_of_ble_eq_true rfl | exact ooRo (by assumption) | exact ooAt (by assumption) | exact ooRu (by assumption) | exact ooLo (by assumption) | exact ooHa (by assumption) | exact ooLe (by assumption) | exact ooFn | exact ooAn | exact ooPa | exact ooTo | exact ooWa | exact ooCh | rfl) only [x76_0, x76_1, x76_2, x76_5, x76_6, x76_7_0, x76_7_1, x76_7_2, x76_7_3, x76_7_4, x76_7_5, x76_7_6, x76_7_7, x76_7, x76_52, x76_53, x76_56, x76_57, x76_58, x76_61, x76_62, x76_63, x76_66, x76_69, x76_70, x76_71, x76_74, x76_77, x76_78, x76_79, x76_82, x76_85, x76_86, x76_87, x76_90, x76_93, x76_94, x76_95, x76_98, x76_101, x76_102, x76_103, x76_106, x76_107, x76_110, x76_111, x76_112, ha, gHa_rows, gRo_count, Kc_some, if_pos, if_neg, ↓reduceIte, not_true_eq_false, not_false_eq_true]
          · simp (disch := first | omega | exact notL_I | exact notL_N | exact notL_R | exact oM | exact catS_le (Nat.le_of_ble_eq_true rfl) | exact Nat.le_of_ble_eq_true rfl | rfl) only [x218_0, x218_1, x218_2, x218_5, x218_8, x218_11, x218_12, x218_13, x218_14_0, x218_14_1, x218_14_2, x218_14_3, x218_14_4, x218_14_5, x218_14_6, x218_14_7, x218_14, x218_60, x218_61, x218_62, x218_65, x218_66, x218_67, x218_70, x218_71, x218_72, x218_73, x218_74, x218_75, x218_78, x218_79, x218_80, x218_83, x218_84, x218_85, x218_86, x218_87, x218_88, x218_91, x218_92, x218_93, x218_96, x218_97, x218_98, x218_99, x218_100, x218_103, x218_104, x218_105, x218_106, x218_107, x218_108, x218_111, x218_112, x218_113, ry, fa, rs, Kc_some, if_pos, if_neg, ↓reduceIte, not_true_eq_false, not_false_eq_true]
        · by_cases q3 : q = 3
          · subst q3
            have e1 : σ (hpb h + 3) 1 = su σ 373 0 0 381 h := (congrArg (fun x : Hl => x.2.2.2.2.1) a1).trans (congrArg (fun x : Hl => x.2.2.2.2.1) b1).symm
            refine Lk.eq V (v := σ (hpb h + 3) 1) ⟨by omega, by omega⟩ (fun u Q => ?_) (fun u Q => ?_)
            · simp (disch := first | assumption | omega | exact notL_I | exact notL_N | exact notL_R | exact catS_le (Nat.le_of_ble_eq_true rfl) | exact Nat.le_of_ble_eq_true rfl | exact ooRo (by assumption) | exact ooAt (by assumption) | exact ooRu (by assumption) | exact ooLo (by assumption) | exact ooHa (by assumption) | exact ooLe (by assumption) | exact ooFn | exact ooAn | exact ooPa | exact ooTo | exact ooWa | exact ooCh | rfl) only [x76_0, x76_1, x76_2, x76_5, x76_6, x76_7_0, x76_7_1, x76_7_2, x76_7_3, x76_7_4, x76_7_5, x76_7_6, x76_7_7, x76_7, x76_52, x76_53, x76_56, x76_57, x76_58, x76_61, x76_62, x76_63, x76_66, x76_69, x76_70, x76_71, x76_74, x76_77, x76_78, x76_79, x76_82, x76_85, x76_86, x76_87, x76_90, x76_93, x76_94, x76_95, x76_98, x76_101, x76_102, x76_103, x76_106, x76_107, x76_110, x76_111, x76_112, ha, gHa_rows, gRo_nextNumber, Kc_some, if_pos, if_neg, ↓reduceIte, not_true_eq_false, not_false_eq_true]
            · rw [e1]
              simp (disch := first | omega | exact notL_I | exact notL_N | exact notL_R | exact oM | exact catS_le (Nat.le_of_ble_eq_true rfl) | exact Nat.le_of_ble_eq_true rfl | rfl) only [x218_0, x218_1, x218_2, x218_5, x218_8, x218_11, x218_12, x218_13, x218_14_0, x218_14_1, x218_14_2, x218_14_3, x218_14_4, x218_14_5, x218_14_6, x218_14_7, x218_14, x218_60, x218_61, x218_62, x218_65, x218_66, x218_67, x218_70, x218_71, x218_72, x218_73, x218_74, x218_75, x218_78, x218_79, x218_80, x218_83, x218_84, x218_85, x218_86, x218_87, x218_88, x218_91, x218_92, x218_93, x218_96, x218_97, x218_98, x218_99, x218_100, x218_103, x218_104, x218_105, x218_106, x218_107, x218_108, x218_111, x218_112, x218_113, ry, fa, gM_nextRow, RM_nextRow, Kc_some, if_pos, if_neg, ↓reduceIte, not_true_eq_false, not_false_eq_true]
          · by_cases q4 : q = 4
            · subst q4
              obtain ⟨Z, z1, z2⟩ := s_nameSum (sc := sc) (d := d - 1) (σ := su σ 373 0 0) (h := h) (by omega) W0 h0 (by omega) (V0.hcol o h0 h2)
              rw [rS] at z2
              unfold RnA at z2
              have cn := fun u Q => s_cntN (sc := sc) (d := d - 1) (σ := σ) (u := u) (Q := Q) (r := hpb h + 3) orr wro (by omega) (by
                intro j j0 j1 hj
                rw [eS] at hj
                have eN : naC σ (hpb h + 3) = (A.1 h).2.2.2.2.2.1 := congrArg (fun x : Hl => x.2.2.2.2.2.1) a1
                have en : naC σ (hpb h + 3) j = σ (hpb h + 3 + 4) j := by unfold naC; rw [if_pos ⟨j0, by omega⟩]
                rw [← en, eN]
                unfold mtL at hj
                obtain ⟨w, w1, w2⟩ := List.any_eq_true.mp hj
                exact k.2.2.2.2.2.1.2.2.2.2.2.2 w w1 j j0 (of_decide_eq_true w2))
              rw [eS] at cn
              have DZ : Dt (su σ 373 0 0) Z := ⟨fun c a b => z1 c (by omega), by rw [z1 373 (by omega)]⟩
              have nb : 0 ≤ nsL (A.1 h).2.2.2.1 ∧ nsL (A.1 h).2.2.2.1 ≤ 100 := tab_b
              refine Lk.ok (v := nsL (A.1 h).2.2.2.1) ⟨by omega, by omega⟩ o Vc (V0.kp (τ := Z) (Dt.kp (h := 0) W0 DZ (RsR.of (fun c _ _ => z1 c (by omega)) (fun j _ => by rw [z1 373 (by omega)])) (z1 393 (by omega))) (DZ.hl W0 (by omega) (by omega))) (fun c hc => by rw [z1 c (by omega), su_ne (by omega)]) (by rw [z1 373 (by omega), su_eq]) (fun u Q => ?_) (fun u Q => ?_)
              · simp (disch := first | assumption | omega | exact notL_I | exact notL_N | exact notL_R | exact catS_le (Nat.le_of_ble_eq_true rfl) | exact Nat.le_of_ble_eq_true rfl | exact ooRo (by assumption) | exact ooAt (by assumption) | exact ooRu (by assumption) | exact ooLo (by assumption) | exact ooHa (by assumption) | exact ooLe (by assumption) | exact ooFn | exact ooAn | exact ooPa | exact ooTo | exact ooWa | exact ooCh | rfl) only [x76_0, x76_1, x76_2, x76_5, x76_6, x76_7_0, x76_7_1, x76_7_2, x76_7_3, x76_7_4, x76_7_5, x76_7_6, x76_7_7, x76_7, x76_52, x76_53, x76_56, x76_57, x76_58, x76_61, x76_62, x76_63, x76_66, x76_69, x76_70, x76_71, x76_74, x76_77, x76_78, x76_79, x76_82, x76_85, x76_86, x76_87, x76_90, x76_93, x76_94, x76_95, x76_98, x76_101, x76_102, x76_103, x76_106, x76_107, x76_110, x76_111, x76_112, ha, gHa_rows, cn, Kc_some, if_pos, if_neg, ↓reduceIte, not_true_eq_false, not_false_eq_true]
              · simp (disch := first | omega | exact notL_I | exact notL_N | exact notL_R | exact oM | exact catS_le (Nat.le_of_ble_eq_true rfl) | exact Nat.le_of_ble_eq_true rfl | rfl) only [x218_0, x218_1, x218_2, x218_5, x218_8, x218_11, x218_12, x218_13, x218_14_0, x218_14_1, x218_14_2, x218_14_3, x218_14_4, x218_14_5, x218_14_6, x218_14_7, x218_14, x218_60, x218_61, x218_62, x218_65, x218_66, x218_67, x218_70, x218_71, x218_72, x218_73, x218_74, x218_75, x218_78, x218_79, x218_80, x218_83, x218_84, x218_85, x218_86, x218_87, x218_88, x218_91, x218_92, x218_93, x218_96, x218_97, x218_98, x218_99, x218_100, x218_103, x218_104, x218_105, x218_106, x218_107, x218_108, x218_111, x218_112, x218_113, ry, fa, z2, Kc_some, if_pos, if_neg, ↓reduceIte, not_true_eq_false, not_false_eq_true]
            · by_cases q5 : q = 5
              · subst q5
                have e1 : σ (hpb h + 8) 0 = su σ 373 0 0 382 h := (congrArg (fun x : Hl => x.2.2.1) a1).trans (congrArg (fun x : Hl => x.2.2.1) b1).symm
                refine Lk.eq V (v := σ (hpb h + 8) 0) ⟨by omega, by omega⟩ (fun u Q => ?_) (fun u Q => ?_)
                · simp (disch := first | assumption | omega | exact notL_I | exact notL_N | exact notL_R | exact catS_le (Nat.le_of_ble_eq_true rfl) | exact Nat.le_of_ble_eq_true rfl | exact ooRo (by assumption) | exact ooAt (by assumption) | exact ooRu (by assumption) | exact ooLo (by assumption) | exact ooHa (by assumption) | exact ooLe (by assumption) | exact ooFn | exact ooAn | exact ooPa | exact ooTo | exact ooWa | exact ooCh | rfl) only [x76_0, x76_1, x76_2, x76_5, x76_6, x76_7_0, x76_7_1, x76_7_2, x76_7_3, x76_7_4, x76_7_5, x76_7_6, x76_7_7, x76_7, x76_52, x76_53, x76_56, x76_57, x76_58, x76_61, x76_62, x76_63, x76_66, x76_69, x76_70, x76_71, x76_74, x76_77, x76_78, x76_79, x76_82, x76_85, x76_86, x76_87, x76_90, x76_93, x76_94, x76_95, x76_98, x76_101, x76_102, x76_103, x76_106, x76_107, x76_110, x76_111, x76_112, ha, gHa_log, gLo_state, Kc_some, if_pos, if_neg, ↓reduceIte, not_true_eq_false, not_false_eq_true]
                · rw [e1]
                  simp (disch := first | omega | exact notL_I | exact notL_N | exact notL_R | exact oM | exact catS_le (Nat.le_of_ble_eq_true rfl) | exact Nat.le_of_ble_eq_true rfl | rfl) only [x218_0, x218_1, x218_2, x218_5, x218_8, x218_11, x218_12, x218_13, x218_14_0, x218_14_1, x218_14_2, x218_14_3, x218_14_4, x218_14_5, x218_14_6, x218_14_7, x218_14, x218_60, x218_61, x218_62, x218_65, x218_66, x218_67, x218_70, x218_71, x218_72, x218_73, x218_74, x218_75, x218_78, x218_79, x218_80, x218_83, x218_84, x218_85, x218_86, x218_87, x218_88, x218_91, x218_92, x218_93, x218_96, x218_97, x218_98, x218_99, x218_100, x218_103, x218_104, x218_105, x218_106, x218_107, x218_108, x218_111, x218_112, x218_113, ry, fa, gM_state, RM_state, Kc_some, if_pos, if_neg, ↓reduceIte, not_true_eq_false, not_false_eq_true]
              · by_cases q6 : q = 6
                · subst q6
                  have es : stC σ (hpb h + 8) = stR (su σ 373 0 0) h := (congrArg (fun x : Hl => x.2.2.2.2.2.2.1) a1).trans (congrArg (fun x : Hl => x.2.2.2.2.2.2.1) b1).symm
                  have w383 := W0.stp h0 (show h ≤ 4 by omega)
                  have e1 : σ (hpb h + 8) 1 = su σ 373 0 0 383 h := by
                    have b1 := stC_len (σ := σ) (l := hpb h + 8) wlo.2.1.1
                    have b2 := stR_len (σ := su σ 373 0 0) (h := h) (by omega)
                    rw [es] at b1
                    omega
                  refine Lk.eq V (v := σ (hpb h + 8) 1) ⟨by omega, by omega⟩ (fun u Q => ?_) (fun u Q => ?_)
                  · simp (disch := first | assumption | omega | exact notL_I | exact notL_N | exact notL_R | exact catS_le (Nat.le_of_ble_eq_true rfl) | exact Nat.le_of_ble_eq_true rfl | exact ooRo (by assumption) | exact ooAt (by assumption) | exact ooRu (by assumption) | exact ooLo (by assumption) | exact ooHa (by assumption) | exact ooLe (by assumption) | exact ooFn | exact ooAn | exact ooPa | exact ooTo | exact ooWa | exact ooCh | rfl) only [x76_0, x76_1, x76_2, x76_5, x76_6, x76_7_0, x76_7_1, x76_7_2, x76_7_3, x76_7_4, x76_7_5, x76_7_6, x76_7_7, x76_7, x76_52, x76_53, x76_56, x76_57, x76_58, x76_61, x76_62, x76_63, x76_66, x76_69, x76_70, x76_71, x76_74, x76_77, x76_78, x76_79, x76_82, x76_85, x76_86, x76_87, x76_90, x76_93, x76_94, x76_95, x76_98, x76_101, x76_102, x76_103, x76_106, x76_107, x76_110, x76_111, x76_112, ha, gHa_log, gLo_count, Kc_some, if_pos, if_neg, ↓reduceIte, not_true_eq_false, not_false_eq_true]
                  · rw [e1]
                    simp (disch := first | omega | exact notL_I | exact notL_N | exact notL_R | exact oM | exact catS_le (Nat.le_of_ble_eq_true rfl) | exact Nat.le_of_ble_eq_true rfl | rfl) only [x218_0, x218_1, x218_2, x218_5, x218_8, x218_11, x218_12, x218_13, x218_14_0, x218_14_1, x218_14_2, x218_14_3, x218_14_4, x218_14_5, x218_14_6, x218_14_7, x218_14, x218_60, x218_61, x218_62, x218_65, x218_66, x218_67, x218_70, x218_71, x218_72, x218_73, x218_74, x218_75, x218_78, x218_79, x218_80, x218_83, x218_84, x218_85, x218_86, x218_87, x218_88, x218_91, x218_92, x218_93, x218_96, x218_97, x218_98, x218_99, x218_100, x218_103, x218_104, x218_105, x218_106, x218_107, x218_108, x218_111, x218_112, x218_113, ry, fa, gM_stepMany, RM_stepMany, Kc_some, if_pos, if_neg, ↓reduceIte, not_true_eq_false, not_false_eq_true]
                · by_cases q7 : q = 7
                  · subst q7
                    have lu := fun u Q => s_leastU (sc := sc) (d := d - 1) (σ := σ) (u := u) (Q := Q) (r := hpb h + 3) (k := 0) orr wro (by omega) (by omega)
                    have ln := fun u Q => s_leastName (sc := sc) (d := d - 1) (σ := su σ 373 0 0) (u := u) (Q := Q) (h := h) W0 h0 (by omega)
                    have en : naC σ (hpb h + 3) = naR (su σ 373 0 0) h := (congrArg (fun x : Hl => x.2.2.2.2.2.1) a1).trans (congrArg (fun x : Hl => x.2.2.2.2.2.1) b1).symm
                    have el : leF (fun k => su σ 373 0 0 385 (100 * h + k)) 100 0 = leF (naC σ (hpb h + 3)) (100 - (0 : Int)).toNat 0 := by
                      rw [en]
                      refine (leF_cc 100 0 (fun j a b => ?_)).1
                      unfold naR
                      rw [if_pos ⟨a, by omega⟩]
                    have lb := (leF_cc (f := naC σ (hpb h + 3)) (g := naC σ (hpb h + 3)) (100 - (0 : Int)).toNat 0 (fun j _ _ => rfl)).2
                    rw [el] at ln
                    have t100 : ((100 - (0 : Int)).toNat : Int) = 100 := by decide
                    generalize leF (naC σ (hpb h + 3)) (100 - (0 : Int)).toNat 0 = N at *
                    refine Lk.eq V (v := N) ⟨by omega, by omega⟩ (fun u Q => ?_) (fun u Q => ?_)
                    · simp (disch := first | assumption | omega | exact notL_I | exact notL_N | exact notL_R | exact catS_le (Nat.le_of_ble_eq_true rfl) | exact Nat.le_of_ble_eq_true rfl | exact ooRo (by assumption) | exact ooAt (by assumption) | exact ooRu (by assumption) | exact ooLo (by assumption) | exact ooHa (by assumption) | exact ooLe (by assumption) | exact ooFn | exact ooAn | exact ooPa | exact ooTo | exact ooWa | exact ooCh | rfl) only [x76_0, x76_1, x76_2, x76_5, x76_6, x76_7_0, x76_7_1, x76_7_2, x76_7_3, x76_7_4, x76_7_5, x76_7_6, x76_7_7, x76_7, x76_52, x76_53, x76_56, x76_57, x76_58, x76_61, x76_62, x76_63, x76_66, x76_69, x76_70, x76_71, x76_74, x76_77, x76_78, x76_79, x76_82, x76_85, x76_86, x76_87, x76_90, x76_93, x76_94, x76_95, x76_98, x76_101, x76_102, x76_103, x76_106, x76_107, x76_110, x76_111, x76_112, ha, gHa_rows, lu, Kc_some, if_pos, if_neg, ↓reduceIte, not_true_eq_false, not_false_eq_true]
                    · simp (disch := first | omega | exact notL_I | exact notL_N | exact notL_R | exact oM | exact catS_le (Nat.le_of_ble_eq_true rfl) | exact Nat.le_of_ble_eq_true rfl | rfl) only [x218_0, x218_1, x218_2, x218_5, x218_8, x218_11, x218_12, x218_13, x218_14_0, x218_14_1, x218_14_2, x218_14_3, x218_14_4, x218_14_5, x218_14_6, x218_14_7, x218_14, x218_60, x218_61, x218_62, x218_65, x218_66, x218_67, x218_70, x218_71, x218_72, x218_73, x218_74, x218_75, x218_78, x218_79, x218_80, x218_83, x218_84, x218_85, x218_86, x218_87, x218_88, x218_91, x218_92, x218_93, x218_96, x218_97, x218_98, x218_99, x218_100, x218_103, x218_104, x218_105, x218_106, x218_107, x218_108, x218_111, x218_112, x218_113, ry, fa, ln, Kc_some, if_pos, if_neg, ↓reduceIte, not_true_eq_false, not_false_eq_true]
                  · obtain ⟨r1, r2⟩ := hq
                    refine Lk.eq V (v := -1) ⟨by decide, by decide⟩ (fun u Q => ?_) (fun u Q => ?_)
                    · simp (disch := first | assumption | omega | exact notL_I | exact notL_N | exact notL_R | exact catS_le (Nat.le_of_ble_eq_true rfl) | exact Nat.le_of_ble_eq_true rfl | exact ooRo (by assumption) | exact ooAt (by assumption) | exact ooRu (by assumption) | exact ooLo (by assumption) | exact ooHa (by assumption) | exact ooLe (by assumption) | exact ooFn | exact ooAn | exact ooPa | exact ooTo | exact ooWa | exact ooCh | rfl) only [x76_0, x76_1, x76_2, x76_5, x76_6, x76_7_0, x76_7_1, x76_7_2, x76_7_3, x76_7_4, x76_7_5, x76_7_6, x76_7_7, x76_7, x76_52, x76_53, x76_56, x76_57, x76_58, x76_61, x76_62, x76_63, x76_66, x76_69, x76_70, x76_71, x76_74, x76_77, x76_78, x76_79, x76_82, x76_85, x76_86, x76_87, x76_90, x76_93, x76_94, x76_95, x76_98, x76_101, x76_102, x76_103, x76_106, x76_107, x76_110, x76_111, x76_112, ha, Kc_some, if_pos, if_neg, ↓reduceIte, not_true_eq_false, not_false_eq_true]
                    · simp (disch := first | omega | exact notL_I | exact notL_N | exact notL_R | exact oM | exact catS_le (Nat.le_of_ble_eq_true rfl) | exact Nat.le_of_ble_eq_true rfl | rfl) only [x218_0, x218_1, x218_2, x218_5, x218_8, x218_11, x218_12, x218_13, x218_14_0, x218_14_1, x218_14_2, x218_14_3, x218_14_4, x218_14_5, x218_14_6, x218_14_7, x218_14, x218_60, x218_61, x218_62, x218_65, x218_66, x218_67, x218_70, x218_71, x218_72, x218_73, x218_74, x218_75, x218_78, x218_79, x218_80, x218_83, x218_84, x218_85, x218_86, x218_87, x218_88, x218_91, x218_92, x218_93, x218_96, x218_97, x218_98, x218_99, x218_100, x218_103, x218_104, x218_105, x218_106, x218_107, x218_108, x218_111, x218_112, x218_113, ry, fa, Kc_some, if_pos, if_neg, ↓reduceIte, not_true_eq_false, not_false_eq_true]
  · have rn := r_no (sc := sc) (d := d - 1) (σ := σ) (h := h) (by omega) hh hr
    have fa := fun u Q => s_fails (sc := sc) (σ := σ) (u := u) (Q := Q) (d := d - 1) (b := 1) (Or.inr rfl)
    refine Lk.no V (Or.inl ⟨rfl, by decide⟩) (fun u Q => ?_) (fun u Q => ?_)
    · have nh := fun u Q => s_noHallC (sc := sc) (σ := σ) (d := d - 1) (u := u) (Q := Q) hh hr
      simp (disch := first | assumption | omega | exact notL_I | exact notL_N | exact notL_R | exact catS_le (Nat.le_of_ble_eq_true rfl) | exact Nat.le_of_ble_eq_true rfl | exact ooRo (by assumption) | exact ooAt (by assumption) | exact ooRu (by assumption) | exact ooLo (by assumption) | exact ooHa (by assumption) | exact ooLe (by assumption) | exact ooFn | exact ooAn | exact ooPa | exact ooTo | exact ooWa | exact ooCh | rfl) only [x76_0, x76_1, x76_2, x76_5, x76_6, x76_7_0, x76_7_1, x76_7_2, x76_7_3, x76_7_4, x76_7_5, x76_7_6, x76_7_7, x76_7, x76_52, x76_53, x76_56, x76_57, x76_58, x76_61, x76_62, x76_63, x76_66, x76_69, x76_70, x76_71, x76_74, x76_77, x76_78, x76_79, x76_82, x76_85, x76_86, x76_87, x76_90, x76_93, x76_94, x76_95, x76_98, x76_101, x76_102, x76_103, x76_106, x76_107, x76_110, x76_111, x76_112, nh]
      exact thrK rfl rfl
    · simp (disch := first | omega | exact notL_I | exact notL_N | exact notL_R | exact oM | exact catS_le (Nat.le_of_ble_eq_true rfl) | exact Nat.le_of_ble_eq_true rfl | rfl) only [x218_0, x218_1, x218_2, x218_5, x218_8, x218_11, x218_12, x218_13, x218_14_0, x218_14_1, x218_14_2, x218_14_3, x218_14_4, x218_14_5, x218_14_6, x218_14_7, x218_14, x218_60, x218_61, x218_62, x218_65, x218_66, x218_67, x218_70, x218_71, x218_72, x218_73, x218_74, x218_75, x218_78, x218_79, x218_80, x218_83, x218_84, x218_85, x218_86, x218_87, x218_88, x218_91, x218_92, x218_93, x218_96, x218_97, x218_98, x218_99, x218_100, x218_103, x218_104, x218_105, x218_106, x218_107, x218_108, x218_111, x218_112, x218_113, rn, fa, Kc_some, if_pos, if_neg, ↓reduceIte, not_true_eq_false, not_false_eq_true]
      rfl
end Ol
