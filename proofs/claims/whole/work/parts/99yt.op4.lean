/-! run and core, both -/
def runA (H : Hl) (most : Nat) : Rn × Int := runF H.2.1 most 101 0 (H.2.2.2.1, H.2.2.2.2.1, H.2.2.2.2.2.1, [], fun _ => -1)
section O4
variable {sc : Scr} {d : Nat} {σ : St} {A : AS}
theorem VC.ri (V : VC A σ) (o : okAS A) {h : Int} (h0 : 0 ≤ h) (h2 : h ≤ 2) : RI (A.1 h).1 (hpb h) σ := by
  obtain ⟨a1, a2, a3⟩ := V.1 h h0 h2
  have k := o.1 h h0 h2
  have e1 : rnC σ (hpb h) = (A.1 h).2.2.2 := congrArg (fun x : Hl => x.2.2.2) a1
  have e2 : rlC σ (hpb h) = (A.1 h).2.1 := congrArg (fun x : Hl => x.2.1) a1
  refine ⟨a2, by rw [e1]; exact k.2.2.2.2.2.1, fun j hj => k.2.2.2.1 _ ?_⟩
  rw [← e2]
  exact List.mem_of_getElem? (rlC_get hj)
theorem VR.ri (V : VR A σ) (o : okAS A) {h : Int} (h0 : 0 ≤ h) (h2 : h ≤ 2) : RIm h σ := by
  have a1 := V.1 h h0 h2
  have k := o.1 h h0 h2
  have e0 : coR σ h = (A.1 h).1 := congrArg (fun x : Hl => x.1) a1
  have e1 : rnR σ h = (A.1 h).2.2.2 := congrArg (fun x : Hl => x.2.2.2) a1
  have e2 : rlR σ h = (A.1 h).2.1 := congrArg (fun x : Hl => x.2.1) a1
  refine ⟨V.2.1.1, V.2.1.2, by rw [e0, e1]; exact k.2.2.2.2.2.1, fun r r0 r1 => ?_⟩
  rw [e0]
  refine k.2.2.2.1 _ ?_
  rw [← e2]
  have := rlR_get (σ := σ) (h := h) (j := r.toNat) (by omega)
  rw [show ((r.toNat : Nat) : Int) = r by omega] at this
  exact List.mem_of_getElem? this
theorem RIm.th {h x : Int} (H : RIm h σ) (h0 : 0 ≤ h) (h4 : h ≤ 4) : RIm h (su σ 373 0 x) := by
  have D : Dt σ (su σ 373 0 x) := Dt.dsu3 (by omega)
  have e := D.hl H.1 h0 h4
  have e0 : coR (su σ 373 0 x) h = coR σ h := congrArg (fun x : Hl => x.1) e
  exact ⟨D.wf H.1, by rw [su_ne (by omega)]; exact H.2.1, by rw [e0, D.rn]; exact H.2.2.1, fun r r0 r1 => by rw [e0, D.ru]; exact H.2.2.2 r r0 (by rw [su_ne (by omega)] at r1; exact r1)⟩
theorem FrH.kp {h : Int} {τ : St} (F : FrH (hpb h) σ τ) (h2 : h ≤ 2) : KpC (hpb h) σ τ := by
  have r := hpb_r h2
  exact ⟨fun c a b => F c (by omega) (by omega), by rw [F 87 (by omega) (by omega)], by rw [F 87 (by omega) (by omega)], fun w => w.c (fun c a b => F c (by omega) (by omega)), fun w => w.c (fun c a b => F c (by omega) (by omega))⟩
theorem KpC.up {h : Int} {τ : St} (K : KpC (hpb h) σ τ) (h2 : h ≤ 2) : ∀ c, 373 ≤ c → τ c = σ c := fun c hc => K.1 c (by omega) (by have := hpb_r h2; omega)
theorem VR.up {τ : St} (V : VR A σ) (h : ∀ c, 373 ≤ c → τ c = σ c) : VR A τ := V.c (fun c hc _ => h c (by omega)) (fun j _ => by rw [h 373 (by omega)])
theorem op_core {h : Int} (hd : 100 ≤ d) (hh : inR h) (V : VV A σ) : Lk sc d 144 [some (vR 0), some (vI h), none, none, none] 261 [some (vR 373), some (vI h), none, none, none, none] σ := by
  obtain ⟨Vc, Vr, o⟩ := id V
  by_cases hr : 0 ≤ h ∧ h ≤ 2
  · obtain ⟨h0, h2⟩ := hr
    obtain ⟨a1, a2, a3⟩ := Vc.1 h h0 h2
    have k := o.1 h h0 h2
    have eC : coC σ (hpb h) = (A.1 h).1 := congrArg (fun x : Hl => x.1) a1
    have eN : rnC σ (hpb h) = (A.1 h).2.2.2 := congrArg (fun x : Hl => x.2.2.2) a1
    obtain ⟨τ, t1, t2, t3, t4, t5⟩ := s_coreC (sc := sc) (d := d) (σ := σ) (by omega) h0 h2 a2 Vc.2.1.1 (by rw [eC, eN]; exact k.2.2.2.2.2.1)
    rw [a1] at t3 t5
    have up := t1.up h2
    have Vr1 := Vr.up up
    have b1 := Vr1.1 h h0 h2
    have eC2 : coR τ h = (A.1 h).1 := congrArg (fun x : Hl => x.1) b1
    have eN2 : rnR τ h = (A.1 h).2.2.2 := congrArg (fun x : Hl => x.2.2.2) b1
    obtain ⟨ρ, p1, p2, p3, p4⟩ := s_coreR (sc := sc) (d := d) (σ := τ) (h := h) (by omega) Vr1.2.1.1 h0 h2 (by rw [eC2, eN2]; exact k.2.2.2.2.2.1)
    rw [b1] at p2 p4
    have kH : okH (coreA (A.1 h)).2 ∧ (coreA (A.1 h)).2.1 = (A.1 h).1 ∧ inR (coreA (A.1 h)).1 := by
      unfold coreA
      cases e : coreF (A.1 h).1 41 (A.1 h).2.2.2.1 with
      | none => exact ⟨k, rfl, by show (-2147483648 : Int) ≤ -1; decide, by show (-1 : Int) ≤ 2147483647; decide⟩
      | some M =>
        have sl := core_sublist 41 _ _ e
        have ll := sl.length_le
        have l4 := k.2.2.2.2.2.1.2.2.2.2.1
        exact ⟨⟨k.1, k.2.1, k.2.2.1, k.2.2.2.1, k.2.2.2.2.1, okS_sub k.2.2.2.2.2.1 sl, k.2.2.2.2.2.2⟩, rfl, by show -2147483648 ≤ ((A.1 h).2.2.2.1.length : Int) - M.length; omega, by show ((A.1 h).2.2.2.1.length : Int) - M.length ≤ 2147483647; omega⟩
    exact Lk.ok kH.2.2 (o.st kH.1) (Vc.h h0 h2 t1 t2 t3 (by rw [t4, a3, kH.2.1])) (Vr1.h p1 p2) p1.1.2.2.2.2.2.2.2.2.2 p3 t5 p4
  · have rn := r_no (sc := sc) (d := d - 1) (σ := σ) (h := h) (by omega) hh hr
    have fa := fun u Q => s_fails (sc := sc) (σ := σ) (u := u) (Q := Q) (d := d - 1) (b := 1) (Or.inr rfl)
    refine Lk.no V (Or.inl ⟨rfl, by decide⟩) (fun u Q => ?_) (fun u Q => ?_)
    · have nh := fun u Q => s_noHallC (sc := sc) (σ := σ) (d := d - 1) (u := u) (Q := Q) hh hr
      simp (disch := first | assumption | omega | exact notL_I | exact notL_N | exact notL_R | exact catS_le (Nat.le_of_ble_eq_true rfl) | exact Nat.le_of_ble_eq_true rfl | exact ooRo (by assumption) | exact ooAt (by assumption) | exact ooRu (by assumption) | exact ooLo (by assumption) | exact ooHa (by assumption) | exact ooLe (by assumption) | exact ooFn | exact ooAn | exact ooPa | exact ooTo | exact ooWa | exact ooCh | rfl) only [x144_0, x144_1, x144_2, x144_5, x144_6, x144_7, x144_10, x144_11, x144_14, x144_15, x144_16, x144_17, x144_19, x144_21, x144_23, x144_26, x144_27, x144_28, x144_31, x144_32, x144_33, x144_36, x144_39, x144_40, x144_43, x144_46, x144_47, x144_48, x144_51, x144_52, x144_53, x144_54, x144_57, x144_60, x144_61, x144_64, x144_67, x144_70, x144_71, x144_73, x144_74, x144_77, x144_78, x144_81, x144_84, x144_87, x144_89, nh]
      exact thrK rfl rfl
    · simp (disch := first | omega | exact notL_I | exact notL_N | exact notL_R | exact oM | exact catS_le (Nat.le_of_ble_eq_true rfl) | exact Nat.le_of_ble_eq_true rfl | rfl) only [x261_0, x261_1, x261_2, x261_5, x261_8, x261_11, x261_12, x261_13, x261_14, x261_15, x261_16, x261_19, x261_20, x261_21, x261_22, x261_23, x261_24, x261_25, x261_28, x261_29, x261_30, x261_33, x261_34, x261_35, x261_36, x261_39, x261_42, x261_45, x261_48, x261_49, x261_52, x261_53, x261_54, x261_55, x261_56, x261_57, x261_60, x261_62, x261_64, x261_65, x261_68, x261_69, x261_70, x261_72, x261_75, x261_78, x261_81, x261_82, x261_84, x261_86, x261_89, x261_92, x261_93, x261_96, x261_98, x261_99, x261_100, x261_103, x261_106, x261_107, x261_109, x261_111, x261_112, x261_115, x261_116, x261_117, x261_120, x261_121, x261_122, x261_124, x261_127, x261_130, x261_131, x261_134, x261_135, x261_138, x261_140, x261_141, x261_142, x261_143, x261_146, x261_149, x261_150, x261_152, x261_154, x261_155, x261_158, x261_159, x261_160, x261_163, x261_164, x261_165, x261_167, x261_170, x261_173, x261_174, x261_177, x261_179, x261_180, x261_183, x261_186, x261_187, x261_190, x261_193, x261_195, x261_196, x261_197, x261_198, x261_201, x261_204, x261_207, x261_208, x261_209, x261_212, x261_213, x261_215, x261_217, x261_220, x261_223, x261_224, x261_227, x261_230, x261_231, x261_232, x261_234, x261_235, x261_236, x261_239, x261_242, x261_244, x261_245, x261_246, x261_247, x261_250, x261_253, x261_254, rn, fa, Kc_some, if_pos, if_neg, ↓reduceIte, not_true_eq_false, not_false_eq_true]
      rfl
theorem op_run {h n : Int} (hd : 100 ≤ d) (hh : inR h) (hn : inR n) (V : VV A σ) : Lk sc d 92 [some (vR 0), some (vI h), some (vI n), none] 241 [some (vR 373), some (vI h), some (vI n)] σ := by
  obtain ⟨Vc, Vr, o⟩ := id V
  by_cases hr : 0 ≤ h ∧ h ≤ 2
  · obtain ⟨h0, h2⟩ := hr
    have ha := fun u Q => s_hallAt (sc := sc) (σ := σ) (d := d - 1) (u := u) (Q := Q) h0 h2
    have ob := hpb_o h0 h2
    have hb := hpb_r h2
    obtain ⟨n1, n2⟩ := hn
    by_cases hy : 0 ≤ n ∧ n ≤ 100
    · obtain ⟨a1, a2, a3⟩ := Vc.1 h h0 h2
      have k := o.1 h h0 h2
      have ri := Vc.ri o h0 h2
      obtain ⟨τ, t1, t2, t3, t4, t5⟩ := s_chase (sc := sc) (d := d - 1) (b := hpb h) (most := n.toNat) (σ := σ) ob (by omega) (by omega) ri
      have er : runF (rlC σ (hpb h)) n.toNat 101 0 (rsC σ (hpb h + 3), σ (hpb h + 3) 1, naC σ (hpb h + 3), [], fun _ => -1) = runA (A.1 h) n.toNat := by
        have e : runF (hlC σ (hpb h)).2.1 n.toNat 101 0 ((hlC σ (hpb h)).2.2.2.1, (hlC σ (hpb h)).2.2.2.2.1, (hlC σ (hpb h)).2.2.2.2.2.1, [], fun _ => -1) = runA (A.1 h) n.toNat := by rw [a1]; rfl
        exact e
      rw [er] at t3 t4 t5
      have en : ((n.toNat : Nat) : Int) = n := by omega
      rw [en] at t5
      unfold RnA at t5
      have kp := t1.kp h2
      have up := kp.up h2
      have Vr1 := Vr.up up
      have b1 := Vr1.1 h h0 h2
      -- the reference
      have ry := r_yes (sc := sc) (d := d - 1) (σ := τ) (h := h) (by omega) h0 h2
      have fa := fun u Q => s_fails (sc := sc) (σ := τ) (u := u) (Q := Q) (d := d - 1) (b := 0) (Or.inl rfl)
      have is1 := fun u Q => s_isIn (sc := sc) (σ := su τ 373 0 0) (u := u) (Q := Q) (d := d - 1) (v := n) (a := 0) (b := 100) ⟨n1, n2⟩ ⟨by decide, by decide⟩ ⟨by decide, by decide⟩
      simp only [if_pos hy] at is1
      have rm := (Vr1.ri o h0 h2).th (x := 0) h0 (by omega)
      obtain ⟨ρ, p1, p2, p3, p4, p5, p6⟩ := s_runs (sc := sc) (d := d - 1) (h := h) (most := n.toNat) (σ := su τ 373 0 0) (by omega) (by omega) h0 (by omega) rm
      have b2 : hlR (su τ 373 0 0) h = A.1 h := (hl_th Vr1.2.1.1 h0 (by omega)).trans b1
      have er2 : runF (rlR (su τ 373 0 0) h) n.toNat 101 0 (rsR (su τ 373 0 0) h, su τ 373 0 0 381 h, naR (su τ 373 0 0) h, [], fun _ => -1) = runA (A.1 h) n.toNat := by
        have e : runF (hlR (su τ 373 0 0) h).2.1 n.toNat 101 0 ((hlR (su τ 373 0 0) h).2.2.2.1, (hlR (su τ 373 0 0) h).2.2.2.2.1, (hlR (su τ 373 0 0) h).2.2.2.2.2.1, [], fun _ => -1) = runA (A.1 h) n.toNat := by rw [b2]; rfl
        exact e
      rw [er2] at p2 p3 p6
      rw [en] at p6
      unfold RnA at p6
      have z0 : ρ 373 0 = 0 := by rw [p1.2.2.2.2]; exact su_eq
      have wl := t2.2.2.2.2.1.1
      have kH : okH ((A.1 h).1, (A.1 h).2.1, (runA (A.1 h) n.toNat).2, (runA (A.1 h) n.toNat).1) := ⟨k.1, k.2.1, k.2.2.1, k.2.2.2.1, k.2.2.2.2.1, runF_ok k.2.2.2.1 101 0 _ k.2.2.2.2.2.1, by show 0 ≤ (runA (A.1 h) n.toNat).2 ∧ (runA (A.1 h) n.toNat).2 ≤ 3; omega⟩
      have eh : hlC τ (hpb h) = ((A.1 h).1, (A.1 h).2.1, (runA (A.1 h) n.toNat).2, (runA (A.1 h) n.toNat).1) := by
        unfold hlC
        rw [t3, t4, coC_eq (t1 (hpb h + 1) (by omega) (by omega))]
        have e2 : rlC τ (hpb h) = rlC σ (hpb h) := by
          unfold rlC
          rw [t1 (hpb h) (by omega) (by omega)]
          exact rkF_c _ _ (fun j j0 j1 => ruC_c (fun c c0 c1 => t1 c (by omega) (by omega)))
        rw [e2]
        have c1 : coC σ (hpb h) = (A.1 h).1 := congrArg (fun x : Hl => x.1) a1
        have c2 : rlC σ (hpb h) = (A.1 h).2.1 := congrArg (fun x : Hl => x.2.1) a1
        rw [c1, c2]
      have eh2 : hlR ρ h = ((A.1 h).1, (A.1 h).2.1, (runA (A.1 h) n.toNat).2, (runA (A.1 h) n.toNat).1) := by
        have q1 : coR ρ h = coR (su τ 373 0 0) h := by unfold coR; rw [p1.2.1 374 (by omega) (by omega)]
        have q2 : rlR ρ h = rlR (su τ 373 0 0) h := p1.rl
        unfold hlR
        rw [p2, p3, q1, q2]
        have c1 : coR (su τ 373 0 0) h = (A.1 h).1 := congrArg (fun x : Hl => x.1) b2
        have c2 : rlR (su τ 373 0 0) h = (A.1 h).2.1 := congrArg (fun x : Hl => x.2.1) b2
        rw [c1, c2]
      have kp2 := (Kp.th (h := h) Vr1.2.1.1).trans (p1.kp (fun _ => p4))
      refine Lk.ok (v := (runA (A.1 h) n.toNat).2) ⟨by omega, by omega⟩ (o.st kH) (Vc.h h0 h2 kp t2 eh (by rw [t1 (hpb h) (by omega) (by omega)]; exact a3)) (Vr1.h kp2 eh2) kp2.1.2.2.2.2.2.2.2.2.2 z0 (fun u Q => ?_) (fun u Q => ?_)
      · simp (disch := first | assumption | omega | exact notL_I | exact notL_N | exact notL_R | exact catS_le (Nat.le_of_ble_eq_true rfl) | exact Nat.le_of_ble_eq_true rfl | exact ooRo (by assumption) | exact ooAt (by assumption) | exact ooRu (by assumption) | exact ooLo (by assumption) | exact ooHa (by assumption) | exact ooLe (by assumption) | exact ooFn | exact ooAn | exact ooPa | exact ooTo | exact ooWa | exact ooCh | rfl) only [x92_0, x92_1, x92_2, x92_5, x92_6, x92_7, x92_10, x92_11, x92_13, x92_16, x92_17, x92_18, x92_19, x92_20, x92_23, x92_24, x92_27, ha, gCh_finder, t5, Kc_some, if_pos, if_neg, ↓reduceIte, not_true_eq_false, not_false_eq_true]
      · simp (disch := first | omega | exact notL_I | exact notL_N | exact notL_R | exact oM | exact catS_le (Nat.le_of_ble_eq_true rfl) | exact Nat.le_of_ble_eq_true rfl | rfl) only [x241_0, x241_1, x241_2, x241_5, x241_8, x241_11, x241_12, x241_13, x241_14, x241_15, x241_17, x241_20, x241_23, x241_24, x241_25, x241_26, x241_29, x241_32, x241_33, ry, fa, is1, p6, Kc_some, if_pos, if_neg, ↓reduceIte, not_true_eq_false, not_false_eq_true]
    · have ry := r_yes (sc := sc) (d := d - 1) (σ := σ) (h := h) (by omega) h0 h2
      have fa := fun u Q => s_fails (sc := sc) (σ := σ) (u := u) (Q := Q) (d := d - 1) (b := 0) (Or.inl rfl)
      have is1 := fun u Q => s_isIn (sc := sc) (σ := su σ 373 0 0) (u := u) (Q := Q) (d := d - 1) (v := n) (a := 0) (b := 100) ⟨n1, n2⟩ ⟨by decide, by decide⟩ ⟨by decide, by decide⟩
      simp only [if_neg hy] at is1
      refine Lk.eq V (v := -1) ⟨by decide, by decide⟩ (fun u Q => ?_) (fun u Q => ?_)
      · by_cases hn0 : n < 0
        · simp (disch := first | assumption | omega | exact notL_I | exact notL_N | exact notL_R | exact catS_le (Nat.le_of_ble_eq_true rfl) | exact Nat.le_of_ble_eq_true rfl | exact ooRo (by assumption) | exact ooAt (by assumption) | exact ooRu (by assumption) | exact ooLo (by assumption) | exact ooHa (by assumption) | exact ooLe (by assumption) | exact ooFn | exact ooAn | exact ooPa | exact ooTo | exact ooWa | exact ooCh | rfl) only [x92_0, x92_1, x92_2, x92_5, x92_6, x92_7, x92_10, x92_11, x92_13, x92_16, x92_17, x92_18, x92_19, x92_20, x92_23, x92_24, x92_27, ha, Kc_some, if_pos, if_neg, ↓reduceIte, not_true_eq_false, not_false_eq_true]
        · simp (disch := first | assumption | omega | exact notL_I | exact notL_N | exact notL_R | exact catS_le (Nat.le_of_ble_eq_true rfl) | exact Nat.le_of_ble_eq_true rfl | exact ooRo (by assumption) | exact ooAt (by assumption) | exact ooRu (by assumption) | exact ooLo (by assumption) | exact ooHa (by assumption) | exact ooLe (by assumption) | exact ooFn | exact ooAn | exact ooPa | exact ooTo | exact ooWa | exact ooCh | rfl) only [x92_0, x92_1, x92_2, x92_5, x92_6, x92_7, x92_10, x92_11, x92_13, x92_16, x92_17, x92_18, x92_19, x92_20, x92_23, x92_24, x92_27, ha, Kc_some, if_pos, if_neg, ↓reduceIte, not_true_eq_false, not_false_eq_true]
      · simp (disch := first | omega | exact notL_I | exact notL_N | exact notL_R | exact oM | exact catS_le (Nat.le_of_ble_eq_true rfl) | exact Nat.le_of_ble_eq_true rfl | rfl) only [x241_0, x241_1, x241_2, x241_5, x241_8, x241_11, x241_12, x241_13, x241_14, x241_15, x241_17, x241_20, x241_23, x241_24, x241_25, x241_26, x241_29, x241_32, x241_33, ry, fa, is1, Kc_some, if_pos, if_neg, ↓reduceIte, not_true_eq_false, not_false_eq_true]
  · have rn := r_no (sc := sc) (d := d - 1) (σ := σ) (h := h) (by omega) hh hr
    have fa := fun u Q => s_fails (sc := sc) (σ := σ) (u := u) (Q := Q) (d := d - 1) (b := 1) (Or.inr rfl)
    refine Lk.no V (Or.inl ⟨rfl, by decide⟩) (fun u Q => ?_) (fun u Q => ?_)
    · have nh := fun u Q => s_noHallC (sc := sc) (σ := σ) (d := d - 1) (u := u) (Q := Q) hh hr
      simp (disch := first | assumption | omega | exact notL_I | exact notL_N | exact notL_R | exact catS_le (Nat.le_of_ble_eq_true rfl) | exact Nat.le_of_ble_eq_true rfl | exact ooRo (by assumption) | exact ooAt (by assumption) | exact ooRu (by assumption) | exact ooLo (by assumption) | exact ooHa (by assumption) | exact ooLe (by assumption) | exact ooFn | exact ooAn | exact ooPa | exact ooTo | exact ooWa | exact ooCh | rfl) only [x92_0, x92_1, x92_2, x92_5, x92_6, x92_7, x92_10, x92_11, x92_13, x92_16, x92_17, x92_18, x92_19, x92_20, x92_23, x92_24, x92_27, nh]
      exact thrK rfl rfl
    · simp (disch := first | omega | exact notL_I | exact notL_N | exact notL_R | exact oM | exact catS_le (Nat.le_of_ble_eq_true rfl) | exact Nat.le_of_ble_eq_true rfl | rfl) only [x241_0, x241_1, x241_2, x241_5, x241_8, x241_11, x241_12, x241_13, x241_14, x241_15, x241_17, x241_20, x241_23, x241_24, x241_25, x241_26, x241_29, x241_32, x241_33, rn, fa, Kc_some, if_pos, if_neg, ↓reduceIte, not_true_eq_false, not_false_eq_true]
      rfl
end O4
