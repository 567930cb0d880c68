/-! runs of the reference: makes() -/
theorem stR_len {σ : St} {h : Int} (h0 : 0 ≤ σ 383 h) : ((stR σ h).length : Int) = σ 383 h := by
  have : ∀ (k : Nat) (i : Int), (stF σ h k i).length = k := by
    intro k
    induction k with
    | zero => intro i; rfl
    | succ k ih => intro i; rw [stF, List.length_cons, ih]
  unfold stR
  rw [this]
  omega
theorem Dt.rn {σ τ : St} (D : Dt σ τ) {h : Int} : rnR τ h = rnR σ h := by
  have en : naR τ h = naR σ h := by unfold naR; rw [D.1 385 (by omega) (by omega)]
  have eb : byR τ h = byR σ h := by unfold byR; rw [D.1 381 (by omega) (by omega), D.1 380 (by omega) (by omega)]
  have es : stR τ h = stR σ h := by
    have : ∀ (k : Nat) (i : Int), stF τ h k i = stF σ h k i := by
      intro k
      induction k with
      | zero => intro i; rfl
      | succ k ih => intro i; rw [stF, stF, ih, D.1 384 (by omega) (by omega)]
    unfold stR
    rw [D.1 383 (by omega) (by omega), this]
  unfold rnR
  rw [D.rsr, D.1 381 (by omega) (by omega), en, es, eb]
section M8
variable {sc : Scr} {h r : Int}
theorem l_seen {σ : St} {d : Nat} {u : Bool × Nat × Nat × Int} {Q : Rs → HS → Prop} {l3 l5 l6 l7 l8 l9 : Option V} (W : WfM σ) (h1 : 0 ≤ h) (h2 : h ≤ 4) : ∀ (k : Nat) (i : Int), 0 ≤ i → i + k = 100 → (Ex sc d 248 5 [some (vR 373), some (vI h), some (vI r), l3, some (vI i), l5, l6, l7, l8, l9] [] (wH (scp σ 385 (100 * h) 388 0 i) u) Q ↔ Ex sc d 248 37 [some (vR 373), some (vI h), some (vI r), l3, some (vI 100), l5, l6, l7, l8, l9] [] (wH (scp σ 385 (100 * h) 388 0 100) u) Q) := by
  intro k
  induction k with
  | zero =>
    intro i i0 ik
    obtain rfl : i = 100 := by omega
    rw [x248_5]
    simp (disch := first | omega | exact notL_I | exact notL_N | exact notL_R | exact oM | exact catS_le (Nat.le_of_ble_eq_true rfl) | exact Nat.le_of_ble_eq_true rfl | rfl) only [x248_0, x248_1, x248_2, x248_3, x248_7, x248_9, x248_12, x248_13, x248_16, x248_18, x248_19, x248_22, x248_24, x248_25, x248_26, x248_28, x248_29, x248_30, x248_31, x248_34, x248_38, x248_40, x248_42, x248_43, x248_44, x248_45, x248_46, x248_49, x248_52, x248_53, x248_55, x248_57, x248_58, x248_59, x248_60, x248_61, x248_62, x248_63, x248_65, x248_66, x248_69, x248_72, x248_75, x248_76, x248_77, x248_78, x248_79, x248_81, x248_82, x248_84, x248_85, x248_88, x248_90, x248_92, x248_95, x248_98, x248_99, x248_102, x248_104, x248_107, x248_108, x248_109, x248_110, x248_113, x248_116, x248_117, x248_119, x248_121, x248_123, x248_126, x248_127, x248_130, x248_132, x248_133, x248_136, x248_139, x248_142, x248_144, x248_146, x248_149, x248_150, x248_151, x248_152, x248_155, x248_157, x248_158, x248_159, x248_160, x248_163, x248_165, x248_168, x248_169, x248_172, x248_174, x248_175, x248_176, x248_179, x248_182, x248_185, x248_188, x248_189, x248_191, x248_193, x248_194, x248_195, x248_196, x248_197, x248_200, x248_203, x248_204, x248_205, x248_206, x248_207, x248_209, x248_212, x248_215, x248_216, x248_219, x248_220, x248_221, x248_222, x248_225, x248_228, x248_229, x248_230, x248_233, x248_234, x248_235, x248_237, x248_240, x248_241, x248_244, x248_245, x248_246, x248_247, x248_248, x248_251, x248_254, x248_255, x248_256, x248_257, x248_258, x248_259, x248_260, x248_261, x248_262, x248_265, x248_267, x248_268, x248_270, x248_272, x248_273, x248_274, x248_275, x248_276, x248_279, x248_282, x248_283, x248_284, x248_285, x248_286, x248_288, x248_289, x248_292, x248_294, x248_295, x248_296, x248_297, x248_299, x248_300, x248_303, x248_305, x248_306, x248_307, x248_308, x248_310, x248_311, x248_314, x248_316, x248_317, x248_318, x248_319, x248_321, x248_322, x248_325, x248_327, x248_328, x248_329, x248_331, x248_333, x248_335, x248_337, x248_340, x248_341, x248_344, x248_345, x248_348, x248_351, x248_352, x248_353, x248_354, x248_355, x248_357, x248_359, x248_361, x248_363, x248_366, x248_367, x248_369, x248_370, x248_373, x248_376, x248_377, if_pos, if_neg, ↓reduceIte, not_true_eq_false, not_false_eq_true]
  | succ k ih =>
    intro i i0 ik
    have w := W.nam (k := i) h1 h2 i0 (by omega)
    rw [x248_5]
    simp (disch := first | omega | exact notL_I | exact notL_N | exact notL_R | exact oM | exact catS_le (Nat.le_of_ble_eq_true rfl) | exact Nat.le_of_ble_eq_true rfl | rfl) only [x248_0, x248_1, x248_2, x248_3, x248_7, x248_9, x248_12, x248_13, x248_16, x248_18, x248_19, x248_22, x248_24, x248_25, x248_26, x248_28, x248_29, x248_30, x248_31, x248_34, x248_38, x248_40, x248_42, x248_43, x248_44, x248_45, x248_46, x248_49, x248_52, x248_53, x248_55, x248_57, x248_58, x248_59, x248_60, x248_61, x248_62, x248_63, x248_65, x248_66, x248_69, x248_72, x248_75, x248_76, x248_77, x248_78, x248_79, x248_81, x248_82, x248_84, x248_85, x248_88, x248_90, x248_92, x248_95, x248_98, x248_99, x248_102, x248_104, x248_107, x248_108, x248_109, x248_110, x248_113, x248_116, x248_117, x248_119, x248_121, x248_123, x248_126, x248_127, x248_130, x248_132, x248_133, x248_136, x248_139, x248_142, x248_144, x248_146, x248_149, x248_150, x248_151, x248_152, x248_155, x248_157, x248_158, x248_159, x248_160, x248_163, x248_165, x248_168, x248_169, x248_172, x248_174, x248_175, x248_176, x248_179, x248_182, x248_185, x248_188, x248_189, x248_191, x248_193, x248_194, x248_195, x248_196, x248_197, x248_200, x248_203, x248_204, x248_205, x248_206, x248_207, x248_209, x248_212, x248_215, x248_216, x248_219, x248_220, x248_221, x248_222, x248_225, x248_228, x248_229, x248_230, x248_233, x248_234, x248_235, x248_237, x248_240, x248_241, x248_244, x248_245, x248_246, x248_247, x248_248, x248_251, x248_254, x248_255, x248_256, x248_257, x248_258, x248_259, x248_260, x248_261, x248_262, x248_265, x248_267, x248_268, x248_270, x248_272, x248_273, x248_274, x248_275, x248_276, x248_279, x248_282, x248_283, x248_284, x248_285, x248_286, x248_288, x248_289, x248_292, x248_294, x248_295, x248_296, x248_297, x248_299, x248_300, x248_303, x248_305, x248_306, x248_307, x248_308, x248_310, x248_311, x248_314, x248_316, x248_317, x248_318, x248_319, x248_321, x248_322, x248_325, x248_327, x248_328, x248_329, x248_331, x248_333, x248_335, x248_337, x248_340, x248_341, x248_344, x248_345, x248_348, x248_351, x248_352, x248_353, x248_354, x248_355, x248_357, x248_359, x248_361, x248_363, x248_366, x248_367, x248_369, x248_370, x248_373, x248_376, x248_377, gM_seen, gM_named, RM_named, WM_seen, scp_ne, if_pos, if_neg, ↓reduceIte, not_true_eq_false, not_false_eq_true]
    rw [scp_su i0 rfl (by rw [Int.zero_add])]
    exact ih (i + 1) (by omega) (by omega)
set_option maxHeartbeats 2000000 in
theorem s_makes {σ : St} {d : Nat} {q : List Rw} (hd : 5 ≤ d) (W : WfM σ) (h1 : 0 ≤ h) (h2 : h ≤ 4) (r1 : 0 ≤ r) (r2 : r ≤ 9) (hg : gdB (σ 389)) (hβ : okB (cB (σ 389))) (hc : atC σ h r 1 (σ 376 (30 * (10 * h + r) + 2))) (hs : σ 383 h ≤ 99) (hl : (q.length : Int) = σ 376 (30 * (10 * h + r))) (hq : ∀ (j : Nat) (w : Rw), q[j]? = some w → σ 391 j = w.1) (h40 : (rsR σ h).length ≤ 40) :
    ∃ τ k, Mf h σ τ ∧ (rnR τ h, k) = makeA r (ruR σ h r) q (cB (σ 389)) (rnR σ h) ∧ τ 382 = σ 382 ∧ (∀ c, 389 < c → τ c = σ c) ∧ RnA sc d 248 0 [some (vR 373), some (vI h), some (vI r), none, none, none, none, none, none, none] σ (some (vI k)) τ := by
  have wr := W.rul h1 h2 r1 r2
  have ws := W.stp h1 h2
  have wn := W.nxt h1 h2
  have hU : ∀ k, 0 ≤ k → k < 100 → naR σ h k = 0 ∨ naR σ h k = 1 := fun k k0 k1 => by
    unfold naR
    rw [if_pos (by omega)]
    exact W.nam h1 h2 k0 (by omega)
  generalize hF : (scp σ 385 (100 * h) 388 0 100) 388 = F
  have eS : scp σ 385 (100 * h) 388 0 100 = sN σ (σ 389) F := by
    funext c
    by_cases c9 : c = 389
    · subst c9; rw [sN_9, scp_ne (by omega)]
    · by_cases c8 : c = 388
      · subst c8; rw [sN_8, hF]
      · rw [sN_ne c9 c8, scp_ne c8]
  have hS : Sn (naR σ h) F 0 := by
    intro k k0 k1
    rw [if_neg (by omega), ← hF, scp_at, if_pos (by omega)]
    unfold naR
    rw [if_pos (by omega)]
    congr 1
    omega
  have start : ∀ (u : Bool × Nat × Nat × Int) (Q : Rs → HS → Prop), Ex sc d 248 0 [some (vR 373), some (vI h), some (vI r), none, none, none, none, none, none, none] [] (wH σ u) Q ↔ Ex sc d 248 40 [some (vR 373), some (vI h), some (vI r), some (vI 0), some (vI 0), none, none, none, none, none] [] (wH (sN σ (σ 389) F) u) Q := by
    intro u Q
    have ls := l_seen (sc := sc) (d := d) (u := u) (Q := Q) (r := r) (σ := σ) (l3 := some (vI 0)) (l5 := none) (l6 := none) (l7 := none) (l8 := none) (l9 := none) W h1 h2 100 0 (by omega) (by omega)
    rw [scp_0, eS] at ls
    refine Iff.trans ?_ (ls.trans ?_)
    · simp (disch := first | omega | exact notL_I | exact notL_N | exact notL_R | exact oM | exact catS_le (Nat.le_of_ble_eq_true rfl) | exact Nat.le_of_ble_eq_true rfl | rfl) only [x248_0, x248_1, x248_2, x248_3]
    · simp (disch := first | omega | exact notL_I | exact notL_N | exact notL_R | exact oM | exact catS_le (Nat.le_of_ble_eq_true rfl) | exact Nat.le_of_ble_eq_true rfl | rfl) only [x248_37, x248_38]
  have hfull : atsF σ h r 1 (σ 376 (30 * (10 * h + r) + 2)).toNat 0 = (ruR σ h r).2.2.1 := rfl
  unfold makeA
  rw [← hfull]
  have hU0 : (rnR σ h).2.2.1 = naR σ h := rfl
  rw [hU0, nameA_P]
  rcases l_mkB (sc := sc) (d := d) (l3 := some (vI 0)) (l8 := none) (l9 := none) (by omega) W h1 h2 r1 r2 hc hU (σ 376 (30 * (10 * h + r) + 2)).toNat 0 0 (σ 389) F (by omega) (by omega) hg hS (by omega) (by omega) with ⟨e0, g', f', hg', y0⟩ | ⟨g', f', fr', hg', e0, y0⟩
  · rw [e0]
    have D : Dt σ (sN σ g' f') := Dt.sN_
    refine ⟨sN σ g' f', 3, Mf.dt W D.1 (RsR.of (fun c _ _ => sN_ne (by omega) (by omega)) (fun j _ => by rw [sN_ne (by omega) (by omega)])) (by rw [sN_ne (by omega) (by omega)]), by rw [D.rn]; rfl, sN_ne (by omega) (by omega), fun c hcc => sN_ne (by omega) (by omega), fun u Q => (start u Q).trans (y0 u Q none none none notL_N notL_N notL_N)⟩
  · rw [e0]
    dsimp only [Option.map_some]
    have na : nameA (naR σ h) (plcL (atsF σ h r 1 (σ 376 (30 * (10 * h + r) + 2)).toNat 0)) 0 (cB (σ 389)) = some (cB g') := by rw [nameA_P, e0]; rfl
    obtain ⟨n1, n2, n3⟩ := nameA_ok _ _ _ _ hβ (by omega) na
    have D : Dt σ (sN σ g' f') := Dt.sN_
    have M0 : Mf h σ (sN σ g' f') := Mf.dt W D.1 (RsR.of (fun c _ _ => sN_ne (by omega) (by omega)) (fun j _ => by rw [sN_ne (by omega) (by omega)])) (by rw [sN_ne (by omega) (by omega)])
    have W0 := D.wf W
    have er : rsR (sN σ g' f') h = rsR σ h := D.rsr
    have ea : ∀ k i, atsF (sN σ g' f') h r 1 k i = atsF σ h r 1 k i := fun k i => D.ats k i
    have e6 : sN σ g' f' 376 = σ 376 := sN_ne (by omega) (by omega)
    have e1 : sN σ g' f' 391 = σ 391 := sN_ne (by omega) (by omega)
    have e83 : sN σ g' f' 383 h = σ 383 h := by rw [sN_ne (by omega) (by omega)]
    have hc0 : atC (sN σ g' f') h r 1 (sN σ g' f' 376 (30 * (10 * h + r) + 2)) := by rw [e6]; exact atC_dt D hc
    have hg0 : gdB (sN σ g' f' 389) := by rw [sN_9]; exact hg'
    have rnE : rnR (sN σ g' f') h = rnR σ h := D.rn
    generalize hgs : (atsF σ h r 1 (σ 376 (30 * (10 * h + r) + 2)).toNat 0).map (grA (cB g')) = gs
    have hneed := plan_new (L := rsR σ h) gs [] [] (fun _ _ => Iff.rfl)
    rw [List.length_nil, Int.natCast_zero, Int.zero_add] at hneed
    have hPl : (planF (rsR σ h) gs []).length ≤ 3 := by
      have q1 := planF_len (L := rsR σ h) gs []
      have q2 : gs.length = (σ 376 (30 * (10 * h + r) + 2)).toNat := by
        rw [← hgs, List.length_map]
        have : ∀ (k : Nat) (i : Int), (atsF σ h r 1 k i).length = k := by
          intro k
          induction k with
          | zero => intro i; rfl
          | succ k ih => intro i; rw [atsF, List.length_cons, ih]
        exact this _ _
      rw [List.length_nil] at q1
      omega
    have hr1 : (rnR σ h).1 = rsR σ h := rfl
    have hr2 : (rnR σ h).2.1 = σ 381 h := rfl
    rw [hr1, hr2]
    -- to the count of new ones
    have cnt : ∀ (u : Bool × Nat × Nat × Int) (Q : Rs → HS → Prop) (l5 l6 l7 : Option V), Ex sc d 248 188 [some (vR 373), some (vI h), some (vI r), some (vI 0), some (vI (σ 376 (30 * (10 * h + r) + 2))), l5, l6, l7, none, none] [] (wH (sN σ g' f') u) Q ↔ Ex sc d 248 228 [some (vR 373), some (vI h), some (vI r), some (vI (((planF (rsR σ h) gs []).length : Int))), some (vI (σ 376 (30 * (10 * h + r) + 2))), l5, l6, l7, none, none] [] (wH (sN σ g' f') u) Q := by
      intro u Q l5 l6 l7
      have ln := l_need (sc := sc) (d := d) (u := u) (Q := Q) (h := h) (r := r) (σ := sN σ g' f') (l5 := l5) (l6 := l6) (l7 := l7) (l8 := none) (l9 := none) (by omega) W0 hg0 hc0 h1 h2 r1 r2 (σ 376 (30 * (10 * h + r) + 2)).toNat 0 0 (by omega) (by rw [e6]; omega)
      rw [ea, ea, er, sN_9, e6, hgs, Int.zero_add] at ln
      have z : (atsF σ h r 1 (0 : Int).toNat 0).map (grA (cB g')) = [] := rfl
      rw [z, ← hneed] at ln
      refine Iff.trans ?_ ln
      simp (disch := first | omega | exact notL_I | exact notL_N | exact notL_R | exact oM | exact catS_le (Nat.le_of_ble_eq_true rfl) | exact Nat.le_of_ble_eq_true rfl | rfl) only [x248_188, x248_189]
    have rsum := fun u Q => s_rowSum (sc := sc) (d := d - 1) (u := u) (Q := Q) (σ := sN σ g' f') W0 h1 h2
    rw [er] at rsum
    have e81 : sN σ g' f' 381 h = σ 381 h := by rw [sN_ne (by omega) (by omega)]
    by_cases hroom : 40 < (rsR σ h).length + (planF (rsR σ h) gs []).length ∨ 200 < σ 381 h + (planF (rsR σ h) gs []).length
    · rw [if_pos hroom]
      refine ⟨sN σ g' f', 3, M0, by rw [rnE], sN_ne (by omega) (by omega), fun c hcc => sN_ne (by omega) (by omega), fun u Q => (start u Q).trans (y0 u Q none none none _ notL_N notL_N notL_N (fun l5 l6 l7 n5 n6 n7 => (cnt u Q l5 l6 l7).trans ?_))⟩
      by_cases hr : 40 < ((rsR σ h).length : Int) + (planF (rsR σ h) gs []).length
      · simp (disch := first | omega | exact notL_I | exact notL_N | exact notL_R | exact oM | exact catS_le (Nat.le_of_ble_eq_true rfl) | exact Nat.le_of_ble_eq_true rfl | rfl) only [x248_0, x248_1, x248_2, x248_3, x248_7, x248_9, x248_12, x248_13, x248_16, x248_18, x248_19, x248_22, x248_24, x248_25, x248_26, x248_28, x248_29, x248_30, x248_31, x248_34, x248_37, x248_38, x248_42, x248_43, x248_44, x248_45, x248_46, x248_49, x248_52, x248_53, x248_57, x248_58, x248_59, x248_60, x248_61, x248_62, x248_63, x248_65, x248_66, x248_69, x248_72, x248_75, x248_76, x248_77, x248_78, x248_79, x248_81, x248_82, x248_84, x248_85, x248_88, x248_90, x248_92, x248_95, x248_98, x248_99, x248_102, x248_104, x248_107, x248_108, x248_109, x248_110, x248_113, x248_116, x248_117, x248_121, x248_123, x248_126, x248_127, x248_130, x248_132, x248_133, x248_136, x248_139, x248_142, x248_144, x248_146, x248_149, x248_150, x248_151, x248_152, x248_155, x248_157, x248_158, x248_159, x248_160, x248_163, x248_165, x248_168, x248_169, x248_172, x248_174, x248_175, x248_176, x248_179, x248_182, x248_185, x248_188, x248_189, x248_193, x248_194, x248_195, x248_196, x248_197, x248_200, x248_203, x248_204, x248_205, x248_206, x248_207, x248_209, x248_212, x248_215, x248_216, x248_219, x248_220, x248_221, x248_222, x248_225, x248_228, x248_229, x248_230, x248_233, x248_234, x248_235, x248_237, x248_240, x248_241, x248_244, x248_245, x248_246, x248_247, x248_248, x248_251, x248_254, x248_255, x248_256, x248_257, x248_258, x248_259, x248_260, x248_261, x248_262, x248_265, x248_267, x248_268, x248_272, x248_273, x248_274, x248_275, x248_276, x248_279, x248_282, x248_283, x248_284, x248_285, x248_286, x248_288, x248_289, x248_292, x248_294, x248_295, x248_296, x248_297, x248_299, x248_300, x248_303, x248_305, x248_306, x248_307, x248_308, x248_310, x248_311, x248_314, x248_316, x248_317, x248_318, x248_319, x248_321, x248_322, x248_325, x248_327, x248_328, x248_329, x248_331, x248_333, x248_335, x248_337, x248_340, x248_341, x248_344, x248_345, x248_348, x248_351, x248_352, x248_353, x248_354, x248_355, x248_357, x248_359, x248_361, x248_363, x248_366, x248_367, x248_369, x248_370, x248_373, x248_376, x248_377, rsum, Kc_some, if_pos, if_neg, ↓reduceIte, not_true_eq_false, not_false_eq_true]
      · simp (disch := first | omega | exact notL_I | exact notL_N | exact notL_R | exact oM | exact catS_le (Nat.le_of_ble_eq_true rfl) | exact Nat.le_of_ble_eq_true rfl | rfl) only [x248_0, x248_1, x248_2, x248_3, x248_7, x248_9, x248_12, x248_13, x248_16, x248_18, x248_19, x248_22, x248_24, x248_25, x248_26, x248_28, x248_29, x248_30, x248_31, x248_34, x248_37, x248_38, x248_42, x248_43, x248_44, x248_45, x248_46, x248_49, x248_52, x248_53, x248_57, x248_58, x248_59, x248_60, x248_61, x248_62, x248_63, x248_65, x248_66, x248_69, x248_72, x248_75, x248_76, x248_77, x248_78, x248_79, x248_81, x248_82, x248_84, x248_85, x248_88, x248_90, x248_92, x248_95, x248_98, x248_99, x248_102, x248_104, x248_107, x248_108, x248_109, x248_110, x248_113, x248_116, x248_117, x248_121, x248_123, x248_126, x248_127, x248_130, x248_132, x248_133, x248_136, x248_139, x248_142, x248_144, x248_146, x248_149, x248_150, x248_151, x248_152, x248_155, x248_157, x248_158, x248_159, x248_160, x248_163, x248_165, x248_168, x248_169, x248_172, x248_174, x248_175, x248_176, x248_179, x248_182, x248_185, x248_188, x248_189, x248_193, x248_194, x248_195, x248_196, x248_197, x248_200, x248_203, x248_204, x248_205, x248_206, x248_207, x248_209, x248_212, x248_215, x248_216, x248_219, x248_220, x248_221, x248_222, x248_225, x248_228, x248_229, x248_230, x248_233, x248_234, x248_235, x248_237, x248_240, x248_241, x248_244, x248_245, x248_246, x248_247, x248_248, x248_251, x248_254, x248_255, x248_256, x248_257, x248_258, x248_259, x248_260, x248_261, x248_262, x248_265, x248_267, x248_268, x248_272, x248_273, x248_274, x248_275, x248_276, x248_279, x248_282, x248_283, x248_284, x248_285, x248_286, x248_288, x248_289, x248_292, x248_294, x248_295, x248_296, x248_297, x248_299, x248_300, x248_303, x248_305, x248_306, x248_307, x248_308, x248_310, x248_311, x248_314, x248_316, x248_317, x248_318, x248_319, x248_321, x248_322, x248_325, x248_327, x248_328, x248_329, x248_331, x248_333, x248_335, x248_337, x248_340, x248_341, x248_344, x248_345, x248_348, x248_351, x248_352, x248_353, x248_354, x248_355, x248_357, x248_359, x248_361, x248_363, x248_366, x248_367, x248_369, x248_370, x248_373, x248_376, x248_377, rsum, gM_nextRow, RM_nextRow, e81, Kc_some, if_pos, if_neg, ↓reduceIte, not_true_eq_false, not_false_eq_true]
    · rw [if_neg hroom]
      have hs0 : sN σ g' f' 383 h ≤ 99 := by rw [e83]; exact hs
      have tl := s_tells (sc := sc) (d := d - 1) (h := h) (r := r) (made := ((planF (rsR σ h) gs []).length : Int)) (a := -1) (b := -1) (q := q) (σ := sN σ g' f') (by omega) W0 h1 h2 r1 r2 hs0 (by rw [e6]; exact hl) (by rw [e1]; exact hq)
      obtain ⟨M1, v1⟩ := tlS_v (σ := sN σ g' f') (h := h) (r := r) (made := ((planF (rsR σ h) gs []).length : Int)) (v0 := numO q[0]?) (v1 := numO q[1]?) (v2 := numO q[2]?) (a := -1) (b := -1) W0 h1 h2 hs0
      obtain ⟨to, -, -⟩ := tlS_o (σ := sN σ g' f') (h := h) (r := r) (made := ((planF (rsR σ h) gs []).length : Int)) (v0 := numO q[0]?) (v1 := numO q[1]?) (v2 := numO q[2]?) (a := -1) (b := -1)
      generalize tlS (sN σ g' f') h r ((planF (rsR σ h) gs []).length : Int) (numO q[0]?) (numO q[1]?) (numO q[2]?) (-1) (-1) = τt at tl M1 v1 to
      rw [e83] at tl
      have rn0 : (rsR (sN σ g' f') h, sN σ g' f' 381 h, naR (sN σ g' f') h, stR (sN σ g' f') h, byR (sN σ g' f') h) = rnR σ h := rnE
      have g1 : rsR (sN σ g' f') h = rsR σ h := er
      have g3 : naR (sN σ g' f') h = naR σ h := congrArg (fun q : Rn => q.2.2.1) rn0
      have g4 : stR (sN σ g' f') h = stR σ h := congrArg (fun q : Rn => q.2.2.2.1) rn0
      have g5 : byR (sN σ g' f') h = byR σ h := congrArg (fun q : Rn => q.2.2.2.2) rn0
      rw [g1, e81, g3, g4, g5] at v1
      have key : seqR (σ 383 h) gs (rnR τt h) = (addL (rsR σ h) (σ 381 h) (planF (rsR σ h) gs []), σ 381 h + (planF (rsR σ h) gs []).length, mksU (naR σ h) (planF (rsR σ h) gs []), stR σ h ++ [stpL r (planF (rsR σ h) gs []).length q (-1) (-1)], byF (byR σ h) (σ 381 h) (planF (rsR σ h) gs []).length (σ 383 h)) := by
        have sp := seqR_plan (s := σ 383 h) (n := σ 381 h) (L := rsR σ h) (U := naR σ h) (B := byR σ h) (S := stR σ h ++ [stpL r (planF (rsR σ h) gs []).length q (-1) (-1)]) gs []
        rw [← sp, v1]
        congr 1
        have b0 : byF (byR σ h) (σ 381 h) ([] : List At).length (σ 383 h) = byR σ h := byF_0
        rw [b0, List.length_nil, Int.natCast_zero, Int.add_zero]
        rfl
      have hT9 : ∀ i c, 0 ≤ i → i < sN σ g' f' 376 (30 * (10 * h + r) + 2) → 0 ≤ c → c ≤ 2 → isTm (pvM (sN σ g' f') h r i c) := by
        intro i c i0 i1 c0 c1
        rw [e6] at i1
        obtain ⟨a1, p1, p2, p3⟩ := W.ato (s := 1) (i := i) h1 h2 r1 r2 (by omega) (by omega) i0 (by omega)
        have hin : atR σ h r 1 i ∈ atsF σ h r 1 (σ 376 (30 * (10 * h + r) + 2)).toNat 0 := by
          have : ∀ (k : Nat) (j : Int), j ≤ i → i < j + k → atR σ h r 1 i ∈ atsF σ h r 1 k j := by
            intro k
            induction k with
            | zero => intro j z1 z2; omega
            | succ k ih =>
              intro j z1 z2
              rw [atsF]
              by_cases z3 : j = i
              · subst z3; exact List.mem_cons_self
              · exact List.mem_cons_of_mem _ (ih (j + 1) (by omega) (by omega))
          exact this _ 0 i0 (by omega)
        have bnd : ∀ p, (p = (atR σ h r 1 i).2.1 ∨ p = (atR σ h r 1 i).2.2.1 ∨ p = (atR σ h r 1 i).2.2.2) → 2000 ≤ p → cB g' (p - 2000) ≠ -1 := by
          intro p hp hp2
          refine n3 p ?_ hp2
          unfold plcL
          rw [List.mem_flatMap]
          refine ⟨_, hin, ?_⟩
          rcases hp with rfl | rfl | rfl <;> simp
        have t0 : isTm 0 := by unfold isTm; omega
        unfold pvM
        rw [e6, show sN σ g' f' 374 = σ 374 from sN_ne (by omega) (by omega), sN_9]
        split
        · rename_i hcm
          rcases (show c = 0 ∨ c = 1 ∨ c = 2 by omega) with rfl | rfl | rfl
          · show isTm (worthB g' (σ 376 (30 * (10 * h + r) + (3 + 4 * (3 * 1 + i) + 1))))
            rw [← worthB_c (f := g') p1]
            exact worth_ok n1 p1 (fun z => bnd _ (Or.inl rfl) z)
          · show isTm (worthB g' (σ 376 (30 * (10 * h + r) + (3 + 4 * (3 * 1 + i) + 2))))
            rw [← worthB_c (f := g') p2]
            have eY : (atR σ h r 1 i).2.2.1 = σ 376 (30 * (10 * h + r) + (3 + 4 * (3 * 1 + i) + 2)) := if_pos (by omega)
            exact worth_ok n1 p2 (fun z => bnd _ (Or.inr (Or.inl eY.symm)) z)
          · show isTm (worthB g' (σ 376 (30 * (10 * h + r) + (3 + 4 * (3 * 1 + i) + 3))))
            rw [← worthB_c (f := g') p3]
            have eZ : (atR σ h r 1 i).2.2.2 = σ 376 (30 * (10 * h + r) + (3 + 4 * (3 * 1 + i) + 3)) := if_pos (by omega)
            exact worth_ok n1 p3 (fun z => bnd _ (Or.inr (Or.inr eZ.symm)) z)
        · exact t0
      have h200 : (seqR (σ 383 h) ((atsF (sN σ g' f') h r 1 (σ 376 (30 * (10 * h + r) + 2)).toNat 0).map (grA (cB (sN σ g' f' 389)))) (rnR τt h)).2.1 ≤ 200 := by
        rw [ea, sN_9, hgs, key]
        dsimp only
        omega
      obtain ⟨τ, q1, q2, q3, q4, q5⟩ := l_mkF (sc := sc) (d := d) (h := h) (r := r) (σ := sN σ g' f') (s := σ 383 h) (l3 := some (vI ((planF (rsR σ h) gs []).length : Int))) (by omega) hg0 hc0 h1 h2 r1 r2 (by omega) (by omega) W0 hT9 (σ 376 (30 * (10 * h + r) + 2)).toNat 0 τt M1.2.2.2.1 (M1.2.1 374 (by omega) (by omega)) (M1.2.1 376 (by omega) (by omega)) (to 389 (by omega) (by omega)) (by omega) (by rw [e6]; omega) h200
      rw [ea, sN_9, hgs, key] at q2
      have ls := stR_len (σ := σ) (h := h) ws.1
      refine ⟨τ, 0, M0.trans (M1.trans q1), ?_, by rw [q3, to 382 (by omega) (by omega), sN_ne (by omega) (by omega)], fun c hcc => by rw [q4 c (by omega), to c (by omega) (by omega), sN_ne (by omega) (by omega)], fun u Q => (start u Q).trans (y0 u Q none none none _ notL_N notL_N notL_N (fun l5 l6 l7 n5 n6 n7 => (cnt u Q l5 l6 l7).trans ?_))⟩
      · rw [q2, ← ls]
        rfl
      · have q6 := q5 u Q l6 l7 none none n6 n7 notL_N
        refine Iff.trans ?_ q6
        simp (disch := first | omega | exact notL_I | exact notL_N | exact notL_R | exact oM | exact catS_le (Nat.le_of_ble_eq_true rfl) | exact Nat.le_of_ble_eq_true rfl | rfl) only [x248_0, x248_1, x248_2, x248_3, x248_7, x248_9, x248_12, x248_13, x248_16, x248_18, x248_19, x248_22, x248_24, x248_25, x248_26, x248_28, x248_29, x248_30, x248_31, x248_34, x248_37, x248_38, x248_42, x248_43, x248_44, x248_45, x248_46, x248_49, x248_52, x248_53, x248_57, x248_58, x248_59, x248_60, x248_61, x248_62, x248_63, x248_65, x248_66, x248_69, x248_72, x248_75, x248_76, x248_77, x248_78, x248_79, x248_81, x248_82, x248_84, x248_85, x248_88, x248_90, x248_92, x248_95, x248_98, x248_99, x248_102, x248_104, x248_107, x248_108, x248_109, x248_110, x248_113, x248_116, x248_117, x248_121, x248_123, x248_126, x248_127, x248_130, x248_132, x248_133, x248_136, x248_139, x248_142, x248_144, x248_146, x248_149, x248_150, x248_151, x248_152, x248_155, x248_157, x248_158, x248_159, x248_160, x248_163, x248_165, x248_168, x248_169, x248_172, x248_174, x248_175, x248_176, x248_179, x248_182, x248_185, x248_188, x248_189, x248_193, x248_194, x248_195, x248_196, x248_197, x248_200, x248_203, x248_204, x248_205, x248_206, x248_207, x248_209, x248_212, x248_215, x248_216, x248_219, x248_220, x248_221, x248_222, x248_225, x248_228, x248_229, x248_230, x248_233, x248_234, x248_235, x248_237, x248_240, x248_241, x248_244, x248_245, x248_246, x248_247, x248_248, x248_251, x248_254, x248_255, x248_256, x248_257, x248_258, x248_259, x248_260, x248_261, x248_262, x248_265, x248_267, x248_268, x248_272, x248_273, x248_274, x248_275, x248_276, x248_279, x248_282, x248_283, x248_284, x248_285, x248_286, x248_288, x248_289, x248_292, x248_294, x248_295, x248_296, x248_297, x248_299, x248_300, x248_303, x248_305, x248_306, x248_307, x248_308, x248_310, x248_311, x248_314, x248_316, x248_317, x248_318, x248_319, x248_321, x248_322, x248_325, x248_327, x248_328, x248_329, x248_331, x248_333, x248_335, x248_337, x248_340, x248_341, x248_344, x248_345, x248_348, x248_351, x248_352, x248_353, x248_354, x248_355, x248_357, x248_359, x248_361, x248_363, x248_366, x248_367, x248_369, x248_370, x248_373, x248_376, x248_377, rsum, gM_nextRow, RM_nextRow, e81, tl u, Kc_some, if_pos, if_neg, ↓reduceIte, not_true_eq_false, not_false_eq_true]
end M8
