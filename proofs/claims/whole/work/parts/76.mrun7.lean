/-! runs of the reference: rows made -/
def seqR (s : Int) : List At → Rn → Rn
  | [], x => x
  | g :: gs, x => if findL x.1 g = none then seqR s gs (x.1 ++ [(x.2.1, g)], x.2.1 + 1, mkU x.2.2.1 g, x.2.2.2.1, fun k => if k = x.2.1 then s else x.2.2.2.2 k) else seqR s gs x
theorem seqR_mono {s : Int} : ∀ (gs : List At) (x : Rn), x.2.1 ≤ (seqR s gs x).2.1 := by
  intro gs
  induction gs with
  | nil => intro x; exact Int.le_refl _
  | cons g gs ih =>
    intro x
    rw [seqR]
    split
    · have := ih (x.1 ++ [(x.2.1, g)], x.2.1 + 1, mkU x.2.2.1 g, x.2.2.2.1, fun k => if k = x.2.1 then s else x.2.2.2.2 k)
      dsimp only at this
      omega
    · exact ih x
theorem byF_snoc {f : Int → Int} {n s : Int} {m : Nat} : (fun k => if k = n + m then s else byF f n m s k) = byF f n (m + 1) s := by
  funext k
  unfold byF
  by_cases h : k = n + m
  · rw [if_pos h, if_pos (by omega)]
  · rw [if_neg h]
    by_cases h2 : n ≤ k ∧ k < n + m
    · rw [if_pos h2, if_pos (by omega)]
    · rw [if_neg h2, if_neg (by omega)]
theorem seqR_plan {s n : Int} {L : List Rw} {U B : Int → Int} {S : List (List Int)} : ∀ (gs P : List At), seqR s gs (addL L n P, n + P.length, mksU U P, S, byF B n P.length s) = (addL L n (planF L gs P), n + (planF L gs P).length, mksU U (planF L gs P), S, byF B n (planF L gs P).length s) := by
  intro gs
  induction gs with
  | nil => intro P; rfl
  | cons g gs ih =>
    intro P
    rw [seqR, planF]
    by_cases h : findL L g = none ∧ g ∉ P
    · rw [if_pos h, if_pos (find_add.mpr h), ← ih (P ++ [g])]
      dsimp only
      rw [addL_app, List.length_append, List.length_singleton, byF_snoc]
      have e1 : n + (P.length : Int) + 1 = n + ((P.length + 1 : Nat) : Int) := by omega
      have e2 : mkU (mksU U P) g = mksU U (P ++ [g]) := by unfold mksU; rw [List.foldl_append]; rfl
      rw [e1, e2]
    · rw [if_neg h, if_neg (fun z => h (find_add.mp z)), ih]
theorem atsF_snoc {σ : St} {h r s : Int} : ∀ (k : Nat) (i : Int), atsF σ h r s (k + 1) i = atsF σ h r s k i ++ [atR σ h r s (i + k)] := by
  intro k
  induction k with
  | zero => intro i; rw [atsF, atsF, atsF, Int.natCast_zero, Int.add_zero, List.nil_append]
  | succ k ih =>
    intro i
    rw [atsF, ih (i + 1), atsF, List.cons_append]
    rw [show i + 1 + (k : Int) = i + ((k + 1 : Nat) : Int) by omega]
section M7
variable {sc : Scr} {h r : Int}
theorem l_need {σ : St} {d : Nat} {u : Bool × Nat × Nat × Int} {Q : Rs → HS → Prop} {l5 l6 l7 l8 l9 : Option V} (hd : 4 ≤ d) (W : WfM σ) (hg : gdB (σ 389)) (hc : atC σ h r 1 (σ 376 (30 * (10 * h + r) + 2))) (h1 : 0 ≤ h) (h2 : h ≤ 4) (r1 : 0 ≤ r) (r2 : r ≤ 9) : ∀ (k : Nat) (i need : Int), 0 ≤ i → i + k = σ 376 (30 * (10 * h + r) + 2) → (Ex sc d 248 191 [some (vR 373), some (vI h), some (vI r), some (vI need), some (vI i), l5, l6, l7, l8, l9] [] (wH σ u) Q ↔ Ex sc d 248 228 [some (vR 373), some (vI h), some (vI r), some (vI (need + newN (rsR σ h) ((atsF σ h r 1 i.toNat 0).map (grA (cB (σ 389)))) ((atsF σ h r 1 k i).map (grA (cB (σ 389)))))), some (vI (σ 376 (30 * (10 * h + r) + 2))), l5, l6, l7, l8, l9] [] (wH σ u) Q) := by
  have wr := W.rul h1 h2 r1 r2
  intro k
  induction k with
  | zero =>
    intro i need i0 ik
    have hi : i = σ 376 (30 * (10 * h + r) + 2) := by omega
    rw [x248_191, atsF, List.map_nil, newN, Int.add_zero, ← hi]
    simp (disch := first | omega | exact notL_I | exact notL_N | exact notL_R | exact oM | exact catS_le (Nat.le_of_ble_eq_true rfl) | exact Nat.le_of_ble_eq_true rfl | rfl) only [x248_0, x248_1, x248_2, x248_3, x248_5, x248_7, x248_9, x248_12, x248_13, x248_16, x248_18, x248_19, x248_22, x248_24, x248_25, x248_26, x248_28, x248_29, x248_30, x248_31, x248_34, x248_37, x248_38, x248_40, x248_42, x248_43, x248_44, x248_45, x248_46, x248_49, x248_52, x248_53, x248_55, x248_57, x248_58, x248_59, x248_60, x248_61, x248_62, x248_63, x248_65, x248_66, x248_69, x248_72, x248_75, x248_76, x248_77, x248_78, x248_79, x248_81, x248_82, x248_84, x248_85, x248_88, x248_90, x248_92, x248_95, x248_98, x248_99, x248_102, x248_104, x248_107, x248_108, x248_109, x248_110, x248_113, x248_116, x248_117, x248_119, x248_121, x248_123, x248_126, x248_127, x248_130, x248_132, x248_133, x248_136, x248_139, x248_142, x248_144, x248_146, x248_149, x248_150, x248_151, x248_152, x248_155, x248_157, x248_158, x248_159, x248_160, x248_163, x248_165, x248_168, x248_169, x248_172, x248_174, x248_175, x248_176, x248_179, x248_182, x248_185, x248_188, x248_189, x248_193, x248_194, x248_195, x248_196, x248_197, x248_200, x248_203, x248_204, x248_205, x248_206, x248_207, x248_209, x248_212, x248_215, x248_216, x248_219, x248_220, x248_221, x248_222, x248_225, x248_229, x248_230, x248_233, x248_234, x248_235, x248_237, x248_240, x248_241, x248_244, x248_245, x248_246, x248_247, x248_248, x248_251, x248_254, x248_255, x248_256, x248_257, x248_258, x248_259, x248_260, x248_261, x248_262, x248_265, x248_267, x248_268, x248_270, x248_272, x248_273, x248_274, x248_275, x248_276, x248_279, x248_282, x248_283, x248_284, x248_285, x248_286, x248_288, x248_289, x248_292, x248_294, x248_295, x248_296, x248_297, x248_299, x248_300, x248_303, x248_305, x248_306, x248_307, x248_308, x248_310, x248_311, x248_314, x248_316, x248_317, x248_318, x248_319, x248_321, x248_322, x248_325, x248_327, x248_328, x248_329, x248_331, x248_333, x248_335, x248_337, x248_340, x248_341, x248_344, x248_345, x248_348, x248_351, x248_352, x248_353, x248_354, x248_355, x248_357, x248_359, x248_361, x248_363, x248_366, x248_367, x248_369, x248_370, x248_373, x248_376, x248_377, s_rule, ← hi, Kc_some, if_pos, if_neg, ↓reduceIte, not_true_eq_false, not_false_eq_true]
  | succ k ih =>
    intro i need i0 ik
    have nw := fun u Q => s_isNewR (sc := sc) (d := d - 1) (σ := σ) (h := h) (r := r) (i := i) (u := u) (Q := Q) (by omega) W hg hc h1 h2 r1 r2 i0 (by omega)
    have i1 := fun x => ih (i + 1) x (by omega) (by omega)
    have ee : (atsF σ h r 1 (i + 1).toNat 0).map (grA (cB (σ 389))) = (atsF σ h r 1 i.toNat 0).map (grA (cB (σ 389))) ++ [grA (cB (σ 389)) (atR σ h r 1 i)] := by
      rw [show (i + 1).toNat = i.toNat + 1 by omega, atsF_snoc, List.map_append, show (0 : Int) + ((i.toNat : Nat) : Int) = i by omega]
      rfl
    rw [ee] at i1
    rw [x248_191, atsF, List.map_cons, newN]
    by_cases hn : findL (rsR σ h) (grA (cB (σ 389)) (atR σ h r 1 i)) = none ∧ grA (cB (σ 389)) (atR σ h r 1 i) ∉ (atsF σ h r 1 i.toNat 0).map (grA (cB (σ 389)))
    · rw [decide_eq_true hn, bI_t] at nw
      rw [if_pos hn, ← Int.add_assoc]
      simp (disch := first | omega | exact notL_I | exact notL_N | exact notL_R | exact oM | exact catS_le (Nat.le_of_ble_eq_true rfl) | exact Nat.le_of_ble_eq_true rfl | rfl) only [x248_0, x248_1, x248_2, x248_3, x248_5, x248_7, x248_9, x248_12, x248_13, x248_16, x248_18, x248_19, x248_22, x248_24, x248_25, x248_26, x248_28, x248_29, x248_30, x248_31, x248_34, x248_37, x248_38, x248_40, x248_42, x248_43, x248_44, x248_45, x248_46, x248_49, x248_52, x248_53, x248_55, x248_57, x248_58, x248_59, x248_60, x248_61, x248_62, x248_63, x248_65, x248_66, x248_69, x248_72, x248_75, x248_76, x248_77, x248_78, x248_79, x248_81, x248_82, x248_84, x248_85, x248_88, x248_90, x248_92, x248_95, x248_98, x248_99, x248_102, x248_104, x248_107, x248_108, x248_109, x248_110, x248_113, x248_116, x248_117, x248_119, x248_121, x248_123, x248_126, x248_127, x248_130, x248_132, x248_133, x248_136, x248_139, x248_142, x248_144, x248_146, x248_149, x248_150, x248_151, x248_152, x248_155, x248_157, x248_158, x248_159, x248_160, x248_163, x248_165, x248_168, x248_169, x248_172, x248_174, x248_175, x248_176, x248_179, x248_182, x248_185, x248_188, x248_189, x248_193, x248_194, x248_195, x248_196, x248_197, x248_200, x248_203, x248_204, x248_205, x248_206, x248_207, x248_209, x248_212, x248_215, x248_216, x248_219, x248_220, x248_221, x248_222, x248_225, x248_229, x248_230, x248_233, x248_234, x248_235, x248_237, x248_240, x248_241, x248_244, x248_245, x248_246, x248_247, x248_248, x248_251, x248_254, x248_255, x248_256, x248_257, x248_258, x248_259, x248_260, x248_261, x248_262, x248_265, x248_267, x248_268, x248_270, x248_272, x248_273, x248_274, x248_275, x248_276, x248_279, x248_282, x248_283, x248_284, x248_285, x248_286, x248_288, x248_289, x248_292, x248_294, x248_295, x248_296, x248_297, x248_299, x248_300, x248_303, x248_305, x248_306, x248_307, x248_308, x248_310, x248_311, x248_314, x248_316, x248_317, x248_318, x248_319, x248_321, x248_322, x248_325, x248_327, x248_328, x248_329, x248_331, x248_333, x248_335, x248_337, x248_340, x248_341, x248_344, x248_345, x248_348, x248_351, x248_352, x248_353, x248_354, x248_355, x248_357, x248_359, x248_361, x248_363, x248_366, x248_367, x248_369, x248_370, x248_373, x248_376, x248_377, s_rule, nw, Kc_some, if_pos, if_neg, ↓reduceIte, not_true_eq_false, not_false_eq_true]
      exact i1 (need + 1)
    · rw [decide_eq_false hn, bI_f] at nw
      rw [if_neg hn, Int.zero_add]
      simp (disch := first | omega | exact notL_I | exact notL_N | exact notL_R | exact oM | exact catS_le (Nat.le_of_ble_eq_true rfl) | exact Nat.le_of_ble_eq_true rfl | rfl) only [x248_0, x248_1, x248_2, x248_3, x248_5, x248_7, x248_9, x248_12, x248_13, x248_16, x248_18, x248_19, x248_22, x248_24, x248_25, x248_26, x248_28, x248_29, x248_30, x248_31, x248_34, x248_37, x248_38, x248_40, x248_42, x248_43, x248_44, x248_45, x248_46, x248_49, x248_52, x248_53, x248_55, x248_57, x248_58, x248_59, x248_60, x248_61, x248_62, x248_63, x248_65, x248_66, x248_69, x248_72, x248_75, x248_76, x248_77, x248_78, x248_79, x248_81, x248_82, x248_84, x248_85, x248_88, x248_90, x248_92, x248_95, x248_98, x248_99, x248_102, x248_104, x248_107, x248_108, x248_109, x248_110, x248_113, x248_116, x248_117, x248_119, x248_121, x248_123, x248_126, x248_127, x248_130, x248_132, x248_133, x248_136, x248_139, x248_142, x248_144, x248_146, x248_149, x248_150, x248_151, x248_152, x248_155, x248_157, x248_158, x248_159, x248_160, x248_163, x248_165, x248_168, x248_169, x248_172, x248_174, x248_175, x248_176, x248_179, x248_182, x248_185, x248_188, x248_189, x248_193, x248_194, x248_195, x248_196, x248_197, x248_200, x248_203, x248_204, x248_205, x248_206, x248_207, x248_209, x248_212, x248_215, x248_216, x248_219, x248_220, x248_221, x248_222, x248_225, x248_229, x248_230, x248_233, x248_234, x248_235, x248_237, x248_240, x248_241, x248_244, x248_245, x248_246, x248_247, x248_248, x248_251, x248_254, x248_255, x248_256, x248_257, x248_258, x248_259, x248_260, x248_261, x248_262, x248_265, x248_267, x248_268, x248_270, x248_272, x248_273, x248_274, x248_275, x248_276, x248_279, x248_282, x248_283, x248_284, x248_285, x248_286, x248_288, x248_289, x248_292, x248_294, x248_295, x248_296, x248_297, x248_299, x248_300, x248_303, x248_305, x248_306, x248_307, x248_308, x248_310, x248_311, x248_314, x248_316, x248_317, x248_318, x248_319, x248_321, x248_322, x248_325, x248_327, x248_328, x248_329, x248_331, x248_333, x248_335, x248_337, x248_340, x248_341, x248_344, x248_345, x248_348, x248_351, x248_352, x248_353, x248_354, x248_355, x248_357, x248_359, x248_361, x248_363, x248_366, x248_367, x248_369, x248_370, x248_373, x248_376, x248_377, s_rule, nw, Kc_some, if_pos, if_neg, ↓reduceIte, not_true_eq_false, not_false_eq_true]
      rw [Int.add_zero]
      exact i1 need
theorem mk_view {τ τ1 : St} {t x y z s : Int} (W : WfM τ) (h1 : 0 ≤ h) (h2 : h ≤ 4) (hn : τ 381 h ≤ 199) (t1 : 0 ≤ t) (t2 : t ≤ 25) (hx : isTm x) (hy : isTm y) (hz : isTm z) (s0 : 0 ≤ s) (s1 : s ≤ 100) (A : AddF τ τ1 h t x y z) : Mf h τ (su τ1 380 (200 * h + τ 381 h) s) ∧ rnR (su τ1 380 (200 * h + τ 381 h) s) h = ((rnR τ h).1 ++ [((rnR τ h).2.1, t, nrm (τ 374 (26 * h + t)) x y z)], (rnR τ h).2.1 + 1, mkU (rnR τ h).2.2.1 (t, nrm (τ 374 (26 * h + t)) x y z), (rnR τ h).2.2.2.1, fun k => if k = (rnR τ h).2.1 then s else (rnR τ h).2.2.2.2 k) := by
  have w := W.nxt h1 h2
  have W1 := A.wf W h1 h2 hn t1 t2 hx hy hz
  have rn := A.rn W h1 h2 hn t1 t2 hx hy hz
  have e81 : τ1 381 h = τ 381 h + 1 := by rw [A.2.2.2.2.2.1, if_pos rfl]
  have so : ∀ c, c ≠ 380 → su τ1 380 (200 * h + τ 381 h) s c = τ1 c := fun c hc => su_ne hc
  have M1 := A.mf W h1 h2 hn t1 t2 hx hy hz
  have M2 : Mf h τ1 (su τ1 380 (200 * h + τ 381 h) s) := by
    refine ⟨RsR.su_ (by omega), fun c a b => su_ne (by omega), fun g hg => ?_, ?_, by rw [su_ne (by omega)]⟩
    · refine ⟨HQa.of (fun c a b => su_ne (by omega)), ⟨fun n _ _ => ⟨by rw [so 377 (by omega)], by rw [so 378 (by omega)]⟩, fun n _ _ => by rw [so 379 (by omega)], by rw [so 381 (by omega)], fun k _ _ => by rw [so 385 (by omega)]⟩, ⟨fun n n0 n1 => by rw [su_off (by omega)], by rw [so 382 (by omega)], by rw [so 383 (by omega)], fun k _ _ => by rw [so 384 (by omega)]⟩⟩
    · refine WfM.mk W1 ?_ ?_ ?_ ?_ ?_ ?_ ?_ ?_ ?_ ?_ ?_ ?_ ?_
      · rw [so 374 (by omega)]; exact W1.p4
      · rw [so 375 (by omega)]; exact W1.p5
      · intro i i0 i1; exact okU_c (W1.p6 i i0 i1) (fun k _ _ => by rw [so 376 (by omega)])
      · rw [so 377 (by omega)]; exact W1.p7
      · rw [so 378 (by omega)]; exact W1.p8
      · rw [so 379 (by omega)]; exact W1.p9
      · intro i i0 i1; rw [su_at]; split; omega; exact W1.p0 i i0 i1
      · rw [so 381 (by omega)]; exact W1.p1
      · rw [so 382 (by omega)]; exact W1.p2
      · rw [so 383 (by omega)]; exact W1.p3
      · rw [so 385 (by omega)]; exact W1.pa
      · exact so 386 (by omega)
      · rw [so 373 (by omega)]
  refine ⟨M1.trans M2, ?_⟩
  have er : rsR (su τ1 380 (200 * h + τ 381 h) s) h = rsR τ1 h := by
    unfold rsR
    rw [so 381 (by omega)]
    exact rsF_ext _ _ (fun i _ _ => ⟨by rw [so 377 (by omega)], by unfold rwR; rw [so 374 (by omega), so 378 (by omega), so 379 (by omega)]⟩)
  have en : naR (su τ1 380 (200 * h + τ 381 h) s) h = naR τ1 h := by unfold naR; rw [so 385 (by omega)]
  have es : stR (su τ1 380 (200 * h + τ 381 h) s) h = stR τ1 h := by
    have : ∀ (k : Nat) (i : Int), stF (su τ1 380 (200 * h + τ 381 h) s) h k i = stF τ1 h k i := by
      intro k
      induction k with
      | zero => intro i; rfl
      | succ k ih => intro i; rw [stF, stF, ih, so 384 (by omega)]
    unfold stR
    rw [so 383 (by omega), this]
  have eb : byR (su τ1 380 (200 * h + τ 381 h) s) h = fun k => if k = τ 381 h then s else byR τ1 h k := by
    funext k
    unfold byR
    rw [so 381 (by omega), e81, su_at]
    by_cases hk : k = τ 381 h
    · rw [if_pos hk, if_pos (by omega), if_pos (by omega)]
    · rw [if_neg hk]
      by_cases hk2 : 0 ≤ k ∧ k < τ 381 h + 1
      · rw [if_pos hk2, if_pos hk2, if_neg (by omega)]
      · rw [if_neg hk2, if_neg hk2]
  have rn1 : rsR τ1 h = rsR τ h ++ [(τ 381 h, t, nrm (τ 374 (26 * h + t)) x y z)] := congrArg (fun q : Rn => q.1) rn
  have rn3 : naR τ1 h = mkU (naR τ h) (t, nrm (τ 374 (26 * h + t)) x y z) := congrArg (fun q : Rn => q.2.2.1) rn
  have rn4 : stR τ1 h = stR τ h := congrArg (fun q : Rn => q.2.2.2.1) rn
  have rn5 : byR τ1 h = byR τ h := congrArg (fun q : Rn => q.2.2.2.2) rn
  show (rsR (su τ1 380 (200 * h + τ 381 h) s) h, su τ1 380 (200 * h + τ 381 h) s 381 h, naR (su τ1 380 (200 * h + τ 381 h) s) h, stR (su τ1 380 (200 * h + τ 381 h) s) h, byR (su τ1 380 (200 * h + τ 381 h) s) h) = (rsR τ h ++ _, τ 381 h + 1, mkU (naR τ h) _, stR τ h, _)
  rw [er, en, es, eb, so 381 (by omega), e81, rn1, rn3, rn4, rn5]
  rfl
theorem l_mkF {σ : St} {d : Nat} {s : Int} {l3 : Option V} (hd : 3 ≤ d) (hg : gdB (σ 389)) (hc : atC σ h r 1 (σ 376 (30 * (10 * h + r) + 2))) (h1 : 0 ≤ h) (h2 : h ≤ 4) (r1 : 0 ≤ r) (r2 : r ≤ 9) (s0 : 0 ≤ s) (s1 : s ≤ 100) (Wσ : WfM σ) (hT : ∀ i c, 0 ≤ i → i < σ 376 (30 * (10 * h + r) + 2) → 0 ≤ c → c ≤ 2 → isTm (pvM σ h r i c)) : ∀ (k : Nat) (i : Int) (τ : St), WfM τ → τ 374 = σ 374 → τ 376 = σ 376 → τ 389 = σ 389 → 0 ≤ i → i + k = σ 376 (30 * (10 * h + r) + 2) → (seqR s ((atsF σ h r 1 k i).map (grA (cB (σ 389)))) (rnR τ h)).2.1 ≤ 200 →
    ∃ τ', Mf h τ τ' ∧ rnR τ' h = seqR s ((atsF σ h r 1 k i).map (grA (cB (σ 389)))) (rnR τ h) ∧ τ' 382 = τ 382 ∧ (∀ c, 386 < c → τ' c = τ c) ∧ ∀ (u : Bool × Nat × Nat × Int) (Q : Rs → HS → Prop) (l6 l7 l8 l9 : Option V), notL l6 = true → notL l7 = true → notL l8 = true → (Ex sc d 248 270 [some (vR 373), some (vI h), some (vI r), l3, some (vI s), some (vI i), l6, l7, l8, l9] [] (wH τ u) Q ↔ Q (.inl (some (vI (0)))) (wH τ' u)) := by
  have wr := Wσ.rul h1 h2 r1 r2
  intro k
  induction k with
  | zero =>
    intro i τ W e4 e6 e9 i0 ik hs
    have hi : i = σ 376 (30 * (10 * h + r) + 2) := by omega
    have e62 : τ 376 (30 * (10 * h + r) + 2) = σ 376 (30 * (10 * h + r) + 2) := by rw [e6]
    refine ⟨τ, Mf.refl W, rfl, rfl, fun _ _ => rfl, fun u Q l6 l7 l8 l9 n6 n7 n8 => ?_⟩
    rw [x248_270]
    simp (disch := first | omega | exact notL_I | exact notL_N | exact notL_R | exact oM | exact catS_le (Nat.le_of_ble_eq_true rfl) | exact Nat.le_of_ble_eq_true rfl | rfl) only [x248_0, x248_1, x248_2, x248_3, x248_5, x248_7, x248_9, x248_12, x248_13, x248_16, x248_18, x248_19, x248_22, x248_24, x248_25, x248_26, x248_28, x248_29, x248_30, x248_31, x248_34, x248_37, x248_38, x248_40, x248_42, x248_43, x248_44, x248_45, x248_46, x248_49, x248_52, x248_53, x248_55, x248_57, x248_58, x248_59, x248_60, x248_61, x248_62, x248_63, x248_65, x248_66, x248_69, x248_72, x248_75, x248_76, x248_77, x248_78, x248_79, x248_81, x248_82, x248_84, x248_85, x248_88, x248_90, x248_92, x248_95, x248_98, x248_99, x248_102, x248_104, x248_107, x248_108, x248_109, x248_110, x248_113, x248_116, x248_117, x248_119, x248_121, x248_123, x248_126, x248_127, x248_130, x248_132, x248_133, x248_136, x248_139, x248_142, x248_144, x248_146, x248_149, x248_150, x248_151, x248_152, x248_155, x248_157, x248_158, x248_159, x248_160, x248_163, x248_165, x248_168, x248_169, x248_172, x248_174, x248_175, x248_176, x248_179, x248_182, x248_185, x248_188, x248_189, x248_191, x248_193, x248_194, x248_195, x248_196, x248_197, x248_200, x248_203, x248_204, x248_205, x248_206, x248_207, x248_209, x248_212, x248_215, x248_216, x248_219, x248_220, x248_221, x248_222, x248_225, x248_228, x248_229, x248_230, x248_233, x248_234, x248_235, x248_237, x248_240, x248_241, x248_244, x248_245, x248_246, x248_247, x248_248, x248_251, x248_254, x248_255, x248_256, x248_257, x248_258, x248_259, x248_260, x248_261, x248_262, x248_265, x248_267, x248_268, x248_272, x248_273, x248_274, x248_275, x248_276, x248_279, x248_282, x248_283, x248_284, x248_285, x248_286, x248_288, x248_289, x248_292, x248_294, x248_295, x248_296, x248_297, x248_299, x248_300, x248_303, x248_305, x248_306, x248_307, x248_308, x248_310, x248_311, x248_314, x248_316, x248_317, x248_318, x248_319, x248_321, x248_322, x248_325, x248_327, x248_328, x248_329, x248_331, x248_333, x248_335, x248_337, x248_340, x248_341, x248_344, x248_345, x248_348, x248_351, x248_352, x248_353, x248_354, x248_355, x248_357, x248_359, x248_361, x248_363, x248_366, x248_367, x248_369, x248_370, x248_373, x248_376, x248_377, s_rule, e62, Kc_some, if_pos, if_neg, ↓reduceIte, not_true_eq_false, not_false_eq_true]
  | succ k ih =>
    intro i τ W e4 e6 e9 i0 ik hs
    have e62 : τ 376 (30 * (10 * h + r) + 2) = σ 376 (30 * (10 * h + r) + 2) := by rw [e6]
    obtain ⟨ai, -⟩ := Wσ.ato (s := 1) (i := i) h1 h2 r1 r2 (by omega) (by omega) i0 (by omega)
    have hm := hc i i0 (by omega)
    have z0 : 3 + 4 * (3 * 1 + i) + 0 = 3 + 4 * (3 * 1 + i) := by omega
    have pve : ∀ c, pvM τ h r i c = pvM σ h r i c := fun c => by unfold pvM; rw [e4, e6, e9]
    have P : ∀ c, 0 ≤ c → c ≤ 2 → ∀ (u : Bool × Nat × Nat × Int) (Q : Rs → HS → Prop), Ex sc (d - 1) 250 0 [some (vR 373), some (vI h), some (vI r), some (vI i), some (vI c)] [] (wH τ u) Q ↔ Q (.inl (some (vI (pvM σ h r i c)))) (wH τ u) := fun c c0 c1 u Q => by
      rw [← pve]
      exact s_placed (sc := sc) (σ := τ) (d := d - 1) (u := u) (Q := Q) (i := i) (c := c) (by omega) W h1 h2 r1 r2 i0 (by omega) c0 c1
    have p0 := P 0 (by omega) (by omega)
    have p1 := P 1 (by omega) (by omega)
    have p2 := P 2 (by omega) (by omega)
    have t0 := hT i 0 i0 (by omega) (by omega) (by omega)
    have t1 := hT i 1 i0 (by omega) (by omega) (by omega)
    have t2 := hT i 2 i0 (by omega) (by omega) (by omega)
    have v0 := isTm_in t0
    have v1 := isTm_in t1
    have v2 := isTm_in t2
    have et : τ 376 (30 * (10 * h + r) + (3 + 4 * (3 * 1 + i))) = σ 376 (30 * (10 * h + r) + (3 + 4 * (3 * 1 + i))) := by rw [e6]
    have fr := fun u Q => s_find (sc := sc) (σ := τ) (u := u) (Q := Q) (d := d - 1) (h := h) (t := σ 376 (30 * (10 * h + r) + (3 + 4 * (3 * 1 + i)))) (x := pvM σ h r i 0) (y := pvM σ h r i 1) (z := pvM σ h r i 2) W (by omega) h1 h2 ai.1 ai.2 ⟨by omega, by omega⟩ ⟨by omega, by omega⟩ ⟨by omega, by omega⟩
    have eg : grA (cB (σ 389)) (atR σ h r 1 i) = (σ 376 (30 * (10 * h + r) + (3 + 4 * (3 * 1 + i))), nrm (τ 374 (26 * h + σ 376 (30 * (10 * h + r) + (3 + 4 * (3 * 1 + i))))) (pvM σ h r i 0) (pvM σ h r i 1) (pvM σ h r i 2)) := by
      rw [e4]
      exact gr_pv Wσ h1 h2 r1 r2 i0 (by omega) hm
    rw [← eg] at fr
    have hrs : (rnR τ h).1 = rsR τ h := rfl
    rw [atsF, List.map_cons, seqR] at hs ⊢
    rw [hrs] at hs ⊢
    cases hf : findL (rsR τ h) (grA (cB (σ 389)) (atR σ h r 1 i)) with
    | some w =>
      rw [hf, if_neg (by simp)] at hs
      rw [if_neg (by simp)]
      rw [hf] at fr
      have hw := rsR_num W h1 h2 (find_some hf).1
      have hv : numO (some w) = w.1 := rfl
      obtain ⟨τ', q1, q2, q3, q4, q5⟩ := ih (i + 1) τ W e4 e6 e9 (by omega) (by omega) hs
      refine ⟨τ', q1, q2, q3, q4, fun u Q l6 l7 l8 l9 n6 n7 n8 => ?_⟩
      have q6 := q5 u Q _ _ _ (some (vI (pvM σ h r i 2))) (notL_I (a := σ 376 (30 * (10 * h + r) + (3 + 4 * (3 * 1 + i))))) (notL_I (a := pvM σ h r i 0)) (notL_I (a := pvM σ h r i 1))
      rw [x248_270]
      simp (disch := first | omega | exact notL_I | exact notL_N | exact notL_R | exact oM | exact catS_le (Nat.le_of_ble_eq_true rfl) | exact Nat.le_of_ble_eq_true rfl | rfl) only [x248_0, x248_1, x248_2, x248_3, x248_5, x248_7, x248_9, x248_12, x248_13, x248_16, x248_18, x248_19, x248_22, x248_24, x248_25, x248_26, x248_28, x248_29, x248_30, x248_31, x248_34, x248_37, x248_38, x248_40, x248_42, x248_43, x248_44, x248_45, x248_46, x248_49, x248_52, x248_53, x248_55, x248_57, x248_58, x248_59, x248_60, x248_61, x248_62, x248_63, x248_65, x248_66, x248_69, x248_72, x248_75, x248_76, x248_77, x248_78, x248_79, x248_81, x248_82, x248_84, x248_85, x248_88, x248_90, x248_92, x248_95, x248_98, x248_99, x248_102, x248_104, x248_107, x248_108, x248_109, x248_110, x248_113, x248_116, x248_117, x248_119, x248_121, x248_123, x248_126, x248_127, x248_130, x248_132, x248_133, x248_136, x248_139, x248_142, x248_144, x248_146, x248_149, x248_150, x248_151, x248_152, x248_155, x248_157, x248_158, x248_159, x248_160, x248_163, x248_165, x248_168, x248_169, x248_172, x248_174, x248_175, x248_176, x248_179, x248_182, x248_185, x248_188, x248_189, x248_191, x248_193, x248_194, x248_195, x248_196, x248_197, x248_200, x248_203, x248_204, x248_205, x248_206, x248_207, x248_209, x248_212, x248_215, x248_216, x248_219, x248_220, x248_221, x248_222, x248_225, x248_228, x248_229, x248_230, x248_233, x248_234, x248_235, x248_237, x248_240, x248_241, x248_244, x248_245, x248_246, x248_247, x248_248, x248_251, x248_254, x248_255, x248_256, x248_257, x248_258, x248_259, x248_260, x248_261, x248_262, x248_265, x248_267, x248_268, x248_272, x248_273, x248_274, x248_275, x248_276, x248_279, x248_282, x248_283, x248_284, x248_285, x248_286, x248_288, x248_289, x248_292, x248_294, x248_295, x248_296, x248_297, x248_299, x248_300, x248_303, x248_305, x248_306, x248_307, x248_308, x248_310, x248_311, x248_314, x248_316, x248_317, x248_318, x248_319, x248_321, x248_322, x248_325, x248_327, x248_328, x248_329, x248_331, x248_333, x248_335, x248_337, x248_340, x248_341, x248_344, x248_345, x248_348, x248_351, x248_352, x248_353, x248_354, x248_355, x248_357, x248_359, x248_361, x248_363, x248_366, x248_367, x248_369, x248_370, x248_373, x248_376, x248_377, s_rule, e62, s_atom, z0, et, p0, p1, p2, fr, hv, Kc_some, if_pos, if_neg, ↓reduceIte, not_true_eq_false, not_false_eq_true]
      exact q6
    | none =>
      rw [hf, if_pos rfl] at hs
      rw [if_pos rfl]
      rw [hf] at fr
      have hv : numO none = -1 := rfl
      have hn : τ 381 h ≤ 199 := by
        have := seqR_mono (s := s) ((atsF σ h r 1 k (i + 1)).map (grA (cB (σ 389)))) (rsR τ h ++ [((rnR τ h).2.1, grA (cB (σ 389)) (atR σ h r 1 i))], (rnR τ h).2.1 + 1, mkU (rnR τ h).2.2.1 (grA (cB (σ 389)) (atR σ h r 1 i)), (rnR τ h).2.2.2.1, fun k => if k = (rnR τ h).2.1 then s else (rnR τ h).2.2.2.2 k)
        dsimp only at this
        have e : (rnR τ h).2.1 = τ 381 h := rfl
        rw [e] at this hs
        omega
      obtain ⟨τ1, A, ra⟩ := s_addR (sc := sc) (d := d - 1) (σ := τ) (h := h) (t := σ 376 (30 * (10 * h + r) + (3 + 4 * (3 * 1 + i)))) (x := pvM σ h r i 0) (y := pvM σ h r i 1) (z := pvM σ h r i 2) (by omega) W h1 h2 hn ai.1 ai.2 (by rw [e4]; exact hm) t0 t1 t2
      obtain ⟨M, rv⟩ := mk_view W h1 h2 hn ai.1 ai.2 t0 t1 t2 s0 s1 A
      rw [← eg, hrs] at rv
      rw [← rv] at hs ⊢
      have w := W.nxt h1 h2
      have ao : ∀ c, c ≠ 377 → c ≠ 378 → c ≠ 379 → c ≠ 380 → c ≠ 381 → c ≠ 385 → su τ1 380 (200 * h + τ 381 h) s c = τ c := fun c b1 b2 b3 b4 b5 b6 => by rw [su_ne b4, A.1 c b1 b2 b3 b4 b5 b6]
      obtain ⟨τ', q1, q2, q3, q4, q5⟩ := ih (i + 1) (su τ1 380 (200 * h + τ 381 h) s) M.2.2.2.1 (by rw [ao 374 (by omega) (by omega) (by omega) (by omega) (by omega) (by omega)]; exact e4) (by rw [ao 376 (by omega) (by omega) (by omega) (by omega) (by omega) (by omega)]; exact e6) (by rw [ao 389 (by omega) (by omega) (by omega) (by omega) (by omega) (by omega)]; exact e9) (by omega) (by omega) hs
      refine ⟨τ', M.trans q1, q2, by rw [q3, ao 382 (by omega) (by omega) (by omega) (by omega) (by omega) (by omega)], fun c hcc => by rw [q4 c hcc, ao c (by omega) (by omega) (by omega) (by omega) (by omega) (by omega)], fun u Q l6 l7 l8 l9 n6 n7 n8 => ?_⟩
      have q6 := q5 u Q _ _ _ (some (vI (pvM σ h r i 2))) (notL_I (a := σ 376 (30 * (10 * h + r) + (3 + 4 * (3 * 1 + i))))) (notL_I (a := pvM σ h r i 0)) (notL_I (a := pvM σ h r i 1))
      rw [x248_270]
      simp (disch := first | omega | exact notL_I | exact notL_N | exact notL_R | exact oM | exact catS_le (Nat.le_of_ble_eq_true rfl) | exact Nat.le_of_ble_eq_true rfl | rfl) only [x248_0, x248_1, x248_2, x248_3, x248_5, x248_7, x248_9, x248_12, x248_13, x248_16, x248_18, x248_19, x248_22, x248_24, x248_25, x248_26, x248_28, x248_29, x248_30, x248_31, x248_34, x248_37, x248_38, x248_40, x248_42, x248_43, x248_44, x248_45, x248_46, x248_49, x248_52, x248_53, x248_55, x248_57, x248_58, x248_59, x248_60, x248_61, x248_62, x248_63, x248_65, x248_66, x248_69, x248_72, x248_75, x248_76, x248_77, x248_78, x248_79, x248_81, x248_82, x248_84, x248_85, x248_88, x248_90, x248_92, x248_95, x248_98, x248_99, x248_102, x248_104, x248_107, x248_108, x248_109, x248_110, x248_113, x248_116, x248_117, x248_119, x248_121, x248_123, x248_126, x248_127, x248_130, x248_132, x248_133, x248_136, x248_139, x248_142, x248_144, x248_146, x248_149, x248_150, x248_151, x248_152, x248_155, x248_157, x248_158, x248_159, x248_160, x248_163, x248_165, x248_168, x248_169, x248_172, x248_174, x248_175, x248_176, x248_179, x248_182, x248_185, x248_188, x248_189, x248_191, x248_193, x248_194, x248_195, x248_196, x248_197, x248_200, x248_203, x248_204, x248_205, x248_206, x248_207, x248_209, x248_212, x248_215, x248_216, x248_219, x248_220, x248_221, x248_222, x248_225, x248_228, x248_229, x248_230, x248_233, x248_234, x248_235, x248_237, x248_240, x248_241, x248_244, x248_245, x248_246, x248_247, x248_248, x248_251, x248_254, x248_255, x248_256, x248_257, x248_258, x248_259, x248_260, x248_261, x248_262, x248_265, x248_267, x248_268, x248_272, x248_273, x248_274, x248_275, x248_276, x248_279, x248_282, x248_283, x248_284, x248_285, x248_286, x248_288, x248_289, x248_292, x248_294, x248_295, x248_296, x248_297, x248_299, x248_300, x248_303, x248_305, x248_306, x248_307, x248_308, x248_310, x248_311, x248_314, x248_316, x248_317, x248_318, x248_319, x248_321, x248_322, x248_325, x248_327, x248_328, x248_329, x248_331, x248_333, x248_335, x248_337, x248_340, x248_341, x248_344, x248_345, x248_348, x248_351, x248_352, x248_353, x248_354, x248_355, x248_357, x248_359, x248_361, x248_363, x248_366, x248_367, x248_369, x248_370, x248_373, x248_376, x248_377, s_rule, e62, s_atom, z0, et, p0, p1, p2, fr, hv, ra u, gM_byStep, WM_byStep, Kc_some, if_pos, if_neg, ↓reduceIte, not_true_eq_false, not_false_eq_true]
      exact q6
end M7
