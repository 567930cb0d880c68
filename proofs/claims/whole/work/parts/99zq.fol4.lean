/-! what follows, both -/
section F4
variable {sc : Scr} {d : Nat} {σ τ X : St} {A : AS}
/-- from the rows put on: the run, and whether the told rule is fulfilled -/
theorem m_fol2 {h : Int} {q : Ru} {S : St} {H : Hl} {c' : Int} {l5 l6 l7 : Option V} (hd : 60 ≤ d) (h0 : 0 ≤ h) (h2 : h ≤ 2) (W : WfM S) (hg : gdB (S 393)) (eC : coR S 3 = H.1) (eC4 : ∀ t, 0 ≤ t → t ≤ 25 → S 374 (26 * 3 + t) = S 374 (26 * 4 + t)) (eL : rlR S 3 = H.2.1) (eq : ruR S 4 0 = q) (kr : ∀ r ∈ H.2.1, okRl H.1 r) (kq : okRl H.1 q) (eR : (rsR S 3, S 381 3, naR S 3) = sadF [] 0 (fun _ => 0) (q.2.1.map (grA (nameE (plcL q.2.1) 0 bd0)))) (eB : cB (S 393) = nameE (plcL q.2.1) 0 bd0) :
    ∃ Z, KpR 3 S Z ∧ Z 373 0 = S 373 0 ∧ ∀ (u : Bool × Nat × Nat × Int) (Q : Rs → HS → Prop), Ex sc d 265 288 [some (vR 373), some (vI h), some (vI 1), some (vI c'), some (vI (S 376 (30 * (10 * 4 + 0)))), l5, l6, l7] [] (wH S u) Q ↔ Q (.inl (some (vI (folV H q)))) (wH Z u) := by
  obtain ⟨k1, k2, k3, k4⟩ := flwA_ok (H := H) (q := q) kr kq
  have R : RIm 3 S := by
    refine ⟨W, hg, ?_, fun r r0 r1 => ?_⟩
    · have e : okS H.1 (rn0 (rsR S 3, S 381 3, naR S 3)) := by rw [eR]; exact k1
      rw [eC]
      exact e
    · rw [eC]
      refine kr _ ?_
      rw [← eL]
      have := rlR_get (σ := S) (h := 3) (j := r.toNat) (by omega)
      rw [show ((r.toNat : Nat) : Int) = r by omega] at this
      exact List.mem_of_getElem? this
  obtain ⟨τ, t1, t2, t3, t4, t5, t6⟩ := s_runs (sc := sc) (d := d - 1) (σ := S) (h := 3) (most := 100) (by omega) (by omega) (by omega) (by omega) R
  have er : runF (rlR S 3) 100 101 0 (rsR S 3, S 381 3, naR S 3, [], fun _ => -1) = flwA H q := by
    have e : (rsR S 3, S 381 3, naR S 3, [], fun _ => -1) = rn0 (sadF [] 0 (fun _ => 0) (q.2.1.map (grA (nameE (plcL q.2.1) 0 bd0)))) := by rw [← eR]; rfl
    rw [eL, e]
    rfl
  rw [er] at t2 t3 t5 t6
  unfold RnA at t6
  rw [show ((100 : Nat) : Int) = 100 from rfl] at t6
  have K1 : KpR 3 S τ := t1.kp (fun _ => t4)
  by_cases s1 : (flwA H q).2 = 1
  case neg =>
    refine ⟨τ, K1, t1.2.2.2.2, fun u Q => ?_⟩
    rw [x265_288]
    unfold folV
    by_cases s3 : (flwA H q).2 = 3
    · rw [if_pos s3]
      rw [s3] at t6
      simp (disch := first | omega | exact notL_I | exact notL_N | exact notL_R | exact oM | exact catS_le (Nat.le_of_ble_eq_true rfl) | exact Nat.le_of_ble_eq_true rfl | rfl) only [x265_0, x265_1, x265_2, x265_5, x265_8, x265_11, x265_12, x265_13, x265_14, x265_15, x265_16, x265_19, x265_20, x265_23, x265_24, x265_25, x265_28, x265_29, x265_32, x265_33, x265_34, x265_35, x265_36, x265_37, x265_40, x265_41, x265_42, x265_45, x265_46, x265_47, x265_48, x265_52, x265_54, x265_57, x265_58, x265_61, x265_63, x265_64, x265_65, x265_68, x265_71, x265_72, x265_76, x265_77, x265_78, x265_79, x265_80, x265_83, x265_86, x265_87, x265_88, x265_89, x265_90, x265_92, x265_93, x265_96, x265_98, x265_99, x265_103, x265_104, x265_107, x265_108, x265_109, x265_110, x265_111, x265_113, x265_114, x265_116, x265_117, x265_120, x265_122, x265_124, x265_125, x265_126, x265_128, x265_131, x265_134, x265_135, x265_138, x265_140, x265_141, x265_142, x265_145, x265_147, x265_150, x265_153, x265_154, x265_157, x265_159, x265_162, x265_163, x265_164, x265_165, x265_168, x265_169, x265_172, x265_174, x265_177, x265_178, x265_181, x265_182, x265_183, x265_184, x265_187, x265_188, x265_191, x265_193, x265_195, x265_198, x265_201, x265_202, x265_205, x265_207, x265_210, x265_211, x265_212, x265_215, x265_217, x265_218, x265_221, x265_224, x265_225, x265_226, x265_228, x265_229, x265_232, x265_233, x265_234, x265_235, x265_238, x265_239, x265_240, x265_241, x265_244, x265_245, x265_246, x265_249, x265_250, x265_253, x265_254, x265_255, x265_256, x265_258, x265_259, x265_262, x265_263, x265_264, x265_265, x265_268, x265_269, x265_270, x265_271, x265_274, x265_275, x265_276, x265_279, x265_282, x265_285, x265_289, x265_290, x265_292, x265_295, x265_297, x265_299, x265_300, x265_303, x265_305, x265_306, x265_309, x265_310, x265_313, x265_314, x265_315, x265_316, x265_320, x265_322, x265_325, x265_326, x265_327, x265_328, x265_330, x265_331, x265_332, x265_333, x265_335, x265_338, x265_341, x265_344, x265_348, x265_351, x265_352, x265_356, x265_358, x265_361, x265_362, x265_365, x265_367, x265_368, x265_371, x265_373, x265_374, x265_375, x265_378, x265_382, x265_383, x265_384, x265_387, x265_390, x265_391, x265_394, x265_395, t6, Kc_some, if_pos, if_neg, ↓reduceIte, not_true_eq_false, not_false_eq_true]
    · have s2 : (flwA H q).2 = 2 := by omega
      rw [if_neg s3, if_pos s2]
      rw [s2] at t6
      simp (disch := first | omega | exact notL_I | exact notL_N | exact notL_R | exact oM | exact catS_le (Nat.le_of_ble_eq_true rfl) | exact Nat.le_of_ble_eq_true rfl | rfl) only [x265_0, x265_1, x265_2, x265_5, x265_8, x265_11, x265_12, x265_13, x265_14, x265_15, x265_16, x265_19, x265_20, x265_23, x265_24, x265_25, x265_28, x265_29, x265_32, x265_33, x265_34, x265_35, x265_36, x265_37, x265_40, x265_41, x265_42, x265_45, x265_46, x265_47, x265_48, x265_52, x265_54, x265_57, x265_58, x265_61, x265_63, x265_64, x265_65, x265_68, x265_71, x265_72, x265_76, x265_77, x265_78, x265_79, x265_80, x265_83, x265_86, x265_87, x265_88, x265_89, x265_90, x265_92, x265_93, x265_96, x265_98, x265_99, x265_103, x265_104, x265_107, x265_108, x265_109, x265_110, x265_111, x265_113, x265_114, x265_116, x265_117, x265_120, x265_122, x265_124, x265_125, x265_126, x265_128, x265_131, x265_134, x265_135, x265_138, x265_140, x265_141, x265_142, x265_145, x265_147, x265_150, x265_153, x265_154, x265_157, x265_159, x265_162, x265_163, x265_164, x265_165, x265_168, x265_169, x265_172, x265_174, x265_177, x265_178, x265_181, x265_182, x265_183, x265_184, x265_187, x265_188, x265_191, x265_193, x265_195, x265_198, x265_201, x265_202, x265_205, x265_207, x265_210, x265_211, x265_212, x265_215, x265_217, x265_218, x265_221, x265_224, x265_225, x265_226, x265_228, x265_229, x265_232, x265_233, x265_234, x265_235, x265_238, x265_239, x265_240, x265_241, x265_244, x265_245, x265_246, x265_249, x265_250, x265_253, x265_254, x265_255, x265_256, x265_258, x265_259, x265_262, x265_263, x265_264, x265_265, x265_268, x265_269, x265_270, x265_271, x265_274, x265_275, x265_276, x265_279, x265_282, x265_285, x265_289, x265_290, x265_292, x265_295, x265_297, x265_299, x265_300, x265_303, x265_305, x265_306, x265_309, x265_310, x265_313, x265_314, x265_315, x265_316, x265_320, x265_322, x265_325, x265_326, x265_327, x265_328, x265_330, x265_331, x265_332, x265_333, x265_335, x265_338, x265_341, x265_344, x265_348, x265_351, x265_352, x265_356, x265_358, x265_361, x265_362, x265_365, x265_367, x265_368, x265_371, x265_373, x265_374, x265_375, x265_378, x265_382, x265_383, x265_384, x265_387, x265_390, x265_391, x265_394, x265_395, t6, Kc_some, if_pos, if_neg, ↓reduceIte, not_true_eq_false, not_false_eq_true]
  case pos =>
  rw [s1] at t6
  have fv : folV H q = bI (fulfL q (flwA H q).1.1 (mlF (flwA H q).1.2.2.2.1 (nameE (plcL q.2.1) 0 bd0))) := by
    unfold folV
    rw [if_neg (by omega), if_neg (by omega)]
  have t7 := t5 s1
  have rs6 : rsR τ 3 = (flwA H q).1.1 := congrArg (fun x : Rn => x.1) t2
  have st6 : stR τ 3 = (flwA H q).1.2.2.2.1 := congrArg (fun x : Rn => x.2.2.2.1) t2
  rw [st6] at t7
  have W6 := t1.2.2.2.1
  have f6 := t1.2.1
  -- the rule, copied
  have n7 : ∀ c, c ≠ 376 → scp τ 376 1200 376 900 30 c = τ c := fun c hc => scp_ne hc
  have a7 : ∀ j, scp τ 376 1200 376 900 30 376 j = if 900 ≤ j ∧ j < 930 then τ 376 (j - 900 + 1200) else τ 376 j := fun j => scp_at
  have lp := fun u Q => l_cp30 (sc := sc) (d := d) (σ := τ) (h := h) (x := c') (y := 1) (l6 := l6) (l7 := l7) (u := u) (Q := Q) (by omega) 30 0 (by omega) (by omega)
  rw [scp_0] at lp
  generalize scp τ 376 1200 376 900 30 = S7 at *
  have W7 : WfM S7 := by
    refine WfM.mk W6 ?_ ?_ ?_ ?_ ?_ ?_ ?_ ?_ ?_ ?_ ?_ ?_ ?_
    · rw [n7 374 (by omega)]; exact W6.p4
    · rw [n7 375 (by omega)]; exact W6.p5
    · intro i i0 i1
      by_cases e : i = 30
      · subst e
        exact okU_c (i := 40) (W6.p6 40 (by omega) (by omega)) (fun k _ _ => by rw [a7, if_pos (by omega)]; congr 1; omega)
      · exact okU_c (W6.p6 i i0 i1) (fun k _ _ => by rw [a7, if_neg (by omega)])
    · rw [n7 377 (by omega)]; exact W6.p7
    · rw [n7 378 (by omega)]; exact W6.p8
    · rw [n7 379 (by omega)]; exact W6.p9
    · rw [n7 380 (by omega)]; exact W6.p0
    · rw [n7 381 (by omega)]; exact W6.p1
    · rw [n7 382 (by omega)]; exact W6.p2
    · rw [n7 383 (by omega)]; exact W6.p3
    · rw [n7 385 (by omega)]; exact W6.pa
    · exact n7 386 (by omega)
    · rw [n7 373 (by omega)]
  have K2 : KpR 3 τ S7 := by
    refine ⟨RsR.of (fun c a b => n7 c (by omega)) (fun j hj => by rw [n7 373 (by omega)]), fun g g0 g2 _ => ?_, W7, fun z => by rw [n7 393 (by omega)]; exact z⟩
    exact ⟨⟨fun t a b => by rw [n7 374 (by omega)], by rw [n7 375 (by omega)], fun t a b => by rw [a7, if_neg (by omega)]⟩, ⟨fun t _ _ => ⟨by rw [n7 377 (by omega)], by rw [n7 378 (by omega)]⟩, fun t _ _ => by rw [n7 379 (by omega)], by rw [n7 381 (by omega)], fun t _ _ => by rw [n7 385 (by omega)]⟩, ⟨fun t _ _ => by rw [n7 380 (by omega)], by rw [n7 382 (by omega)], by rw [n7 383 (by omega)], fun t _ _ => by rw [n7 384 (by omega)]⟩⟩
  -- the names, taken over
  have fg := fun u Q => s_forget (sc := sc) (σ := S7) (u := u) (Q := Q) (d := d - 1)
  have lq := fun u Q => l_cp26 (sc := sc) (d := d) (σ := fl S7 389 0 26 (-1)) (h := h) (x := c') (y := 1) (l6 := l6) (l7 := l7) (u := u) (Q := Q) 26 0 (by omega) (by omega)
  rw [scp_0] at lq
  have n8 : ∀ c, c ≠ 389 → scp (fl S7 389 0 26 (-1)) 393 0 389 0 26 c = S7 c := fun c hc => by rw [scp_ne hc, fl_ne hc]
  have a8 : ∀ v, 0 ≤ v → v ≤ 25 → scp (fl S7 389 0 26 (-1)) 393 0 389 0 26 389 v = τ 393 v := fun v v0 v1 => by
    rw [scp_at, if_pos (by omega), fl_ne (by omega), n7 393 (by omega)]
    congr 1
    omega
  generalize fl S7 389 0 26 (-1) = S7' at *
  generalize scp S7' 393 0 389 0 26 = S8 at *
  have D8 : Dt S7 S8 := ⟨fun c a b => n8 c (by omega), by rw [n8 373 (by omega)]⟩
  have W8 := D8.wf W7
  have K3 : KpR 3 S7 S8 := ⟨RsR.of (fun c a b => n8 c (by omega)) (fun j hj => by rw [n8 373 (by omega)]), fun g _ _ _ => HQ.of (fun c a b => n8 c (by omega)), W8, fun z => by rw [n8 393 (by omega)]; exact z⟩
  have e8 : ∀ c, c ≠ 376 → c ≠ 389 → S8 c = τ c := fun c a b => by rw [n8 c b, n7 c a]
  have r8 : rsR S8 3 = (flwA H q).1.1 := by rw [rsR_cc (σ := τ) (fun c hc => e8 c (by omega) (by omega)), rs6]
  have u8 : ruR S8 3 0 = q := by
    rw [← eq]
    rw [show ruR S 4 0 = ruR τ 4 0 from t1.ru.symm]
    refine ru_cp (fun f f0 f1 => ?_) (fun t t0 t1' => ?_) W6 (by omega) (by omega) (by omega) (by omega)
    · rw [n8 376 (by omega), a7, if_pos (by omega)]
      congr 1
      omega
    · rw [e8 374 (by omega) (by omega), f6 374 (by omega) (by omega)]
      exact eC4 t t0 t1'
  have c8 : coR S8 3 = H.1 := by
    rw [← eC]
    unfold coR
    rw [e8 374 (by omega) (by omega), f6 374 (by omega) (by omega)]
  have b8 : cB (S8 389) = mlF (flwA H q).1.2.2.2.1 (nameE (plcL q.2.1) 0 bd0) := by
    funext v
    rw [mlF_flw _ _ k3, ← eB]
    unfold cB
    by_cases hv : 0 ≤ v ∧ v ≤ 25
    · rw [if_pos hv, if_pos hv, a8 v hv.1 hv.2, t7 v hv.1 hv.2]
    · rw [if_neg hv, if_neg hv, flw_neg _ k3]
  have g8 : gdB (S8 389) := fun v v0 v1 => by rw [a8 v v0 v1]; exact t4 v v0 v1
  have wr := W8.rul (h := 3) (r := 0) (by omega) (by omega) (by omega) (by omega)
  have ac : atC S8 3 0 1 (S8 376 (30 * (10 * 3 + 0) + 2)) := by
    intro i i0 i1
    have me := atsF_mem (σ := S8) (h := 3) (r := 0) (s := 1) (i := i) (S8 376 (30 * (10 * 3 + 0) + 2)).toNat 0 i0 (by omega)
    have e2 : atsF S8 3 0 1 (S8 376 (30 * (10 * 3 + 0) + 2)).toNat 0 = q.2.2.1 := congrArg (fun x : Ru => x.2.2.1) u8
    rw [e2] at me
    have ok := kq.2.2.1 _ me
    have ao := W8.ato (h := 3) (r := 0) (s := 1) (i := i) (by omega) (by omega) (by omega) (by omega) (by omega) (by omega) i0 (by omega)
    have e : (atR S8 3 0 1 i).1 = S8 376 (30 * (10 * 3 + 0) + (3 + 4 * (3 * 1 + i))) := rfl
    have := ok.2.2.1
    rw [e, ← c8, coR_in ao.1.1 ao.1.2] at this
    exact this
  obtain ⟨Z, z1, z2⟩ := s_isFul (sc := sc) (d := d - 1) (σ := S8) (h := 3) (r := 0) (by omega) (by omega) (by omega) (by omega) W8 g8 ac (by omega)
  rw [u8, r8, b8] at z2
  rw [← fv] at z2
  unfold RnA at z2
  have K4 : KpR 3 S8 Z := ⟨RsR.of (fun c a b => z1.1 c (by omega) (by omega)) (fun j hj => by rw [z1.1 373 (by omega) (by omega)]), fun g _ _ _ => HQ.of (fun c a b => z1.1 c (by omega) (by omega)), z1.dt.wf W8, fun z => by rw [z1.1 393 (by omega) (by omega)]; exact z⟩
  refine ⟨Z, ((K1.trans K2).trans K3).trans K4, by rw [z1.1 373 (by omega) (by omega), e8 373 (by omega) (by omega)]; exact t1.2.2.2.2, fun u Q => ?_⟩
  have b01 : folV H q = 0 ∨ folV H q = 1 := by
    rw [fv]
    cases fulfL q (flwA H q).1.1 (mlF (flwA H q).1.2.2.2.1 (nameE (plcL q.2.1) 0 bd0))
    · exact Or.inl rfl
    · exact Or.inr rfl
  have r1 : Ex sc d 265 288 [some (vR 373), some (vI h), some (vI 1), some (vI c'), some (vI (S 376 (30 * (10 * 4 + 0)))), l5, l6, l7] [] (wH S u) Q ↔ Ex sc d 265 318 [some (vR 373), some (vI h), some (vI 1), some (vI c'), some (vI 1), some (vI 0), l6, l7] [] (wH τ u) Q := by
    rw [x265_288]
    simp (disch := first | omega | exact notL_I | exact notL_N | exact notL_R | exact oM | exact catS_le (Nat.le_of_ble_eq_true rfl) | exact Nat.le_of_ble_eq_true rfl | rfl) only [x265_0, x265_1, x265_2, x265_5, x265_8, x265_11, x265_12, x265_13, x265_14, x265_15, x265_16, x265_19, x265_20, x265_23, x265_24, x265_25, x265_28, x265_29, x265_32, x265_33, x265_34, x265_35, x265_36, x265_37, x265_40, x265_41, x265_42, x265_45, x265_46, x265_47, x265_48, x265_52, x265_54, x265_57, x265_58, x265_61, x265_63, x265_64, x265_65, x265_68, x265_71, x265_72, x265_76, x265_77, x265_78, x265_79, x265_80, x265_83, x265_86, x265_87, x265_88, x265_89, x265_90, x265_92, x265_93, x265_96, x265_98, x265_99, x265_103, x265_104, x265_107, x265_108, x265_109, x265_110, x265_111, x265_113, x265_114, x265_116, x265_117, x265_120, x265_122, x265_124, x265_125, x265_126, x265_128, x265_131, x265_134, x265_135, x265_138, x265_140, x265_141, x265_142, x265_145, x265_147, x265_150, x265_153, x265_154, x265_157, x265_159, x265_162, x265_163, x265_164, x265_165, x265_168, x265_169, x265_172, x265_174, x265_177, x265_178, x265_181, x265_182, x265_183, x265_184, x265_187, x265_188, x265_191, x265_193, x265_195, x265_198, x265_201, x265_202, x265_205, x265_207, x265_210, x265_211, x265_212, x265_215, x265_217, x265_218, x265_221, x265_224, x265_225, x265_226, x265_228, x265_229, x265_232, x265_233, x265_234, x265_235, x265_238, x265_239, x265_240, x265_241, x265_244, x265_245, x265_246, x265_249, x265_250, x265_253, x265_254, x265_255, x265_256, x265_258, x265_259, x265_262, x265_263, x265_264, x265_265, x265_268, x265_269, x265_270, x265_271, x265_274, x265_275, x265_276, x265_279, x265_282, x265_285, x265_289, x265_290, x265_292, x265_295, x265_297, x265_299, x265_300, x265_303, x265_305, x265_306, x265_309, x265_310, x265_313, x265_314, x265_315, x265_316, x265_320, x265_322, x265_325, x265_326, x265_327, x265_328, x265_330, x265_331, x265_332, x265_333, x265_335, x265_338, x265_341, x265_344, x265_348, x265_351, x265_352, x265_356, x265_358, x265_361, x265_362, x265_365, x265_367, x265_368, x265_371, x265_373, x265_374, x265_375, x265_378, x265_382, x265_383, x265_384, x265_387, x265_390, x265_391, x265_394, x265_395, t6, Kc_some, if_pos, if_neg, ↓reduceIte, not_true_eq_false, not_false_eq_true]
  have r2 : Ex sc d 265 347 [some (vR 373), some (vI h), some (vI 1), some (vI c'), some (vI 1), some (vI 30), l6, l7] [] (wH S7 u) Q ↔ Ex sc d 265 354 [some (vR 373), some (vI h), some (vI 1), some (vI c'), some (vI 1), some (vI 0), l6, l7] [] (wH S7' u) Q := by
    rw [x265_347]
    simp (disch := first | omega | exact notL_I | exact notL_N | exact notL_R | exact oM | exact catS_le (Nat.le_of_ble_eq_true rfl) | exact Nat.le_of_ble_eq_true rfl | rfl) only [x265_0, x265_1, x265_2, x265_5, x265_8, x265_11, x265_12, x265_13, x265_14, x265_15, x265_16, x265_19, x265_20, x265_23, x265_24, x265_25, x265_28, x265_29, x265_32, x265_33, x265_34, x265_35, x265_36, x265_37, x265_40, x265_41, x265_42, x265_45, x265_46, x265_47, x265_48, x265_52, x265_54, x265_57, x265_58, x265_61, x265_63, x265_64, x265_65, x265_68, x265_71, x265_72, x265_76, x265_77, x265_78, x265_79, x265_80, x265_83, x265_86, x265_87, x265_88, x265_89, x265_90, x265_92, x265_93, x265_96, x265_98, x265_99, x265_103, x265_104, x265_107, x265_108, x265_109, x265_110, x265_111, x265_113, x265_114, x265_116, x265_117, x265_120, x265_122, x265_124, x265_125, x265_126, x265_128, x265_131, x265_134, x265_135, x265_138, x265_140, x265_141, x265_142, x265_145, x265_147, x265_150, x265_153, x265_154, x265_157, x265_159, x265_162, x265_163, x265_164, x265_165, x265_168, x265_169, x265_172, x265_174, x265_177, x265_178, x265_181, x265_182, x265_183, x265_184, x265_187, x265_188, x265_191, x265_193, x265_195, x265_198, x265_201, x265_202, x265_205, x265_207, x265_210, x265_211, x265_212, x265_215, x265_217, x265_218, x265_221, x265_224, x265_225, x265_226, x265_228, x265_229, x265_232, x265_233, x265_234, x265_235, x265_238, x265_239, x265_240, x265_241, x265_244, x265_245, x265_246, x265_249, x265_250, x265_253, x265_254, x265_255, x265_256, x265_258, x265_259, x265_262, x265_263, x265_264, x265_265, x265_268, x265_269, x265_270, x265_271, x265_274, x265_275, x265_276, x265_279, x265_282, x265_285, x265_289, x265_290, x265_292, x265_295, x265_297, x265_299, x265_300, x265_303, x265_305, x265_306, x265_309, x265_310, x265_313, x265_314, x265_315, x265_316, x265_320, x265_322, x265_325, x265_326, x265_327, x265_328, x265_330, x265_331, x265_332, x265_333, x265_335, x265_338, x265_341, x265_344, x265_348, x265_351, x265_352, x265_356, x265_358, x265_361, x265_362, x265_365, x265_367, x265_368, x265_371, x265_373, x265_374, x265_375, x265_378, x265_382, x265_383, x265_384, x265_387, x265_390, x265_391, x265_394, x265_395, fg, Kc_none, if_pos, if_neg, ↓reduceIte, not_true_eq_false, not_false_eq_true]
  rw [r1, lp u Q, r2, lq u Q, x265_381]
  rcases b01 with e | e
  · rw [e] at z2 ⊢
    simp (disch := first | omega | exact notL_I | exact notL_N | exact notL_R | exact oM | exact catS_le (Nat.le_of_ble_eq_true rfl) | exact Nat.le_of_ble_eq_true rfl | rfl) only [x265_0, x265_1, x265_2, x265_5, x265_8, x265_11, x265_12, x265_13, x265_14, x265_15, x265_16, x265_19, x265_20, x265_23, x265_24, x265_25, x265_28, x265_29, x265_32, x265_33, x265_34, x265_35, x265_36, x265_37, x265_40, x265_41, x265_42, x265_45, x265_46, x265_47, x265_48, x265_52, x265_54, x265_57, x265_58, x265_61, x265_63, x265_64, x265_65, x265_68, x265_71, x265_72, x265_76, x265_77, x265_78, x265_79, x265_80, x265_83, x265_86, x265_87, x265_88, x265_89, x265_90, x265_92, x265_93, x265_96, x265_98, x265_99, x265_103, x265_104, x265_107, x265_108, x265_109, x265_110, x265_111, x265_113, x265_114, x265_116, x265_117, x265_120, x265_122, x265_124, x265_125, x265_126, x265_128, x265_131, x265_134, x265_135, x265_138, x265_140, x265_141, x265_142, x265_145, x265_147, x265_150, x265_153, x265_154, x265_157, x265_159, x265_162, x265_163, x265_164, x265_165, x265_168, x265_169, x265_172, x265_174, x265_177, x265_178, x265_181, x265_182, x265_183, x265_184, x265_187, x265_188, x265_191, x265_193, x265_195, x265_198, x265_201, x265_202, x265_205, x265_207, x265_210, x265_211, x265_212, x265_215, x265_217, x265_218, x265_221, x265_224, x265_225, x265_226, x265_228, x265_229, x265_232, x265_233, x265_234, x265_235, x265_238, x265_239, x265_240, x265_241, x265_244, x265_245, x265_246, x265_249, x265_250, x265_253, x265_254, x265_255, x265_256, x265_258, x265_259, x265_262, x265_263, x265_264, x265_265, x265_268, x265_269, x265_270, x265_271, x265_274, x265_275, x265_276, x265_279, x265_282, x265_285, x265_289, x265_290, x265_292, x265_295, x265_297, x265_299, x265_300, x265_303, x265_305, x265_306, x265_309, x265_310, x265_313, x265_314, x265_315, x265_316, x265_320, x265_322, x265_325, x265_326, x265_327, x265_328, x265_330, x265_331, x265_332, x265_333, x265_335, x265_338, x265_341, x265_344, x265_348, x265_351, x265_352, x265_356, x265_358, x265_361, x265_362, x265_365, x265_367, x265_368, x265_371, x265_373, x265_374, x265_375, x265_378, x265_382, x265_383, x265_384, x265_387, x265_390, x265_391, x265_394, x265_395, z2, Kc_some, if_pos, if_neg, ↓reduceIte, not_true_eq_false, not_false_eq_true]
  · rw [e] at z2 ⊢
    simp (disch := first | omega | exact notL_I | exact notL_N | exact notL_R | exact oM | exact catS_le (Nat.le_of_ble_eq_true rfl) | exact Nat.le_of_ble_eq_true rfl | rfl) only [x265_0, x265_1, x265_2, x265_5, x265_8, x265_11, x265_12, x265_13, x265_14, x265_15, x265_16, x265_19, x265_20, x265_23, x265_24, x265_25, x265_28, x265_29, x265_32, x265_33, x265_34, x265_35, x265_36, x265_37, x265_40, x265_41, x265_42, x265_45, x265_46, x265_47, x265_48, x265_52, x265_54, x265_57, x265_58, x265_61, x265_63, x265_64, x265_65, x265_68, x265_71, x265_72, x265_76, x265_77, x265_78, x265_79, x265_80, x265_83, x265_86, x265_87, x265_88, x265_89, x265_90, x265_92, x265_93, x265_96, x265_98, x265_99, x265_103, x265_104, x265_107, x265_108, x265_109, x265_110, x265_111, x265_113, x265_114, x265_116, x265_117, x265_120, x265_122, x265_124, x265_125, x265_126, x265_128, x265_131, x265_134, x265_135, x265_138, x265_140, x265_141, x265_142, x265_145, x265_147, x265_150, x265_153, x265_154, x265_157, x265_159, x265_162, x265_163, x265_164, x265_165, x265_168, x265_169, x265_172, x265_174, x265_177, x265_178, x265_181, x265_182, x265_183, x265_184, x265_187, x265_188, x265_191, x265_193, x265_195, x265_198, x265_201, x265_202, x265_205, x265_207, x265_210, x265_211, x265_212, x265_215, x265_217, x265_218, x265_221, x265_224, x265_225, x265_226, x265_228, x265_229, x265_232, x265_233, x265_234, x265_235, x265_238, x265_239, x265_240, x265_241, x265_244, x265_245, x265_246, x265_249, x265_250, x265_253, x265_254, x265_255, x265_256, x265_258, x265_259, x265_262, x265_263, x265_264, x265_265, x265_268, x265_269, x265_270, x265_271, x265_274, x265_275, x265_276, x265_279, x265_282, x265_285, x265_289, x265_290, x265_292, x265_295, x265_297, x265_299, x265_300, x265_303, x265_305, x265_306, x265_309, x265_310, x265_313, x265_314, x265_315, x265_316, x265_320, x265_322, x265_325, x265_326, x265_327, x265_328, x265_330, x265_331, x265_332, x265_333, x265_335, x265_338, x265_341, x265_344, x265_348, x265_351, x265_352, x265_356, x265_358, x265_361, x265_362, x265_365, x265_367, x265_368, x265_371, x265_373, x265_374, x265_375, x265_378, x265_382, x265_383, x265_384, x265_387, x265_390, x265_391, x265_394, x265_395, z2, Kc_some, if_pos, if_neg, ↓reduceIte, not_true_eq_false, not_false_eq_true]
set_option maxHeartbeats 1000000 in
theorem m_fol {h : Int} (hd : 90 ≤ d) (h0 : 0 ≤ h) (h2 : h ≤ 2) (VX : VR A X) (o : okAS A) :
    (∃ q Z, tldP (nxT A.2.1.2 A.2.1.1) (A.1 h).1 (nxT A.2.1.2 A.2.1.1 0) = .inr q ∧ okRl (A.1 h).1 q ∧ VR (tfA A (0, -1)) Z ∧ (∀ c, c < 373 → Z c = X c) ∧ Z 373 0 = 0 ∧ RnA sc d 265 0 [some (vR 373), some (vI h), none, none, none, none, none, none] X (some (vI (folV (A.1 h) q))) Z) ∨
    (∃ e Z, tldP (nxT A.2.1.2 A.2.1.1) (A.1 h).1 (nxT A.2.1.2 A.2.1.1 0) = .inl e ∧ VR (tfA A e) Z ∧ (∀ c, c < 373 → Z c = X c) ∧ Z 373 0 = 0 ∧ RnA sc d 265 0 [some (vR 373), some (vI h), none, none, none, none, none, none] X (some (vI (-1))) Z) := by
  have k := o.1 h h0 h2
  have V0 := VX.th (x := 0)
  have ry := r_yes (sc := sc) (d := d - 1) (σ := X) (h := h) (by omega) h0 h2
  have fa := fun u Q => s_fails (sc := sc) (σ := X) (u := u) (Q := Q) (d := d - 1) (b := 0) (Or.inl rfl)
  have W0 := V0.2.1.1
  have cp := fun u Q => s_rulesOf (sc := sc) (σ := su X 373 0 0) (u := u) (Q := Q) (d := d - 1) (f := h) (t := 4) h0 (by omega) (by omega) (by omega) (by omega)
  have q1 : HQa (su X 373 0 0) h (cpR (su X 373 0 0) h 4) 4 := cpR_a
  have n1 : ∀ c, c ≠ 374 → c ≠ 375 → c ≠ 376 → cpR (su X 373 0 0) h 4 c = su X 373 0 0 c := cpR_r.1
  have K1 : KpR 3 (su X 373 0 0) (cpR (su X 373 0 0) h 4) := ⟨cpR_rest, fun g _ _ _ => cpR_q (by omega), cpR_wf W0 h0 (by omega), fun z => by rw [cpR_r.1 393 (by omega) (by omega) (by omega)]; exact z⟩
  have q1' : HQa (su X 373 0 0) h (cpR (su X 373 0 0) h 4) h := (cpR_q (by omega)).1
  generalize cpR (su X 373 0 0) h 4 = S1 at *
  have V1 := V0.k3 K1
  have z1 : S1 373 0 = 0 := by rw [n1 373 (by omega) (by omega) (by omega), su_eq]
  have eC1 : coR S1 4 = (A.1 h).1 := q1.co.trans (congrArg (fun x : Hl => x.1) (V0.1 h h0 h2))
  have W1 := V1.2.1.1
  have so := s_oneRule (sc := sc) (d := d - 1) (σ := S1) (by omega) W1
  rw [V1.2.2.1.1, V1.2.2.1.2, eC1] at so
  have lo1 : ∀ c, c < 373 → S1 c = X c := fun c hc => by rw [n1 c (by omega) (by omega) (by omega), su_ne (by omega)]
  rcases so with ⟨q, ρ, s1, s2, s3, s4, s5, s6, s7⟩ | ⟨e, ρ, s1, s2, s3, s4, s5⟩
  case inr =>
    have Vρ := V1.k3 (s2.k3 s3)
    have f5 := fl_tld e s1
    unfold RnA at s5
    have te := s_tellsW (sc := sc) (d := d - 1) (σ := ρ) (e := e) (by rw [s4.1]; exact ⟨by omega, by omega⟩) (by rw [s4.1, if_neg (by omega)]; exact s4.2)
    rw [s4.1] at te
    have oY := te_o (σ := ρ) (e := e) (x := e.1)
    refine Or.inr ⟨e, _, s1, Vρ.te (e := e) (x := e.1) o rfl, fun c hc => by rw [oY.1 c hc, s2.1 c (by omega) (by omega) (by omega), lo1 c hc], by rw [oY.2, s2.2.1 0 (by omega) (by omega)]; exact z1, fun u Q => ?_⟩
    simp (disch := first | omega | exact notL_I | exact notL_N | exact notL_R | exact oM | exact catS_le (Nat.le_of_ble_eq_true rfl) | exact Nat.le_of_ble_eq_true rfl | rfl) only [x265_0, x265_1, x265_2, x265_5, x265_8, x265_11, x265_12, x265_13, x265_14, x265_15, x265_16, x265_19, x265_20, x265_23, x265_24, x265_25, x265_28, x265_29, x265_32, x265_33, x265_34, x265_35, x265_36, x265_37, x265_40, x265_41, x265_42, x265_45, x265_46, x265_47, x265_48, x265_52, x265_54, x265_57, x265_58, x265_61, x265_63, x265_64, x265_65, x265_68, x265_71, x265_72, x265_76, x265_77, x265_78, x265_79, x265_80, x265_83, x265_86, x265_87, x265_88, x265_89, x265_90, x265_92, x265_93, x265_96, x265_98, x265_99, x265_103, x265_104, x265_107, x265_108, x265_109, x265_110, x265_111, x265_113, x265_114, x265_116, x265_117, x265_120, x265_122, x265_124, x265_125, x265_126, x265_128, x265_131, x265_134, x265_135, x265_138, x265_140, x265_141, x265_142, x265_145, x265_147, x265_150, x265_153, x265_154, x265_157, x265_159, x265_162, x265_163, x265_164, x265_165, x265_168, x265_169, x265_172, x265_174, x265_177, x265_178, x265_181, x265_182, x265_183, x265_184, x265_187, x265_188, x265_191, x265_193, x265_195, x265_198, x265_201, x265_202, x265_205, x265_207, x265_210, x265_211, x265_212, x265_215, x265_217, x265_218, x265_221, x265_224, x265_225, x265_226, x265_228, x265_229, x265_232, x265_233, x265_234, x265_235, x265_238, x265_239, x265_240, x265_241, x265_244, x265_245, x265_246, x265_249, x265_250, x265_253, x265_254, x265_255, x265_256, x265_258, x265_259, x265_262, x265_263, x265_264, x265_265, x265_268, x265_269, x265_270, x265_271, x265_274, x265_275, x265_276, x265_279, x265_282, x265_285, x265_289, x265_290, x265_292, x265_295, x265_297, x265_299, x265_300, x265_303, x265_305, x265_306, x265_309, x265_310, x265_313, x265_314, x265_315, x265_316, x265_320, x265_322, x265_325, x265_326, x265_327, x265_328, x265_330, x265_331, x265_332, x265_333, x265_335, x265_338, x265_341, x265_344, x265_348, x265_351, x265_352, x265_356, x265_358, x265_361, x265_362, x265_365, x265_367, x265_368, x265_371, x265_373, x265_374, x265_375, x265_378, x265_382, x265_383, x265_384, x265_387, x265_390, x265_391, x265_394, x265_395, ry, fa, cp, s5, te, Kc_some, Kc_none, if_pos, if_neg, ↓reduceIte, not_true_eq_false, not_false_eq_true]
  case inl =>
  have Vρ := V1.k3 (s2.k3 s3)
  unfold RnA at s7
  have te := s_tellsW (sc := sc) (d := d - 1) (σ := ρ) (e := (0, -1)) (by rw [s6]; exact ⟨by decide, by decide⟩) (by rw [s6]; rfl)
  rw [s6] at te
  have VY := Vρ.te (e := (0, -1)) (x := 0) o rfl
  have oY := te_o (σ := ρ) (e := (0, -1)) (x := 0)
  have Yne : ∀ c, c ≠ 373 → su (su (su ρ 373 20 0) 373 21 (-1)) 373 14 0 c = ρ c := fun c a => by rw [su_ne a, su_ne a, su_ne a]
  dsimp only at te VY oY
  generalize su (su (su ρ 373 20 0) 373 21 (-1)) 373 14 0 = Y at *
  have WY := VY.2.1.1
  have hY : hlR Y h = A.1 h := VY.1 h h0 h2
  have uY : ruR Y 4 0 = q := by
    rw [← s4]
    exact (HQa.of (σ := ρ) (τ := Y) (g := 4) (fun c a b => Yne c (by omega))).ru s3 (by omega) (by omega) (by omega) (by omega)
  have c4Y : coR Y 4 = coR Y h := by
    have a1 : coR Y 4 = (A.1 h).1 := by
      rw [← eC1]
      unfold coR
      rw [Yne 374 (by omega), s2.1 374 (by omega) (by omega) (by omega)]
    rw [a1, show coR Y h = (A.1 h).1 from congrArg (fun x : Hl => x.1) hY]
  -- the hall's rules, no rows
  have cp2 := fun u Q => s_rulesOf (sc := sc) (σ := Y) (u := u) (Q := Q) (d := d - 1) (f := h) (t := 3) h0 (by omega) (by omega) (by omega) (by omega)
  have em := fun u Q => s_empty (sc := sc) (σ := cpR Y h 3) (u := u) (Q := Q) (d := d - 1) (h := 3) (by omega) (by omega)
  have q2 : HQa Y h (emE (cpR Y h 3) 3) 3 := cpR_a.trans emE_a
  have q2h : HQa Y h (emE (cpR Y h 3) 3) h := (cpR_q (σ := Y) (f := h) (t := 3) (g := h) (by omega)).1.trans emE_a
  have q24 : HQa Y 4 (emE (cpR Y h 3) 3) 4 := (cpR_q (σ := Y) (f := h) (t := 3) (g := 4) (by omega)).1.trans emE_a
  have W2 := emE_wf (h := 3) (cpR_wf (t := 3) WY h0 (show h ≤ 4 by omega))
  have K2 : KpR 3 Y (emE (cpR Y h 3) 3) := ⟨cpR_rest.trans emE_rest, fun g _ _ hg => (cpR_q hg).trans (emE_q hg), W2, fun z => by rw [emE_r.1 393 (by omega) (by omega) (by omega) (by omega) (by omega) (by omega), cpR_r.1 393 (by omega) (by omega) (by omega)]; exact z⟩
  have z2 : emE (cpR Y h 3) 3 373 0 = Y 373 0 := by rw [emE_r.1 373 (by omega) (by omega) (by omega) (by omega) (by omega) (by omega), cpR_r.1 373 (by omega) (by omega) (by omega)]
  have hl2 : (hlR (emE (cpR Y h 3) 3) 3).2.2 = (0, [], 0, (fun _ => 0), [], fun _ => -1) := emE_hl
  generalize emE (cpR Y h 3) 3 = S2 at *
  -- no names yet
  have l0 := fun u Q => l_fol0 (sc := sc) (d := d) (σ := S2) (h := h) (u := u) (Q := Q) 26 0 (by omega) (by omega)
  rw [fl_0] at l0
  have n3 : ∀ c, c ≠ 393 → fl S2 393 0 26 (-1) c = S2 c := fun c hc => fl_ne hc
  have a3 : ∀ v, 0 ≤ v → v ≤ 25 → fl S2 393 0 26 (-1) 393 v = -1 := fun v v0 v1 => by rw [fl_at, if_pos (by omega)]
  generalize fl S2 393 0 26 (-1) = S3 at *
  have D3 : Dt S2 S3 := ⟨fun c a b => n3 c (by omega), by rw [n3 373 (by omega)]⟩
  have W3 := D3.wf W2
  have g3 : gdB (S3 393) := fun v v0 v1 => by rw [a3 v v0 v1]; omega
  have b3 : cB (S3 393) = bd0 := by
    funext v
    unfold cB bd0
    split
    · rename_i hv; exact a3 v hv.1 hv.2
    · rfl
  have K3 : KpR 3 S2 S3 := ⟨RsR.of (fun c a b => n3 c (by omega)) (fun j hj => by rw [n3 373 (by omega)]), fun g _ _ _ => HQ.of (fun c a b => n3 c (by omega)), W3, fun _ => g3⟩
  have q33 : ∀ g, HQa S2 g S3 g := fun g => HQa.of (fun c a b => n3 c (by omega))
  have q3 := q2.trans (q33 3)
  have q3h := q2h.trans (q33 h)
  have q34 := q24.trans (q33 4)
  have u3 : ruR S3 4 0 = q := (q34.ru WY (by omega) (by omega) (by omega) (by omega)).trans uY
  have wr := W3.rul (h := 4) (r := 0) (by omega) (by omega) (by omega) (by omega)
  have as3 : atsF S3 4 0 0 (S3 376 (30 * (10 * 4 + 0))).toNat 0 = q.2.1 := congrArg (fun x : Ru => x.2.1) u3
  have cc : ∀ t, 0 ≤ t → t ≤ 25 → Y 374 (26 * 4 + t) = Y 374 (26 * h + t) := fun t t0 t1 => by
    have := congrFun c4Y t
    rw [coR_in t0 t1, coR_in t0 t1] at this
    exact this
  have eh : ∀ t, 0 ≤ t → t ≤ 25 → S3 374 (26 * h + t) = S3 374 (26 * 4 + t) := fun t t0 t1 => by rw [q3h.1 t t0 (by omega), q34.1 t t0 (by omega), cc t t0 t1]
  have e3 : ∀ t, 0 ≤ t → t ≤ 25 → S3 374 (26 * 3 + t) = S3 374 (26 * 4 + t) := fun t t0 t1 => by rw [q3.1 t t0 (by omega), q34.1 t t0 (by omega), cc t t0 t1]
  have c34 : coR S3 4 = (A.1 h).1 := by rw [q34.co, c4Y]; exact congrArg (fun x : Hl => x.1) hY
  have c33 : coR S3 3 = (A.1 h).1 := by rw [q3.co]; exact congrArg (fun x : Hl => x.1) hY
  have l33 : rlR S3 3 = (A.1 h).2.1 := by rw [q3.rl WY h0 (by omega)]; exact congrArg (fun x : Hl => x.2.1) hY
  have hl3 : (rsR S3 3, S3 381 3, naR S3 3) = ([], 0, fun _ => 0) := by
    have e := D3.hl (g := 3) W2 (by omega) (by omega)
    rw [← e] at hl2
    have r1 := congrArg (fun x : Int × Rn => x.2.1) hl2
    have r2 := congrArg (fun x : Int × Rn => x.2.2.1) hl2
    have r3 := congrArg (fun x : Int × Rn => x.2.2.2.1) hl2
    have r1' : rsR S3 3 = [] := r1
    have r2' : S3 381 3 = 0 := r2
    have r3' : naR S3 3 = fun _ => 0 := r3
    rw [r1', r2', r3']
  have r1' : rsR S3 3 = [] := congrArg (fun x : List Rw × Int × (Int → Int) => x.1) hl3
  have r2' : S3 381 3 = 0 := congrArg (fun x : List Rw × Int × (Int → Int) => x.2.1) hl3
  have r3' : naR S3 3 = fun _ => 0 := congrArg (fun x : List Rw × Int × (Int → Int) => x.2.2) hl3
  obtain ⟨S4, c', l5, l6, l7, b1, b2, b3', b4, b5, b6, b7⟩ := l_fatms (sc := sc) (d := d) (h := h) (C := (A.1 h).1) (by omega) h0 h2 (S3 376 (30 * (10 * 4 + 0))).toNat 0 0 S3 W3 g3 (by rw [b3]; exact okB_0) (by omega) (by omega) (by omega) eh e3 (by rw [as3, c34]; exact s5.2.1) (by rw [r2']; omega)
  rw [as3, b3] at b4
  have b4' : cB (S4 393) = nameE (plcL q.2.1) 0 bd0 := by rw [nameE_fold]; exact b4
  rw [as3, r1', r2', r3', b4'] at b6
  have q44 : ∀ g, HQa S3 g S4 g := fun g => HQa.of (fun c a b => b2 c (by omega))
  obtain ⟨Z, w1, w2, w3⟩ := m_fol2 (sc := sc) (d := d) (h := h) (q := q) (S := S4) (H := A.1 h) (c' := (c' : Int)) (l5 := l5) (l6 := l6) (l7 := l7) (by omega) h0 h2 b1.2.2.1 b5 ((q44 3).co.trans c33) (fun t t0 t1 => by rw [b2 374 (by omega)]; exact e3 t t0 t1) (((q44 3).rl W3 (by omega) (by omega)).trans l33) (((q44 4).ru W3 (by omega) (by omega) (by omega) (by omega)).trans u3) k.2.2.2.1 s5 b6 b4'
  have KZ := ((K2.trans K3).trans b1).trans w1
  refine Or.inl ⟨q, Z, s1, s5, VY.k3 KZ, fun c hc => by rw [KZ.1.2.2.2.2.2.2.2.2.2 c hc, oY.1 c hc, s2.1 c (by omega) (by omega) (by omega), lo1 c hc], by rw [w2, b3', n3 373 (by omega), z2, oY.2, s2.2.1 0 (by omega) (by omega)]; exact z1, fun u Q => ?_⟩
  have b8 := b7 u Q
  have w4 := w3 u Q
  rw [b2 376 (by omega)] at w4
  have st : Ex sc d 265 0 [some (vR 373), some (vI h), none, none, none, none, none, none] [] (wH X u) Q ↔ Ex sc d 265 50 [some (vR 373), some (vI h), some (vI 1), some (vI 0), some (vI 0), none, none, none] [] (wH S2 u) Q := by
    simp (disch := first | omega | exact notL_I | exact notL_N | exact notL_R | exact oM | exact catS_le (Nat.le_of_ble_eq_true rfl) | exact Nat.le_of_ble_eq_true rfl | rfl) only [x265_0, x265_1, x265_2, x265_5, x265_8, x265_11, x265_12, x265_13, x265_14, x265_15, x265_16, x265_19, x265_20, x265_23, x265_24, x265_25, x265_28, x265_29, x265_32, x265_33, x265_34, x265_35, x265_36, x265_37, x265_40, x265_41, x265_42, x265_45, x265_46, x265_47, x265_48, x265_52, x265_54, x265_57, x265_58, x265_61, x265_63, x265_64, x265_65, x265_68, x265_71, x265_72, x265_76, x265_77, x265_78, x265_79, x265_80, x265_83, x265_86, x265_87, x265_88, x265_89, x265_90, x265_92, x265_93, x265_96, x265_98, x265_99, x265_103, x265_104, x265_107, x265_108, x265_109, x265_110, x265_111, x265_113, x265_114, x265_116, x265_117, x265_120, x265_122, x265_124, x265_125, x265_126, x265_128, x265_131, x265_134, x265_135, x265_138, x265_140, x265_141, x265_142, x265_145, x265_147, x265_150, x265_153, x265_154, x265_157, x265_159, x265_162, x265_163, x265_164, x265_165, x265_168, x265_169, x265_172, x265_174, x265_177, x265_178, x265_181, x265_182, x265_183, x265_184, x265_187, x265_188, x265_191, x265_193, x265_195, x265_198, x265_201, x265_202, x265_205, x265_207, x265_210, x265_211, x265_212, x265_215, x265_217, x265_218, x265_221, x265_224, x265_225, x265_226, x265_228, x265_229, x265_232, x265_233, x265_234, x265_235, x265_238, x265_239, x265_240, x265_241, x265_244, x265_245, x265_246, x265_249, x265_250, x265_253, x265_254, x265_255, x265_256, x265_258, x265_259, x265_262, x265_263, x265_264, x265_265, x265_268, x265_269, x265_270, x265_271, x265_274, x265_275, x265_276, x265_279, x265_282, x265_285, x265_289, x265_290, x265_292, x265_295, x265_297, x265_299, x265_300, x265_303, x265_305, x265_306, x265_309, x265_310, x265_313, x265_314, x265_315, x265_316, x265_320, x265_322, x265_325, x265_326, x265_327, x265_328, x265_330, x265_331, x265_332, x265_333, x265_335, x265_338, x265_341, x265_344, x265_348, x265_351, x265_352, x265_356, x265_358, x265_361, x265_362, x265_365, x265_367, x265_368, x265_371, x265_373, x265_374, x265_375, x265_378, x265_382, x265_383, x265_384, x265_387, x265_390, x265_391, x265_394, x265_395, ry, fa, cp, s7, te, cp2, em, Kc_some, Kc_none, if_pos, if_neg, ↓reduceIte, not_true_eq_false, not_false_eq_true]
  rw [st, l0 u Q]
  exact b8.trans w4
end F4
