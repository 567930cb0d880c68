/-! what follows: the reference, all of it -/
section F3
variable {sc : Scr} {d : Nat} {σ : St} {A : AS}
theorem l_fol0 {h : Int} {u : Bool × Nat × Nat × Int} {Q : Rs → HS → Prop} : ∀ (k : Nat) (i : Int), 0 ≤ i → i + k = 26 → (Ex sc d 265 50 [some (vR 373), some (vI h), some (vI 1), some (vI 0), some (vI i), none, none, none] [] (wH (fl σ 393 0 i (-1)) u) Q ↔ Ex sc d 265 74 [some (vR 373), some (vI h), some (vI 1), some (vI 0), some (vI 0), none, none, none] [] (wH (fl σ 393 0 26 (-1)) u) Q) := by
  intro k
  induction k with
  | zero =>
    intro i h0 h1
    obtain rfl : i = 26 := by omega
    rw [x265_50]
    simp (disch := first | omega | exact notL_I | exact notL_N | exact notL_R | exact oM | exact catS_le (Nat.le_of_ble_eq_true rfl) | exact Nat.le_of_ble_eq_true rfl | rfl) only [x265_0, x265_1, x265_2, x265_5, x265_8, x265_11, x265_12, x265_13, x265_14, x265_15, x265_16, x265_19, x265_20, x265_23, x265_24, x265_25, x265_28, x265_29, x265_32, x265_33, x265_34, x265_35, x265_36, x265_37, x265_40, x265_41, x265_42, x265_45, x265_46, x265_47, x265_48, x265_52, x265_54, x265_57, x265_58, x265_61, x265_63, x265_64, x265_65, x265_68, x265_71, x265_72, x265_76, x265_77, x265_78, x265_79, x265_80, x265_83, x265_86, x265_87, x265_88, x265_89, x265_90, x265_92, x265_93, x265_96, x265_98, x265_99, x265_103, x265_104, x265_107, x265_108, x265_109, x265_110, x265_111, x265_113, x265_114, x265_116, x265_117, x265_120, x265_122, x265_124, x265_125, x265_126, x265_128, x265_131, x265_134, x265_135, x265_138, x265_140, x265_141, x265_142, x265_145, x265_147, x265_150, x265_153, x265_154, x265_157, x265_159, x265_162, x265_163, x265_164, x265_165, x265_168, x265_169, x265_172, x265_174, x265_177, x265_178, x265_181, x265_182, x265_183, x265_184, x265_187, x265_188, x265_191, x265_193, x265_195, x265_198, x265_201, x265_202, x265_205, x265_207, x265_210, x265_211, x265_212, x265_215, x265_217, x265_218, x265_221, x265_224, x265_225, x265_226, x265_228, x265_229, x265_232, x265_233, x265_234, x265_235, x265_238, x265_239, x265_240, x265_241, x265_244, x265_245, x265_246, x265_249, x265_250, x265_253, x265_254, x265_255, x265_256, x265_258, x265_259, x265_262, x265_263, x265_264, x265_265, x265_268, x265_269, x265_270, x265_271, x265_274, x265_275, x265_276, x265_279, x265_282, x265_285, x265_289, x265_290, x265_292, x265_295, x265_297, x265_299, x265_300, x265_303, x265_305, x265_306, x265_309, x265_310, x265_313, x265_314, x265_315, x265_316, x265_320, x265_322, x265_325, x265_326, x265_327, x265_328, x265_330, x265_331, x265_332, x265_333, x265_335, x265_338, x265_341, x265_344, x265_347, x265_348, x265_351, x265_352, x265_356, x265_358, x265_361, x265_362, x265_365, x265_367, x265_368, x265_371, x265_373, x265_374, x265_375, x265_378, x265_381, x265_382, x265_383, x265_384, x265_387, x265_390, x265_391, x265_394, x265_395, if_pos, if_neg, ↓reduceIte, not_true_eq_false, not_false_eq_true]
  | succ k ih =>
    intro i h0 h1
    rw [x265_50]
    simp (disch := first | omega | exact notL_I | exact notL_N | exact notL_R | exact oM | exact catS_le (Nat.le_of_ble_eq_true rfl) | exact Nat.le_of_ble_eq_true rfl | rfl) only [x265_0, x265_1, x265_2, x265_5, x265_8, x265_11, x265_12, x265_13, x265_14, x265_15, x265_16, x265_19, x265_20, x265_23, x265_24, x265_25, x265_28, x265_29, x265_32, x265_33, x265_34, x265_35, x265_36, x265_37, x265_40, x265_41, x265_42, x265_45, x265_46, x265_47, x265_48, x265_52, x265_54, x265_57, x265_58, x265_61, x265_63, x265_64, x265_65, x265_68, x265_71, x265_72, x265_76, x265_77, x265_78, x265_79, x265_80, x265_83, x265_86, x265_87, x265_88, x265_89, x265_90, x265_92, x265_93, x265_96, x265_98, x265_99, x265_103, x265_104, x265_107, x265_108, x265_109, x265_110, x265_111, x265_113, x265_114, x265_116, x265_117, x265_120, x265_122, x265_124, x265_125, x265_126, x265_128, x265_131, x265_134, x265_135, x265_138, x265_140, x265_141, x265_142, x265_145, x265_147, x265_150, x265_153, x265_154, x265_157, x265_159, x265_162, x265_163, x265_164, x265_165, x265_168, x265_169, x265_172, x265_174, x265_177, x265_178, x265_181, x265_182, x265_183, x265_184, x265_187, x265_188, x265_191, x265_193, x265_195, x265_198, x265_201, x265_202, x265_205, x265_207, x265_210, x265_211, x265_212, x265_215, x265_217, x265_218, x265_221, x265_224, x265_225, x265_226, x265_228, x265_229, x265_232, x265_233, x265_234, x265_235, x265_238, x265_239, x265_240, x265_241, x265_244, x265_245, x265_246, x265_249, x265_250, x265_253, x265_254, x265_255, x265_256, x265_258, x265_259, x265_262, x265_263, x265_264, x265_265, x265_268, x265_269, x265_270, x265_271, x265_274, x265_275, x265_276, x265_279, x265_282, x265_285, x265_289, x265_290, x265_292, x265_295, x265_297, x265_299, x265_300, x265_303, x265_305, x265_306, x265_309, x265_310, x265_313, x265_314, x265_315, x265_316, x265_320, x265_322, x265_325, x265_326, x265_327, x265_328, x265_330, x265_331, x265_332, x265_333, x265_335, x265_338, x265_341, x265_344, x265_347, x265_348, x265_351, x265_352, x265_356, x265_358, x265_361, x265_362, x265_365, x265_367, x265_368, x265_371, x265_373, x265_374, x265_375, x265_378, x265_381, x265_382, x265_383, x265_384, x265_387, x265_390, x265_391, x265_394, x265_395, gM_follow, WM_follow, fl_su, if_pos, if_neg, ↓reduceIte, not_true_eq_false, not_false_eq_true]
    exact ih (i + 1) (by omega) (by omega)
/-- all atoms -/
theorem l_fatms {h : Int} {C : Int → Int} (hd : 4 ≤ d) (h0 : 0 ≤ h) (h2 : h ≤ 2) : ∀ (k : Nat) (i : Int) (c : Nat) (S : St), WfM S → gdB (S 393) → okB (cB (S 393)) → c + 3 * k ≤ 80 → 0 ≤ i → i + k = S 376 (30 * (10 * 4 + 0)) → (∀ t, 0 ≤ t → t ≤ 25 → S 374 (26 * h + t) = S 374 (26 * 4 + t)) → (∀ t, 0 ≤ t → t ≤ 25 → S 374 (26 * 3 + t) = S 374 (26 * 4 + t)) → (∀ a ∈ atsF S 4 0 0 k i, okA (coR S 4) a) → S 381 3 + k ≤ 200 →
    ∃ (S' : St) (c' : Nat) (l5' l6' l7' : Option V), KpR 3 S S' ∧ (∀ a, a = 374 ∨ a = 375 ∨ a = 376 → S' a = S a) ∧ S' 373 0 = S 373 0 ∧ cB (S' 393) = ((plcL (atsF S 4 0 0 k i)).foldl nm1 (c, cB (S 393))).2 ∧ gdB (S' 393) ∧
      (rsR S' 3, S' 381 3, naR S' 3) = sadF (rsR S 3) (S 381 3) (naR S 3) ((atsF S 4 0 0 k i).map (grA (cB (S' 393)))) ∧
      ∀ (u : Bool × Nat × Nat × Int) (Q : Rs → HS → Prop), Ex sc d 265 74 [some (vR 373), some (vI h), some (vI 1), some (vI ((c : Int))), some (vI i), none, none, none] [] (wH S u) Q ↔ Ex sc d 265 288 [some (vR 373), some (vI h), some (vI 1), some (vI ((c' : Int))), some (vI (S 376 (30 * (10 * 4 + 0)))), l5', l6', l7'] [] (wH S' u) Q := by
  suffices H : ∀ (k : Nat) (i : Int) (c : Nat) (S : St) (l5 l6 l7 : Option V), WfM S → gdB (S 393) → okB (cB (S 393)) → c + 3 * k ≤ 80 → 0 ≤ i → i + k = S 376 (30 * (10 * 4 + 0)) → (∀ t, 0 ≤ t → t ≤ 25 → S 374 (26 * h + t) = S 374 (26 * 4 + t)) → (∀ t, 0 ≤ t → t ≤ 25 → S 374 (26 * 3 + t) = S 374 (26 * 4 + t)) → (∀ a ∈ atsF S 4 0 0 k i, okA (coR S 4) a) → S 381 3 + k ≤ 200 →
    ∃ (S' : St) (c' : Nat) (l5' l6' l7' : Option V), KpR 3 S S' ∧ (∀ a, a = 374 ∨ a = 375 ∨ a = 376 → S' a = S a) ∧ S' 373 0 = S 373 0 ∧ cB (S' 393) = ((plcL (atsF S 4 0 0 k i)).foldl nm1 (c, cB (S 393))).2 ∧ gdB (S' 393) ∧
      (rsR S' 3, S' 381 3, naR S' 3) = sadF (rsR S 3) (S 381 3) (naR S 3) ((atsF S 4 0 0 k i).map (grA (cB (S' 393)))) ∧
      ∀ (u : Bool × Nat × Nat × Int) (Q : Rs → HS → Prop), Ex sc d 265 74 [some (vR 373), some (vI h), some (vI 1), some (vI ((c : Int))), some (vI i), l5, l6, l7] [] (wH S u) Q ↔ Ex sc d 265 288 [some (vR 373), some (vI h), some (vI 1), some (vI ((c' : Int))), some (vI (S 376 (30 * (10 * 4 + 0)))), l5', l6', l7'] [] (wH S' u) Q by
    exact fun k i c S => H k i c S none none none
  intro k
  induction k with
  | zero =>
    intro i c S l5 l6 l7 W hg hb hc i0 ik eh e3 ha hn
    have hi : i = S 376 (30 * (10 * 4 + 0)) := by omega
    have wr := W.rul (h := 4) (r := 0) (by omega) (by omega) (by omega) (by omega)
    have ru := fun u Q => s_rule (sc := sc) (σ := S) (u := u) (Q := Q) (d := d - 1) (h := 4) (r := 0) (f := 0) (by omega) (by omega) (by omega) (by omega) (by omega) (by omega)
    rw [show (30 * (10 * 4 + 0) + 0 : Int) = 30 * (10 * 4 + 0) by omega] at ru
    refine ⟨S, c, l5, l6, l7, KpR.refl W, fun _ _ => rfl, rfl, rfl, hg, rfl, fun u Q => ?_⟩
    rw [x265_74, ← hi]
    rw [← hi] at ru
    simp (disch := first | omega | exact notL_I | exact notL_N | exact notL_R | exact oM | exact catS_le (Nat.le_of_ble_eq_true rfl) | exact Nat.le_of_ble_eq_true rfl | rfl) only [x265_0, x265_1, x265_2, x265_5, x265_8, x265_11, x265_12, x265_13, x265_14, x265_15, x265_16, x265_19, x265_20, x265_23, x265_24, x265_25, x265_28, x265_29, x265_32, x265_33, x265_34, x265_35, x265_36, x265_37, x265_40, x265_41, x265_42, x265_45, x265_46, x265_47, x265_48, x265_52, x265_54, x265_57, x265_58, x265_61, x265_63, x265_64, x265_65, x265_68, x265_71, x265_72, x265_76, x265_77, x265_78, x265_79, x265_80, x265_83, x265_86, x265_87, x265_88, x265_89, x265_90, x265_92, x265_93, x265_96, x265_98, x265_99, x265_103, x265_104, x265_107, x265_108, x265_109, x265_110, x265_111, x265_113, x265_114, x265_116, x265_117, x265_120, x265_122, x265_124, x265_125, x265_126, x265_128, x265_131, x265_134, x265_135, x265_138, x265_140, x265_141, x265_142, x265_145, x265_147, x265_150, x265_153, x265_154, x265_157, x265_159, x265_162, x265_163, x265_164, x265_165, x265_168, x265_169, x265_172, x265_174, x265_177, x265_178, x265_181, x265_182, x265_183, x265_184, x265_187, x265_188, x265_191, x265_193, x265_195, x265_198, x265_201, x265_202, x265_205, x265_207, x265_210, x265_211, x265_212, x265_215, x265_217, x265_218, x265_221, x265_224, x265_225, x265_226, x265_228, x265_229, x265_232, x265_233, x265_234, x265_235, x265_238, x265_239, x265_240, x265_241, x265_244, x265_245, x265_246, x265_249, x265_250, x265_253, x265_254, x265_255, x265_256, x265_258, x265_259, x265_262, x265_263, x265_264, x265_265, x265_268, x265_269, x265_270, x265_271, x265_274, x265_275, x265_276, x265_279, x265_282, x265_285, x265_289, x265_290, x265_292, x265_295, x265_297, x265_299, x265_300, x265_303, x265_305, x265_306, x265_309, x265_310, x265_313, x265_314, x265_315, x265_316, x265_320, x265_322, x265_325, x265_326, x265_327, x265_328, x265_330, x265_331, x265_332, x265_333, x265_335, x265_338, x265_341, x265_344, x265_347, x265_348, x265_351, x265_352, x265_356, x265_358, x265_361, x265_362, x265_365, x265_367, x265_368, x265_371, x265_373, x265_374, x265_375, x265_378, x265_381, x265_382, x265_383, x265_384, x265_387, x265_390, x265_391, x265_394, x265_395, ru, Kc_some, if_pos, if_neg, ↓reduceIte, not_true_eq_false, not_false_eq_true]
  | succ k ih =>
    intro i c S l5 l6 l7 W hg hb hc i0 ik eh e3 ha hn
    obtain ⟨S1, c1, v5, v7, a1, a2, a3, a4, a5, a6, a7⟩ := l_fatm (sc := sc) (d := d) (h := h) (i := i) (c := c) (S := S) (by omega) h0 h2 W hg hb (by omega) i0 (by omega) eh e3 (ha _ (by rw [atsF]; exact List.mem_cons_self)) (by omega)
    obtain ⟨n1, n2, n3, n4⟩ := nm_ok [(atR S 4 0 0 i).2.1, (atR S 4 0 0 i).2.2.1, (atR S 4 0 0 i).2.2.2] (c, cB (S 393)) hb (by show c + 3 ≤ 100; omega)
    rw [← a4] at n1 n2 n3 n4
    have n3' : c1 ≤ c + 3 := n3
    have et : atsF S1 4 0 0 k (i + 1) = atsF S 4 0 0 k (i + 1) := atsF_of (a2 374 (by omega)) (a2 376 (by omega)) k (i + 1)
    have ec : coR S1 4 = coR S 4 := by unfold coR; rw [a2 374 (by omega)]
    have en : S1 381 3 ≤ S 381 3 + 1 := by
      have := congrArg (fun x : List Rw × Int × (Int → Int) => x.2.1) a6
      dsimp only at this
      split at this
      · have e : S1 381 3 = S 381 3 + 1 := this
        omega
      · have e : S1 381 3 = S 381 3 := this
        omega
    obtain ⟨S2, c2, m5, m6, m7, b1, b2, b3, b4, b5, b6, b7⟩ := ih (i + 1) c1 S1 (some (vI v5)) (some (vI 3)) (some (vI v7)) a1.2.2.1 a5 n1 (by omega) (by omega) (by rw [a2 376 (by omega)]; omega) (by rw [a2 374 (by omega)]; exact eh) (by rw [a2 374 (by omega)]; exact e3) (by rw [et, ec]; intro a hm; exact ha a (by rw [atsF]; exact List.mem_cons_of_mem _ hm)) (by omega)
    rw [et] at b4 b6
    -- the atom's own names stay
    have kp : ∀ p ∈ [(atR S 4 0 0 i).2.1, (atR S 4 0 0 i).2.2.1, (atR S 4 0 0 i).2.2.2], worthB (cB (S2 393)) p = worthB (cB (S1 393)) p := fun p hp => by
      unfold worthB
      split
      · rename_i z
        rw [b4]
        exact nm_keep _ (c1, cB (S1 393)) _ (n4 p hp z)
      · rfl
    have eg : grA (cB (S2 393)) (atR S 4 0 0 i) = grA (cB (S1 393)) (atR S 4 0 0 i) := by
      unfold grA
      rw [kp _ (by simp), kp _ (by simp), kp _ (by simp)]
    refine ⟨S2, c2, m5, m6, m7, a1.trans b1, fun a x => by rw [b2 a x, a2 a x], by rw [b3, a3], ?_, b5, ?_, fun u Q => ?_⟩
    · rw [b4, atsF, a4]
      have e : plcL (atR S 4 0 0 i :: atsF S 4 0 0 k (i + 1)) = [(atR S 4 0 0 i).2.1, (atR S 4 0 0 i).2.2.1, (atR S 4 0 0 i).2.2.2] ++ plcL (atsF S 4 0 0 k (i + 1)) := by unfold plcL; rw [List.flatMap_cons]
      rw [e, List.foldl_append]
    · rw [b6, atsF, List.map_cons, sadF, eg]
      have r1 : rsR S1 3 = _ := congrArg (fun x : List Rw × Int × (Int → Int) => x.1) a6
      have r2 : S1 381 3 = _ := congrArg (fun x : List Rw × Int × (Int → Int) => x.2.1) a6
      have r3 : naR S1 3 = _ := congrArg (fun x : List Rw × Int × (Int → Int) => x.2.2) a6
      rw [r1, r2, r3]
      by_cases hf : findL (rsR S 3) (grA (cB (S1 393)) (atR S 4 0 0 i)) = none
      · rw [if_pos hf, if_pos hf]
      · rw [if_neg hf, if_neg hf]
    · have b8 := b7 u Q
      rw [a2 376 (by omega)] at b8
      rw [a7 u Q l5 l6 l7]
      exact b8
/-- the told rule goes into the hall that was run -/
theorem l_cp30 {h x y : Int} {l6 l7 : Option V} {u : Bool × Nat × Nat × Int} {Q : Rs → HS → Prop} (hd : 2 ≤ d) : ∀ (k : Nat) (i : Int), 0 ≤ i → i + k = 30 → (Ex sc d 265 318 [some (vR 373), some (vI h), some (vI 1), some (vI x), some (vI y), some (vI i), l6, l7] [] (wH (scp σ 376 1200 376 900 i) u) Q ↔ Ex sc d 265 347 [some (vR 373), some (vI h), some (vI 1), some (vI x), some (vI y), some (vI 30), l6, l7] [] (wH (scp σ 376 1200 376 900 30) u) Q) := by
  intro k
  induction k with
  | zero =>
    intro i h0 h1
    obtain rfl : i = 30 := by omega
    rw [x265_318]
    simp (disch := first | omega | exact notL_I | exact notL_N | exact notL_R | exact oM | exact catS_le (Nat.le_of_ble_eq_true rfl) | exact Nat.le_of_ble_eq_true rfl | rfl) only [x265_0, x265_1, x265_2, x265_5, x265_8, x265_11, x265_12, x265_13, x265_14, x265_15, x265_16, x265_19, x265_20, x265_23, x265_24, x265_25, x265_28, x265_29, x265_32, x265_33, x265_34, x265_35, x265_36, x265_37, x265_40, x265_41, x265_42, x265_45, x265_46, x265_47, x265_48, x265_52, x265_54, x265_57, x265_58, x265_61, x265_63, x265_64, x265_65, x265_68, x265_71, x265_72, x265_76, x265_77, x265_78, x265_79, x265_80, x265_83, x265_86, x265_87, x265_88, x265_89, x265_90, x265_92, x265_93, x265_96, x265_98, x265_99, x265_103, x265_104, x265_107, x265_108, x265_109, x265_110, x265_111, x265_113, x265_114, x265_116, x265_117, x265_120, x265_122, x265_124, x265_125, x265_126, x265_128, x265_131, x265_134, x265_135, x265_138, x265_140, x265_141, x265_142, x265_145, x265_147, x265_150, x265_153, x265_154, x265_157, x265_159, x265_162, x265_163, x265_164, x265_165, x265_168, x265_169, x265_172, x265_174, x265_177, x265_178, x265_181, x265_182, x265_183, x265_184, x265_187, x265_188, x265_191, x265_193, x265_195, x265_198, x265_201, x265_202, x265_205, x265_207, x265_210, x265_211, x265_212, x265_215, x265_217, x265_218, x265_221, x265_224, x265_225, x265_226, x265_228, x265_229, x265_232, x265_233, x265_234, x265_235, x265_238, x265_239, x265_240, x265_241, x265_244, x265_245, x265_246, x265_249, x265_250, x265_253, x265_254, x265_255, x265_256, x265_258, x265_259, x265_262, x265_263, x265_264, x265_265, x265_268, x265_269, x265_270, x265_271, x265_274, x265_275, x265_276, x265_279, x265_282, x265_285, x265_289, x265_290, x265_292, x265_295, x265_297, x265_299, x265_300, x265_303, x265_305, x265_306, x265_309, x265_310, x265_313, x265_314, x265_315, x265_316, x265_320, x265_322, x265_325, x265_326, x265_327, x265_328, x265_330, x265_331, x265_332, x265_333, x265_335, x265_338, x265_341, x265_344, x265_348, x265_351, x265_352, x265_356, x265_358, x265_361, x265_362, x265_365, x265_367, x265_368, x265_371, x265_373, x265_374, x265_375, x265_378, x265_381, x265_382, x265_383, x265_384, x265_387, x265_390, x265_391, x265_394, x265_395, if_pos, if_neg, ↓reduceIte, not_true_eq_false, not_false_eq_true]
  | succ k ih =>
    intro i h0 h1
    have ru := fun u Q => s_rule (sc := sc) (σ := scp σ 376 1200 376 900 i) (u := u) (Q := Q) (d := d - 1) (h := 4) (r := 0) (f := i) (by omega) (by omega) (by omega) (by omega) (by omega) (by omega)
    have e1 : scp σ 376 1200 376 900 i 376 (30 * (10 * 4 + 0) + i) = σ 376 (1200 + i) := by rw [scp_at, if_neg (by omega)]; rfl
    rw [e1] at ru
    have sr := fun u Q => s_setRule (sc := sc) (σ := scp σ 376 1200 376 900 i) (u := u) (Q := Q) (d := d - 1) (h := 3) (r := 0) (f := i) (v := σ 376 (1200 + i)) (by omega) (by omega) (by omega) (by omega) (by omega) (by omega)
    rw [scp_su (σ := σ) (b := 376) (sp := 1200) (a := 376) (dp := 900) (n := i) h0 rfl (show (30 * (10 * 3 + 0) + i : Int) = 900 + i by omega)] at sr
    rw [x265_318]
    simp (disch := first | omega | exact notL_I | exact notL_N | exact notL_R | exact oM | exact catS_le (Nat.le_of_ble_eq_true rfl) | exact Nat.le_of_ble_eq_true rfl | rfl) only [x265_0, x265_1, x265_2, x265_5, x265_8, x265_11, x265_12, x265_13, x265_14, x265_15, x265_16, x265_19, x265_20, x265_23, x265_24, x265_25, x265_28, x265_29, x265_32, x265_33, x265_34, x265_35, x265_36, x265_37, x265_40, x265_41, x265_42, x265_45, x265_46, x265_47, x265_48, x265_52, x265_54, x265_57, x265_58, x265_61, x265_63, x265_64, x265_65, x265_68, x265_71, x265_72, x265_76, x265_77, x265_78, x265_79, x265_80, x265_83, x265_86, x265_87, x265_88, x265_89, x265_90, x265_92, x265_93, x265_96, x265_98, x265_99, x265_103, x265_104, x265_107, x265_108, x265_109, x265_110, x265_111, x265_113, x265_114, x265_116, x265_117, x265_120, x265_122, x265_124, x265_125, x265_126, x265_128, x265_131, x265_134, x265_135, x265_138, x265_140, x265_141, x265_142, x265_145, x265_147, x265_150, x265_153, x265_154, x265_157, x265_159, x265_162, x265_163, x265_164, x265_165, x265_168, x265_169, x265_172, x265_174, x265_177, x265_178, x265_181, x265_182, x265_183, x265_184, x265_187, x265_188, x265_191, x265_193, x265_195, x265_198, x265_201, x265_202, x265_205, x265_207, x265_210, x265_211, x265_212, x265_215, x265_217, x265_218, x265_221, x265_224, x265_225, x265_226, x265_228, x265_229, x265_232, x265_233, x265_234, x265_235, x265_238, x265_239, x265_240, x265_241, x265_244, x265_245, x265_246, x265_249, x265_250, x265_253, x265_254, x265_255, x265_256, x265_258, x265_259, x265_262, x265_263, x265_264, x265_265, x265_268, x265_269, x265_270, x265_271, x265_274, x265_275, x265_276, x265_279, x265_282, x265_285, x265_289, x265_290, x265_292, x265_295, x265_297, x265_299, x265_300, x265_303, x265_305, x265_306, x265_309, x265_310, x265_313, x265_314, x265_315, x265_316, x265_320, x265_322, x265_325, x265_326, x265_327, x265_328, x265_330, x265_331, x265_332, x265_333, x265_335, x265_338, x265_341, x265_344, x265_348, x265_351, x265_352, x265_356, x265_358, x265_361, x265_362, x265_365, x265_367, x265_368, x265_371, x265_373, x265_374, x265_375, x265_378, x265_381, x265_382, x265_383, x265_384, x265_387, x265_390, x265_391, x265_394, x265_395, ru, sr, Kc_some, Kc_none, if_pos, if_neg, ↓reduceIte, not_true_eq_false, not_false_eq_true]
    exact ih (i + 1) (by omega) (by omega)
theorem l_cp26 {h x y : Int} {l6 l7 : Option V} {u : Bool × Nat × Nat × Int} {Q : Rs → HS → Prop} : ∀ (k : Nat) (i : Int), 0 ≤ i → i + k = 26 → (Ex sc d 265 354 [some (vR 373), some (vI h), some (vI 1), some (vI x), some (vI y), some (vI i), l6, l7] [] (wH (scp σ 393 0 389 0 i) u) Q ↔ Ex sc d 265 381 [some (vR 373), some (vI h), some (vI 1), some (vI x), some (vI y), some (vI 26), l6, l7] [] (wH (scp σ 393 0 389 0 26) u) Q) := by
  intro k
  induction k with
  | zero =>
    intro i h0 h1
    obtain rfl : i = 26 := by omega
    rw [x265_354]
    simp (disch := first | omega | exact notL_I | exact notL_N | exact notL_R | exact oM | exact catS_le (Nat.le_of_ble_eq_true rfl) | exact Nat.le_of_ble_eq_true rfl | rfl) only [x265_0, x265_1, x265_2, x265_5, x265_8, x265_11, x265_12, x265_13, x265_14, x265_15, x265_16, x265_19, x265_20, x265_23, x265_24, x265_25, x265_28, x265_29, x265_32, x265_33, x265_34, x265_35, x265_36, x265_37, x265_40, x265_41, x265_42, x265_45, x265_46, x265_47, x265_48, x265_52, x265_54, x265_57, x265_58, x265_61, x265_63, x265_64, x265_65, x265_68, x265_71, x265_72, x265_76, x265_77, x265_78, x265_79, x265_80, x265_83, x265_86, x265_87, x265_88, x265_89, x265_90, x265_92, x265_93, x265_96, x265_98, x265_99, x265_103, x265_104, x265_107, x265_108, x265_109, x265_110, x265_111, x265_113, x265_114, x265_116, x265_117, x265_120, x265_122, x265_124, x265_125, x265_126, x265_128, x265_131, x265_134, x265_135, x265_138, x265_140, x265_141, x265_142, x265_145, x265_147, x265_150, x265_153, x265_154, x265_157, x265_159, x265_162, x265_163, x265_164, x265_165, x265_168, x265_169, x265_172, x265_174, x265_177, x265_178, x265_181, x265_182, x265_183, x265_184, x265_187, x265_188, x265_191, x265_193, x265_195, x265_198, x265_201, x265_202, x265_205, x265_207, x265_210, x265_211, x265_212, x265_215, x265_217, x265_218, x265_221, x265_224, x265_225, x265_226, x265_228, x265_229, x265_232, x265_233, x265_234, x265_235, x265_238, x265_239, x265_240, x265_241, x265_244, x265_245, x265_246, x265_249, x265_250, x265_253, x265_254, x265_255, x265_256, x265_258, x265_259, x265_262, x265_263, x265_264, x265_265, x265_268, x265_269, x265_270, x265_271, x265_274, x265_275, x265_276, x265_279, x265_282, x265_285, x265_289, x265_290, x265_292, x265_295, x265_297, x265_299, x265_300, x265_303, x265_305, x265_306, x265_309, x265_310, x265_313, x265_314, x265_315, x265_316, x265_320, x265_322, x265_325, x265_326, x265_327, x265_328, x265_330, x265_331, x265_332, x265_333, x265_335, x265_338, x265_341, x265_344, x265_348, x265_351, x265_352, x265_356, x265_358, x265_361, x265_362, x265_365, x265_367, x265_368, x265_371, x265_373, x265_374, x265_375, x265_378, x265_382, x265_383, x265_384, x265_387, x265_390, x265_391, x265_394, x265_395, if_pos, if_neg, ↓reduceIte, not_true_eq_false, not_false_eq_true]
  | succ k ih =>
    intro i h0 h1
    have e1 : scp σ 393 0 389 0 i 393 i = σ 393 (0 + i) := by rw [scp_ne (by omega), Int.zero_add]
    have e2 := scp_su (σ := σ) (b := 393) (sp := 0) (a := 389) (dp := 0) (n := i) (i := i) h0 rfl (by omega)
    rw [x265_354]
    simp (disch := first | omega | exact notL_I | exact notL_N | exact notL_R | exact oM | exact catS_le (Nat.le_of_ble_eq_true rfl) | exact Nat.le_of_ble_eq_true rfl | rfl) only [x265_0, x265_1, x265_2, x265_5, x265_8, x265_11, x265_12, x265_13, x265_14, x265_15, x265_16, x265_19, x265_20, x265_23, x265_24, x265_25, x265_28, x265_29, x265_32, x265_33, x265_34, x265_35, x265_36, x265_37, x265_40, x265_41, x265_42, x265_45, x265_46, x265_47, x265_48, x265_52, x265_54, x265_57, x265_58, x265_61, x265_63, x265_64, x265_65, x265_68, x265_71, x265_72, x265_76, x265_77, x265_78, x265_79, x265_80, x265_83, x265_86, x265_87, x265_88, x265_89, x265_90, x265_92, x265_93, x265_96, x265_98, x265_99, x265_103, x265_104, x265_107, x265_108, x265_109, x265_110, x265_111, x265_113, x265_114, x265_116, x265_117, x265_120, x265_122, x265_124, x265_125, x265_126, x265_128, x265_131, x265_134, x265_135, x265_138, x265_140, x265_141, x265_142, x265_145, x265_147, x265_150, x265_153, x265_154, x265_157, x265_159, x265_162, x265_163, x265_164, x265_165, x265_168, x265_169, x265_172, x265_174, x265_177, x265_178, x265_181, x265_182, x265_183, x265_184, x265_187, x265_188, x265_191, x265_193, x265_195, x265_198, x265_201, x265_202, x265_205, x265_207, x265_210, x265_211, x265_212, x265_215, x265_217, x265_218, x265_221, x265_224, x265_225, x265_226, x265_228, x265_229, x265_232, x265_233, x265_234, x265_235, x265_238, x265_239, x265_240, x265_241, x265_244, x265_245, x265_246, x265_249, x265_250, x265_253, x265_254, x265_255, x265_256, x265_258, x265_259, x265_262, x265_263, x265_264, x265_265, x265_268, x265_269, x265_270, x265_271, x265_274, x265_275, x265_276, x265_279, x265_282, x265_285, x265_289, x265_290, x265_292, x265_295, x265_297, x265_299, x265_300, x265_303, x265_305, x265_306, x265_309, x265_310, x265_313, x265_314, x265_315, x265_316, x265_320, x265_322, x265_325, x265_326, x265_327, x265_328, x265_330, x265_331, x265_332, x265_333, x265_335, x265_338, x265_341, x265_344, x265_348, x265_351, x265_352, x265_356, x265_358, x265_361, x265_362, x265_365, x265_367, x265_368, x265_371, x265_373, x265_374, x265_375, x265_378, x265_382, x265_383, x265_384, x265_387, x265_390, x265_391, x265_394, x265_395, gM_bound, gM_follow, RM_follow, WM_bound, e1, e2, if_pos, if_neg, ↓reduceIte, not_true_eq_false, not_false_eq_true]
    exact ih (i + 1) (by omega) (by omega)
/-- a rule copied -/
theorem ru_cp {τ : St} {g g' r r' : Int} (H : ∀ f, 0 ≤ f → f ≤ 29 → τ 376 (30 * (10 * g' + r') + f) = σ 376 (30 * (10 * g + r) + f)) (E : ∀ t, 0 ≤ t → t ≤ 25 → τ 374 (26 * g' + t) = σ 374 (26 * g + t)) (W : WfM σ) (h1 : 0 ≤ g) (h2 : g ≤ 4) (r1 : 0 ≤ r) (r2 : r ≤ 9) : ruR τ g' r' = ruR σ g r := by
  have w := W.rul h1 h2 r1 r2
  have e0 := H 0 (by omega) (by omega)
  rw [Int.add_zero, Int.add_zero] at e0
  have at_ : ∀ s i, 0 ≤ s → s ≤ 1 → 0 ≤ i → i ≤ 2 → atR τ g' r' s i = atR σ g r s i := fun s i s0 s1 i0 i2 => by
    have w := (W.ato h1 h2 r1 r2 s0 s1 i0 i2).1
    unfold atR
    rw [H _ (by omega) (by omega), H _ (by omega) (by omega), H _ (by omega) (by omega), H _ (by omega) (by omega), E _ w.1 w.2]
  have ats : ∀ s, 0 ≤ s → s ≤ 1 → ∀ (k : Nat) (i : Int), 0 ≤ i → i + k ≤ 3 → atsF τ g' r' s k i = atsF σ g r s k i := by
    intro s s0 s1 k
    induction k with
    | zero => intro i _ _; rfl
    | succ k ih =>
      intro i i0 ik
      rw [atsF, atsF, at_ s i s0 s1 i0 (by omega), ih (i + 1) (by omega) (by omega)]
  unfold ruR
  rw [e0, H 1 (by omega) (by omega), H 2 (by omega) (by omega), H 27 (by omega) (by omega), H 28 (by omega) (by omega), ats 0 (by omega) (by omega) _ _ (by omega) (by omega), ats 1 (by omega) (by omega) _ _ (by omega) (by omega)]
theorem flw_neg : ∀ (S : List (List Int)), (∀ l ∈ S, mlt l) → flwF S (-1) = -1 := by
  intro S
  induction S with
  | nil => intro _; rfl
  | cons l S ih =>
    intro h
    unfold flwF at *
    rw [List.foldl_cons]
    have := h l List.mem_cons_self
    unfold mlt at this
    have e : subT (l.getD 5 (-1)) (l.getD 6 (-1)) (-1) = -1 := by
      unfold subT
      split <;> omega
    rw [e]
    exact ih (fun k hk => h k (List.mem_cons_of_mem _ hk))
theorem Fpr.k3 {τ : St} (F : Fpr 4 0 σ τ) (W : WfM τ) : KpR 3 σ τ := by
  refine ⟨RsR.of (fun c a b => F.1 c a (by omega) (by omega)) (fun j hj => F.2.1 j (by omega) (by omega)), fun g g0 g2 _ => ?_, W, fun z => by rw [F.1 393 (by omega) (by omega) (by omega)]; exact z⟩
  exact ⟨⟨fun t a b => by rw [F.1 374 (by omega) (by omega) (by omega)], by rw [F.1 375 (by omega) (by omega) (by omega)], fun t a b => F.2.2 _ (by omega)⟩, ⟨fun t _ _ => ⟨by rw [F.1 377 (by omega) (by omega) (by omega)], by rw [F.1 378 (by omega) (by omega) (by omega)]⟩, fun t _ _ => by rw [F.1 379 (by omega) (by omega) (by omega)], by rw [F.1 381 (by omega) (by omega) (by omega)], fun t _ _ => by rw [F.1 385 (by omega) (by omega) (by omega)]⟩, ⟨fun t _ _ => by rw [F.1 380 (by omega) (by omega) (by omega)], by rw [F.1 382 (by omega) (by omega) (by omega)], by rw [F.1 383 (by omega) (by omega) (by omega)], fun t _ _ => by rw [F.1 384 (by omega) (by omega) (by omega)]⟩⟩
end F3
