/-! what follows: the reference puts the told rule's rows -/
section F2
variable {sc : Scr} {d : Nat}
theorem cB_su {S : St} {v x : Int} (v0 : 0 ≤ v) (v1 : v ≤ 25) : cB (su S 393 v x 393) = bup (cB (S 393)) v x := by
  funext w
  unfold cB bup
  by_cases e : w = v
  · rw [if_pos e, if_pos (by omega), e, su_eq]
  · rw [if_neg e, su_off e]
/-- one place of an atom -/
theorem l_in {h i t j : Int} {c : Nat} {S : St} {p m : Int} (hd : 3 ≤ d) (h0 : 0 ≤ h) (h2 : h ≤ 2) (i0 : 0 ≤ i) (i2 : i ≤ 2) (t0 : 0 ≤ t) (t1 : t ≤ 25) (j0 : 0 ≤ j) (j2 : j ≤ 2) (hc : c ≤ 90) (hm : S 374 (26 * h + t) = m) (m3 : m ≤ 3) (m0 : 0 ≤ m) (hp : S 376 (30 * (10 * 4 + 0) + (3 + 4 * (3 * 0 + i) + (1 + j))) = p) (pl : isPl p) (hg : gdB (S 393)) :
    ∃ (S' : St) (c' : Nat), (∀ a, a ≠ 387 → a ≠ 393 → S' a = S a) ∧ (∀ k, k ≠ j → S' 387 k = S 387 k) ∧ (S' 387 j = if j < m then worthB (cB (S' 393)) p else 0) ∧ ((c', cB (S' 393)) = if j < m then nm1 (c, cB (S 393)) p else (c, cB (S 393))) ∧ gdB (S' 393) ∧ ∀ (u : Bool × Nat × Nat × Int) (Q : Rs → HS → Prop) (l7 : Option V), Ex sc d 265 101 [some (vR 373), some (vI h), some (vI 1), some (vI ((c : Int))), some (vI i), some (vI t), some (vI j), l7] [] (wH S u) Q ↔ Ex sc d 265 101 [some (vR 373), some (vI h), some (vI 1), some (vI ((c' : Int))), some (vI i), some (vI t), some (vI (j + 1)), some (vI p)] [] (wH S' u) Q := by
  have pin := isPl_in pl
  have at_ := fun u Q => s_atom (sc := sc) (σ := S) (u := u) (Q := Q) (d := d - 1) (h := 4) (r := 0) (s := 0) (i := i) (f := 1 + j) (by omega) (by omega) (by omega) (by omega) (by omega) (by omega) (by omega)
  rw [hp] at at_
  have co := fun u Q => s_colsOf (sc := sc) (σ := S) (u := u) (Q := Q) (d := d - 1) (h := h) (t := t) h0 (by omega) t0 t1
  rw [hm] at co
  by_cases jm : j < m
  · rw [if_pos jm]
    by_cases p2 : 2000 ≤ p
    · have b1 := hg (p - 2000) (by omega) (by omega)
      by_cases e : S 393 (p - 2000) = -1
      · have eb : cB (S 393) (p - 2000) = -1 := by rw [cB_in (by omega) (by omega)]; exact e
        refine ⟨su (su S 393 (p - 2000) (1000 + c)) 387 j (1000 + c), c + 1, fun a x y => by rw [su_ne x, su_ne y], fun k hk => by rw [su_off hk, su_ne (by omega)], ?_, ?_, ?_, fun u Q l7 => ?_⟩
        · rw [if_pos jm, su_eq, su_ne (by omega), cB_su (by omega) (by omega)]
          unfold worthB bup
          rw [if_pos p2, if_pos rfl]
        · rw [su_ne (by omega), cB_su (by omega) (by omega)]
          unfold nm1
          dsimp only
          rw [if_pos ⟨p2, eb⟩]
        · intro v v0 v1
          rw [su_ne (by omega), su_at]
          split
          · omega
          · exact hg v v0 v1
        · rw [x265_101, show ((c + 1 : Nat) : Int) = (c : Int) + 1 by omega]
          simp (disch := first | omega | exact notL_I | exact notL_N | exact notL_R | exact oM | exact catS_le (Nat.le_of_ble_eq_true rfl) | exact Nat.le_of_ble_eq_true rfl | rfl) only [x265_0, x265_1, x265_2, x265_5, x265_8, x265_11, x265_12, x265_13, x265_14, x265_15, x265_16, x265_19, x265_20, x265_23, x265_24, x265_25, x265_28, x265_29, x265_32, x265_33, x265_34, x265_35, x265_36, x265_37, x265_40, x265_41, x265_42, x265_45, x265_46, x265_47, x265_48, x265_52, x265_54, x265_57, x265_58, x265_61, x265_63, x265_64, x265_65, x265_68, x265_71, x265_72, x265_76, x265_77, x265_78, x265_79, x265_80, x265_83, x265_86, x265_87, x265_88, x265_89, x265_90, x265_92, x265_93, x265_96, x265_98, x265_99, x265_103, x265_104, x265_107, x265_108, x265_109, x265_110, x265_111, x265_113, x265_114, x265_116, x265_117, x265_120, x265_122, x265_124, x265_125, x265_126, x265_128, x265_131, x265_134, x265_135, x265_138, x265_140, x265_141, x265_142, x265_145, x265_147, x265_150, x265_153, x265_154, x265_157, x265_159, x265_162, x265_163, x265_164, x265_165, x265_168, x265_169, x265_172, x265_174, x265_177, x265_178, x265_181, x265_182, x265_183, x265_184, x265_187, x265_188, x265_191, x265_193, x265_195, x265_198, x265_201, x265_202, x265_205, x265_207, x265_210, x265_211, x265_212, x265_215, x265_217, x265_218, x265_221, x265_224, x265_225, x265_226, x265_228, x265_229, x265_232, x265_233, x265_234, x265_235, x265_238, x265_239, x265_240, x265_241, x265_244, x265_245, x265_246, x265_249, x265_250, x265_253, x265_254, x265_255, x265_256, x265_258, x265_259, x265_262, x265_263, x265_264, x265_265, x265_268, x265_269, x265_270, x265_271, x265_274, x265_275, x265_276, x265_279, x265_282, x265_285, x265_289, x265_290, x265_292, x265_295, x265_297, x265_299, x265_300, x265_303, x265_305, x265_306, x265_309, x265_310, x265_313, x265_314, x265_315, x265_316, x265_320, x265_322, x265_325, x265_326, x265_327, x265_328, x265_330, x265_331, x265_332, x265_333, x265_335, x265_338, x265_341, x265_344, x265_347, x265_348, x265_351, x265_352, x265_356, x265_358, x265_361, x265_362, x265_365, x265_367, x265_368, x265_371, x265_373, x265_374, x265_375, x265_378, x265_381, x265_382, x265_383, x265_384, x265_387, x265_390, x265_391, x265_394, x265_395, at_, co, gM_follow, RM_follow, WM_follow, gM_list, WM_list, e, su_eq, Kc_some, if_pos, if_neg, ↓reduceIte, not_true_eq_false, not_false_eq_true]
      · have eb : cB (S 393) (p - 2000) ≠ -1 := by rw [cB_in (by omega) (by omega)]; exact e
        refine ⟨su S 387 j (S 393 (p - 2000)), c, fun a x y => su_ne x, fun k hk => su_off hk, ?_, ?_, by rw [su_ne (by omega)]; exact hg, fun u Q l7 => ?_⟩
        · rw [if_pos jm, su_eq, su_ne (by omega)]
          unfold worthB
          rw [if_pos p2, cB_in (by omega) (by omega)]
        · rw [su_ne (by omega)]
          unfold nm1
          dsimp only
          rw [if_neg (fun z => eb z.2)]
        · rw [x265_101]
          simp (disch := first | omega | exact notL_I | exact notL_N | exact notL_R | exact oM | exact catS_le (Nat.le_of_ble_eq_true rfl) | exact Nat.le_of_ble_eq_true rfl | rfl) only [x265_0, x265_1, x265_2, x265_5, x265_8, x265_11, x265_12, x265_13, x265_14, x265_15, x265_16, x265_19, x265_20, x265_23, x265_24, x265_25, x265_28, x265_29, x265_32, x265_33, x265_34, x265_35, x265_36, x265_37, x265_40, x265_41, x265_42, x265_45, x265_46, x265_47, x265_48, x265_52, x265_54, x265_57, x265_58, x265_61, x265_63, x265_64, x265_65, x265_68, x265_71, x265_72, x265_76, x265_77, x265_78, x265_79, x265_80, x265_83, x265_86, x265_87, x265_88, x265_89, x265_90, x265_92, x265_93, x265_96, x265_98, x265_99, x265_103, x265_104, x265_107, x265_108, x265_109, x265_110, x265_111, x265_113, x265_114, x265_116, x265_117, x265_120, x265_122, x265_124, x265_125, x265_126, x265_128, x265_131, x265_134, x265_135, x265_138, x265_140, x265_141, x265_142, x265_145, x265_147, x265_150, x265_153, x265_154, x265_157, x265_159, x265_162, x265_163, x265_164, x265_165, x265_168, x265_169, x265_172, x265_174, x265_177, x265_178, x265_181, x265_182, x265_183, x265_184, x265_187, x265_188, x265_191, x265_193, x265_195, x265_198, x265_201, x265_202, x265_205, x265_207, x265_210, x265_211, x265_212, x265_215, x265_217, x265_218, x265_221, x265_224, x265_225, x265_226, x265_228, x265_229, x265_232, x265_233, x265_234, x265_235, x265_238, x265_239, x265_240, x265_241, x265_244, x265_245, x265_246, x265_249, x265_250, x265_253, x265_254, x265_255, x265_256, x265_258, x265_259, x265_262, x265_263, x265_264, x265_265, x265_268, x265_269, x265_270, x265_271, x265_274, x265_275, x265_276, x265_279, x265_282, x265_285, x265_289, x265_290, x265_292, x265_295, x265_297, x265_299, x265_300, x265_303, x265_305, x265_306, x265_309, x265_310, x265_313, x265_314, x265_315, x265_316, x265_320, x265_322, x265_325, x265_326, x265_327, x265_328, x265_330, x265_331, x265_332, x265_333, x265_335, x265_338, x265_341, x265_344, x265_347, x265_348, x265_351, x265_352, x265_356, x265_358, x265_361, x265_362, x265_365, x265_367, x265_368, x265_371, x265_373, x265_374, x265_375, x265_378, x265_381, x265_382, x265_383, x265_384, x265_387, x265_390, x265_391, x265_394, x265_395, at_, co, gM_follow, RM_follow, WM_follow, gM_list, WM_list, Kc_some, if_pos, if_neg, ↓reduceIte, not_true_eq_false, not_false_eq_true]
    · refine ⟨su S 387 j p, c, fun a x y => su_ne x, fun k hk => su_off hk, ?_, ?_, by rw [su_ne (by omega)]; exact hg, fun u Q l7 => ?_⟩
      · rw [if_pos jm, su_eq]
        unfold worthB
        rw [if_neg p2]
      · rw [su_ne (by omega)]
        unfold nm1
        rw [if_neg (fun z => p2 z.1)]
      · rw [x265_101]
        simp (disch := first | omega | exact notL_I | exact notL_N | exact notL_R | exact oM | exact catS_le (Nat.le_of_ble_eq_true rfl) | exact Nat.le_of_ble_eq_true rfl | rfl) only [x265_0, x265_1, x265_2, x265_5, x265_8, x265_11, x265_12, x265_13, x265_14, x265_15, x265_16, x265_19, x265_20, x265_23, x265_24, x265_25, x265_28, x265_29, x265_32, x265_33, x265_34, x265_35, x265_36, x265_37, x265_40, x265_41, x265_42, x265_45, x265_46, x265_47, x265_48, x265_52, x265_54, x265_57, x265_58, x265_61, x265_63, x265_64, x265_65, x265_68, x265_71, x265_72, x265_76, x265_77, x265_78, x265_79, x265_80, x265_83, x265_86, x265_87, x265_88, x265_89, x265_90, x265_92, x265_93, x265_96, x265_98, x265_99, x265_103, x265_104, x265_107, x265_108, x265_109, x265_110, x265_111, x265_113, x265_114, x265_116, x265_117, x265_120, x265_122, x265_124, x265_125, x265_126, x265_128, x265_131, x265_134, x265_135, x265_138, x265_140, x265_141, x265_142, x265_145, x265_147, x265_150, x265_153, x265_154, x265_157, x265_159, x265_162, x265_163, x265_164, x265_165, x265_168, x265_169, x265_172, x265_174, x265_177, x265_178, x265_181, x265_182, x265_183, x265_184, x265_187, x265_188, x265_191, x265_193, x265_195, x265_198, x265_201, x265_202, x265_205, x265_207, x265_210, x265_211, x265_212, x265_215, x265_217, x265_218, x265_221, x265_224, x265_225, x265_226, x265_228, x265_229, x265_232, x265_233, x265_234, x265_235, x265_238, x265_239, x265_240, x265_241, x265_244, x265_245, x265_246, x265_249, x265_250, x265_253, x265_254, x265_255, x265_256, x265_258, x265_259, x265_262, x265_263, x265_264, x265_265, x265_268, x265_269, x265_270, x265_271, x265_274, x265_275, x265_276, x265_279, x265_282, x265_285, x265_289, x265_290, x265_292, x265_295, x265_297, x265_299, x265_300, x265_303, x265_305, x265_306, x265_309, x265_310, x265_313, x265_314, x265_315, x265_316, x265_320, x265_322, x265_325, x265_326, x265_327, x265_328, x265_330, x265_331, x265_332, x265_333, x265_335, x265_338, x265_341, x265_344, x265_347, x265_348, x265_351, x265_352, x265_356, x265_358, x265_361, x265_362, x265_365, x265_367, x265_368, x265_371, x265_373, x265_374, x265_375, x265_378, x265_381, x265_382, x265_383, x265_384, x265_387, x265_390, x265_391, x265_394, x265_395, at_, co, gM_follow, RM_follow, WM_follow, gM_list, WM_list, Kc_some, if_pos, if_neg, ↓reduceIte, not_true_eq_false, not_false_eq_true]
  · rw [if_neg jm]
    refine ⟨su S 387 j 0, c, fun a x y => su_ne x, fun k hk => su_off hk, by rw [if_neg jm, su_eq], by rw [su_ne (by omega)], by rw [su_ne (by omega)]; exact hg, fun u Q l7 => ?_⟩
    rw [x265_101]
    simp (disch := first | omega | exact notL_I | exact notL_N | exact notL_R | exact oM | exact catS_le (Nat.le_of_ble_eq_true rfl) | exact Nat.le_of_ble_eq_true rfl | rfl) only [x265_0, x265_1, x265_2, x265_5, x265_8, x265_11, x265_12, x265_13, x265_14, x265_15, x265_16, x265_19, x265_20, x265_23, x265_24, x265_25, x265_28, x265_29, x265_32, x265_33, x265_34, x265_35, x265_36, x265_37, x265_40, x265_41, x265_42, x265_45, x265_46, x265_47, x265_48, x265_52, x265_54, x265_57, x265_58, x265_61, x265_63, x265_64, x265_65, x265_68, x265_71, x265_72, x265_76, x265_77, x265_78, x265_79, x265_80, x265_83, x265_86, x265_87, x265_88, x265_89, x265_90, x265_92, x265_93, x265_96, x265_98, x265_99, x265_103, x265_104, x265_107, x265_108, x265_109, x265_110, x265_111, x265_113, x265_114, x265_116, x265_117, x265_120, x265_122, x265_124, x265_125, x265_126, x265_128, x265_131, x265_134, x265_135, x265_138, x265_140, x265_141, x265_142, x265_145, x265_147, x265_150, x265_153, x265_154, x265_157, x265_159, x265_162, x265_163, x265_164, x265_165, x265_168, x265_169, x265_172, x265_174, x265_177, x265_178, x265_181, x265_182, x265_183, x265_184, x265_187, x265_188, x265_191, x265_193, x265_195, x265_198, x265_201, x265_202, x265_205, x265_207, x265_210, x265_211, x265_212, x265_215, x265_217, x265_218, x265_221, x265_224, x265_225, x265_226, x265_228, x265_229, x265_232, x265_233, x265_234, x265_235, x265_238, x265_239, x265_240, x265_241, x265_244, x265_245, x265_246, x265_249, x265_250, x265_253, x265_254, x265_255, x265_256, x265_258, x265_259, x265_262, x265_263, x265_264, x265_265, x265_268, x265_269, x265_270, x265_271, x265_274, x265_275, x265_276, x265_279, x265_282, x265_285, x265_289, x265_290, x265_292, x265_295, x265_297, x265_299, x265_300, x265_303, x265_305, x265_306, x265_309, x265_310, x265_313, x265_314, x265_315, x265_316, x265_320, x265_322, x265_325, x265_326, x265_327, x265_328, x265_330, x265_331, x265_332, x265_333, x265_335, x265_338, x265_341, x265_344, x265_347, x265_348, x265_351, x265_352, x265_356, x265_358, x265_361, x265_362, x265_365, x265_367, x265_368, x265_371, x265_373, x265_374, x265_375, x265_378, x265_381, x265_382, x265_383, x265_384, x265_387, x265_390, x265_391, x265_394, x265_395, at_, co, gM_list, WM_list, Kc_some, if_pos, if_neg, ↓reduceIte, not_true_eq_false, not_false_eq_true]
theorem VR.k3 {A : AS} {σ τ : St} (V : VR A σ) (K : KpR 3 σ τ) : VR A τ := V.kp ⟨K.1, fun g g0 g1 _ => K.2.1 g g0 g1 (by omega), K.2.2.1, K.2.2.2⟩ ((K.2.1 0 (by omega) (by omega) (by omega)).hl V.2.1.1 (by omega) (by omega))
theorem nm1_w {s : Nat × Bd} {p q : Int} (h : 2000 ≤ q → s.2 (q - 2000) ≠ -1) : worthB (nm1 s p).2 q = worthB s.2 q := by
  unfold worthB
  split
  · rename_i z
    exact nm1_keep (h z)
  · rfl
/-- one atom -/
theorem l_fatm {h i : Int} {c : Nat} {S : St} (hd : 4 ≤ d) (h0 : 0 ≤ h) (h2 : h ≤ 2) (W : WfM S) (hg : gdB (S 393)) (hb : okB (cB (S 393))) (hc : c ≤ 80) (i0 : 0 ≤ i) (i1 : i < S 376 (30 * (10 * 4 + 0))) (eh : ∀ t, 0 ≤ t → t ≤ 25 → S 374 (26 * h + t) = S 374 (26 * 4 + t)) (e3 : ∀ t, 0 ≤ t → t ≤ 25 → S 374 (26 * 3 + t) = S 374 (26 * 4 + t)) (ha : okA (coR S 4) (atR S 4 0 0 i)) (hn : S 381 3 ≤ 199) :
    ∃ (S' : St) (c' : Nat) (v5 v7 : Int), KpR 3 S S' ∧ (∀ a, a = 374 ∨ a = 375 ∨ a = 376 → S' a = S a) ∧ S' 373 0 = S 373 0 ∧ (c', cB (S' 393)) = [(atR S 4 0 0 i).2.1, (atR S 4 0 0 i).2.2.1, (atR S 4 0 0 i).2.2.2].foldl nm1 (c, cB (S 393)) ∧ gdB (S' 393) ∧
      (rsR S' 3, S' 381 3, naR S' 3) = (if findL (rsR S 3) (grA (cB (S' 393)) (atR S 4 0 0 i)) = none then (rsR S 3 ++ [(S 381 3, grA (cB (S' 393)) (atR S 4 0 0 i))], S 381 3 + 1, mkU (naR S 3) (grA (cB (S' 393)) (atR S 4 0 0 i))) else (rsR S 3, S 381 3, naR S 3)) ∧
      ∀ (u : Bool × Nat × Nat × Int) (Q : Rs → HS → Prop) (l5 l6 l7 : Option V), Ex sc d 265 74 [some (vR 373), some (vI h), some (vI 1), some (vI ((c : Int))), some (vI i), l5, l6, l7] [] (wH S u) Q ↔ Ex sc d 265 74 [some (vR 373), some (vI h), some (vI 1), some (vI ((c' : Int))), some (vI (i + 1)), some (vI v5), some (vI 3), some (vI v7)] [] (wH S' u) Q := by
  have wr := W.rul (h := 4) (r := 0) (by omega) (by omega) (by omega) (by omega)
  obtain ⟨⟨t0, t1⟩, pX, pY, pZ⟩ := W.ato (h := 4) (r := 0) (s := 0) (i := i) (by omega) (by omega) (by omega) (by omega) (by omega) (by omega) i0 (by omega)
  have ta := fun u Q => s_atom (sc := sc) (σ := S) (u := u) (Q := Q) (d := d - 1) (h := 4) (r := 0) (s := 0) (i := i) (f := 0) (by omega) (by omega) (by omega) (by omega) (by omega) (by omega) (by omega)
  rw [show 30 * (10 * 4 + 0) + (3 + 4 * (3 * 0 + i) + 0) = 30 * (10 * 4 + 0) + (3 + 4 * (3 * 0 + i)) by omega] at ta
  have ru := fun u Q => s_rule (sc := sc) (σ := S) (u := u) (Q := Q) (d := d - 1) (h := 4) (r := 0) (f := 0) (by omega) (by omega) (by omega) (by omega) (by omega) (by omega)
  rw [show (30 * (10 * 4 + 0) + 0 : Int) = 30 * (10 * 4 + 0) by omega] at ru
  have hm := ha.2.2.1
  have ea : atR S 4 0 0 i = (S 376 (30 * (10 * 4 + 0) + (3 + 4 * (3 * 0 + i))), nrm (S 374 (26 * 4 + S 376 (30 * (10 * 4 + 0) + (3 + 4 * (3 * 0 + i))))) (S 376 (30 * (10 * 4 + 0) + (3 + 4 * (3 * 0 + i) + (1 + 0)))) (S 376 (30 * (10 * 4 + 0) + (3 + 4 * (3 * 0 + i) + (1 + 1)))) (S 376 (30 * (10 * 4 + 0) + (3 + 4 * (3 * 0 + i) + (1 + 2))))) := rfl
  have pX' : isPl (S 376 (30 * (10 * 4 + 0) + (3 + 4 * (3 * 0 + i) + (1 + 0)))) := pX
  have pY' : isPl (S 376 (30 * (10 * 4 + 0) + (3 + 4 * (3 * 0 + i) + (1 + 1)))) := pY
  have pZ' : isPl (S 376 (30 * (10 * 4 + 0) + (3 + 4 * (3 * 0 + i) + (1 + 2)))) := pZ
  rw [ea] at hm ⊢
  dsimp only at hm ⊢
  rw [coR_in t0 t1] at hm
  have mh := eh _ t0 t1
  have m3' := e3 _ t0 t1
  have mr := W.col (h := 4) (by omega) (by omega) t0 t1
  generalize ht : S 376 (30 * (10 * 4 + 0) + (3 + 4 * (3 * 0 + i))) = t at *
  generalize hX : S 376 (30 * (10 * 4 + 0) + (3 + 4 * (3 * 0 + i) + (1 + 0))) = X at *
  generalize hY : S 376 (30 * (10 * 4 + 0) + (3 + 4 * (3 * 0 + i) + (1 + 1))) = Y at *
  generalize hZ : S 376 (30 * (10 * 4 + 0) + (3 + 4 * (3 * 0 + i) + (1 + 2))) = Z at *
  generalize hM : S 374 (26 * 4 + t) = m at *
  -- three places
  obtain ⟨S1, c1, a1, a2, a3, a4, a5, a6⟩ := l_in (sc := sc) (d := d) (h := h) (i := i) (t := t) (j := 0) (c := c) (S := S) (p := X) (m := m) (by omega) h0 h2 i0 (by omega) t0 t1 (by omega) (by omega) (by omega) mh (by omega) (by omega) hX pX' hg
  rw [if_pos (by omega)] at a3 a4
  obtain ⟨k1, k2, k3, k4⟩ := nm1_ok (s := (c, cB (S 393))) (p := X) hb (by dsimp only; omega)
  rw [← a4] at k1 k2 k3 k4
  dsimp only at k1 k2 k3 k4
  have f1 : ∀ a, a ≠ 387 → a ≠ 393 → S1 a = S a := a1
  obtain ⟨S2, c2, b1, b2, b3, b4, b5, b6⟩ := l_in (sc := sc) (d := d) (h := h) (i := i) (t := t) (j := 1) (c := c1) (S := S1) (p := Y) (m := m) (by omega) h0 h2 i0 (by omega) t0 t1 (by omega) (by omega) (by omega) (by rw [f1 374 (by omega) (by omega)]; exact mh) (by omega) (by omega) (by rw [f1 376 (by omega) (by omega)]; exact hY) pY' a5
  have kk : okB (cB (S2 393)) ∧ c1 ≤ c2 ∧ c2 ≤ c1 + 1 ∧ (1 < m → 2000 ≤ Y → cB (S2 393) (Y - 2000) ≠ -1) ∧ (c2, cB (S2 393)) = nm1 (c1, cB (S1 393)) (if 2 ≤ m then Y else -1) := by
    by_cases j : 1 < m
    · rw [if_pos j] at b4
      obtain ⟨x1, x2, x3, x4⟩ := nm1_ok (s := (c1, cB (S1 393))) (p := Y) k1 (by dsimp only; omega)
      rw [← b4] at x1 x2 x3 x4
      exact ⟨x1, x2, x3, fun _ => x4, by rw [if_pos (by omega)]; exact b4⟩
    · rw [if_neg j] at b4
      have e1 : c2 = c1 := congrArg Prod.fst b4
      have e2 : cB (S2 393) = cB (S1 393) := congrArg Prod.snd b4
      refine ⟨by rw [e2]; exact k1, by omega, by omega, fun z => absurd z j, ?_⟩
      rw [if_neg (by omega), b4]
      unfold nm1
      rw [if_neg (fun z => absurd z.1 (by decide))]
  obtain ⟨l1, l2, l3, l4, l5⟩ := kk
  have f2 : ∀ a, a ≠ 387 → a ≠ 393 → S2 a = S a := fun a x y => by rw [b1 a x y, f1 a x y]
  obtain ⟨S3, c3, d1, d2, d3, d4, d5, d6⟩ := l_in (sc := sc) (d := d) (h := h) (i := i) (t := t) (j := 2) (c := c2) (S := S2) (p := Z) (m := m) (by omega) h0 h2 i0 (by omega) t0 t1 (by omega) (by omega) (by omega) (by rw [f2 374 (by omega) (by omega)]; exact mh) (by omega) (by omega) (by rw [f2 376 (by omega) (by omega)]; exact hZ) pZ' b5
  have kk : okB (cB (S3 393)) ∧ c2 ≤ c3 ∧ c3 ≤ c2 + 1 ∧ (2 < m → 2000 ≤ Z → cB (S3 393) (Z - 2000) ≠ -1) ∧ (c3, cB (S3 393)) = nm1 (c2, cB (S2 393)) (if 3 ≤ m then Z else -1) := by
    by_cases j : 2 < m
    · rw [if_pos j] at d4
      obtain ⟨x1, x2, x3, x4⟩ := nm1_ok (s := (c2, cB (S2 393))) (p := Z) l1 (by dsimp only; omega)
      rw [← d4] at x1 x2 x3 x4
      exact ⟨x1, x2, x3, fun _ => x4, by rw [if_pos (by omega)]; exact d4⟩
    · rw [if_neg j] at d4
      have e1 : c3 = c2 := congrArg Prod.fst d4
      have e2 : cB (S3 393) = cB (S2 393) := congrArg Prod.snd d4
      refine ⟨by rw [e2]; exact l1, by omega, by omega, fun z => absurd z j, ?_⟩
      rw [if_neg (by omega), d4]
      unfold nm1
      rw [if_neg (fun z => absurd z.1 (by decide))]
  obtain ⟨n1, n2, n3, n4, n5⟩ := kk
  have f3 : ∀ a, a ≠ 387 → a ≠ 393 → S3 a = S a := fun a x y => by rw [d1 a x y, f2 a x y]
  -- what stands in the list
  have w2 : worthB (cB (S2 393)) X = worthB (cB (S1 393)) X := by
    have := nm1_w (s := (c1, cB (S1 393))) (p := if 2 ≤ m then Y else -1) (q := X) k4
    rw [← l5] at this
    exact this
  have k4' : 2000 ≤ X → cB (S2 393) (X - 2000) ≠ -1 := fun z => by
    have := nm1_keep (s := (c1, cB (S1 393))) (p := if 2 ≤ m then Y else -1) (v := X - 2000) (k4 z)
    rw [← l5] at this
    rw [show cB (S2 393) (X - 2000) = cB (S1 393) (X - 2000) from this]
    exact k4 z
  have w3 : worthB (cB (S3 393)) X = worthB (cB (S1 393)) X := by
    have := nm1_w (s := (c2, cB (S2 393))) (p := if 3 ≤ m then Z else -1) (q := X) k4'
    rw [← n5] at this
    exact Eq.trans this w2
  have w4 : 1 < m → worthB (cB (S3 393)) Y = worthB (cB (S2 393)) Y := fun j => by
    have := nm1_w (s := (c2, cB (S2 393))) (p := if 3 ≤ m then Z else -1) (q := Y) (l4 j)
    rw [← n5] at this
    exact this
  have x0 : S3 387 0 = worthB (cB (S3 393)) X := by rw [d2 0 (by omega), b2 0 (by omega), a3, w3]
  have x1 : S3 387 1 = if 1 < m then worthB (cB (S3 393)) Y else 0 := by
    rw [d2 1 (by omega), b3]
    by_cases j : 1 < m
    · rw [if_pos j, if_pos j, w4 j]
    · rw [if_neg j, if_neg j]
  have x2 : S3 387 2 = if 2 < m then worthB (cB (S3 393)) Z else 0 := d3
  have tX : isTm (S3 387 0) := by
    rw [x0, w3]
    exact worth_ok k1 pX' k4
  have z0 : isTm 0 := Or.inl ⟨by decide, by decide⟩
  have tY : isTm (S3 387 1) := by
    rw [x1]
    by_cases j : 1 < m
    · rw [if_pos j, w4 j]; exact worth_ok l1 pY' (l4 j)
    · rw [if_neg j]; exact z0
  have tZ : isTm (S3 387 2) := by
    rw [x2]
    by_cases j : 2 < m
    · rw [if_pos j]; exact worth_ok n1 pZ' (n4 j)
    · rw [if_neg j]; exact z0
  have neg : worthB (cB (S3 393)) (-1) = -1 := by unfold worthB; rw [if_neg (by decide)]
  have eg : grA (cB (S3 393)) (t, nrm m X Y Z) = (t, nrm m (S3 387 0) (S3 387 1) (S3 387 2)) := by
    rw [x0, x1, x2]
    unfold grA nrm
    dsimp only
    by_cases j2 : 2 ≤ m
    · by_cases j3 : 3 ≤ m
      · rw [if_pos j2, if_pos j3, if_pos j2, if_pos j3, if_pos (by omega), if_pos (by omega)]
      · rw [if_pos j2, if_neg j3, if_pos j2, if_neg j3, if_pos (by omega), neg]
    · rw [if_neg j2, if_neg (c := 3 ≤ m) (by omega), if_neg j2, if_neg (c := 3 ≤ m) (by omega), neg]
  have D3 : Dt S S3 := ⟨fun a x y => f3 a (by omega) (by omega), by rw [f3 373 (by omega) (by omega)]⟩
  have W3 := D3.wf W
  have K3 : KpR 3 S S3 := ⟨RsR.of (fun a x y => f3 a (by omega) (by omega)) (fun j _ => by rw [f3 373 (by omega) (by omega)]), fun g _ _ _ => HQ.of (fun a x y => f3 a (by omega) (by omega)), W3, fun _ => d5⟩
  have er : rsR S3 3 = rsR S 3 := rsR_cc (fun a x => f3 a (by omega) (by omega))
  have en : naR S3 3 = naR S 3 := by unfold naR; rw [f3 385 (by omega) (by omega)]
  have ex : S3 381 3 = S 381 3 := by rw [f3 381 (by omega) (by omega)]
  have v0 := isTm_in tX
  have v1 := isTm_in tY
  have v2 := isTm_in tZ
  have fr := fun u Q => s_find (sc := sc) (σ := S3) (u := u) (Q := Q) (d := d - 1) (h := 3) (t := t) (x := S3 387 0) (y := S3 387 1) (z := S3 387 2) W3 (by omega) (by omega) (by omega) t0 t1 ⟨by omega, by omega⟩ ⟨by omega, by omega⟩ ⟨by omega, by omega⟩
  rw [f3 374 (by omega) (by omega), m3', ← eg, er] at fr
  have st : (c3, cB (S3 393)) = [(nrm m X Y Z).1, (nrm m X Y Z).2.1, (nrm m X Y Z).2.2].foldl nm1 (c, cB (S 393)) := by
    rw [List.foldl_cons, List.foldl_cons, List.foldl_cons, List.foldl_nil, n5, l5, a4]
    rfl
  have run : ∀ (u : Bool × Nat × Nat × Int) (Q : Rs → HS → Prop) (l5 l6 l7 : Option V), Ex sc d 265 74 [some (vR 373), some (vI h), some (vI 1), some (vI ((c : Int))), some (vI i), l5, l6, l7] [] (wH S u) Q ↔ Ex sc d 265 101 [some (vR 373), some (vI h), some (vI 1), some (vI ((c3 : Int))), some (vI i), some (vI t), some (vI (2 + 1)), some (vI Z)] [] (wH S3 u) Q := by
    intro u Q l5 l6 l7
    refine Iff.trans ?_ ((a6 u Q l7).trans ((b6 u Q (some (vI X))).trans (d6 u Q (some (vI Y)))))
    rw [x265_74]
    simp (disch := first | omega | exact notL_I | exact notL_N | exact notL_R | exact oM | exact catS_le (Nat.le_of_ble_eq_true rfl) | exact Nat.le_of_ble_eq_true rfl | rfl) only [x265_0, x265_1, x265_2, x265_5, x265_8, x265_11, x265_12, x265_13, x265_14, x265_15, x265_16, x265_19, x265_20, x265_23, x265_24, x265_25, x265_28, x265_29, x265_32, x265_33, x265_34, x265_35, x265_36, x265_37, x265_40, x265_41, x265_42, x265_45, x265_46, x265_47, x265_48, x265_52, x265_54, x265_57, x265_58, x265_61, x265_63, x265_64, x265_65, x265_68, x265_71, x265_72, x265_76, x265_77, x265_78, x265_79, x265_80, x265_83, x265_86, x265_87, x265_88, x265_89, x265_90, x265_92, x265_93, x265_96, x265_98, x265_99, x265_103, x265_104, x265_107, x265_108, x265_109, x265_110, x265_111, x265_113, x265_114, x265_116, x265_117, x265_120, x265_122, x265_124, x265_125, x265_126, x265_128, x265_131, x265_134, x265_135, x265_138, x265_140, x265_141, x265_142, x265_145, x265_147, x265_150, x265_153, x265_154, x265_157, x265_159, x265_162, x265_163, x265_164, x265_165, x265_168, x265_169, x265_172, x265_174, x265_177, x265_178, x265_181, x265_182, x265_183, x265_184, x265_187, x265_188, x265_191, x265_193, x265_195, x265_198, x265_201, x265_202, x265_205, x265_207, x265_210, x265_211, x265_212, x265_215, x265_217, x265_218, x265_221, x265_224, x265_225, x265_226, x265_228, x265_229, x265_232, x265_233, x265_234, x265_235, x265_238, x265_239, x265_240, x265_241, x265_244, x265_245, x265_246, x265_249, x265_250, x265_253, x265_254, x265_255, x265_256, x265_258, x265_259, x265_262, x265_263, x265_264, x265_265, x265_268, x265_269, x265_270, x265_271, x265_274, x265_275, x265_276, x265_279, x265_282, x265_285, x265_289, x265_290, x265_292, x265_295, x265_297, x265_299, x265_300, x265_303, x265_305, x265_306, x265_309, x265_310, x265_313, x265_314, x265_315, x265_316, x265_320, x265_322, x265_325, x265_326, x265_327, x265_328, x265_330, x265_331, x265_332, x265_333, x265_335, x265_338, x265_341, x265_344, x265_347, x265_348, x265_351, x265_352, x265_356, x265_358, x265_361, x265_362, x265_365, x265_367, x265_368, x265_371, x265_373, x265_374, x265_375, x265_378, x265_381, x265_382, x265_383, x265_384, x265_387, x265_390, x265_391, x265_394, x265_395, ru, ta, Kc_some, if_pos, if_neg, ↓reduceIte, not_true_eq_false, not_false_eq_true]
  cases hf : findL (rsR S 3) (grA (cB (S3 393)) (t, nrm m X Y Z)) with
  | some w =>
    rw [hf] at fr
    have hw := rsR_num W (show (0 : Int) ≤ 3 by omega) (show (3 : Int) ≤ 4 by omega) (find_some hf).1
    have hv : numO (some w) = w.1 := rfl
    refine ⟨S3, c3, t, Z, K3, fun a x => f3 a (by omega) (by omega), by rw [f3 373 (by omega) (by omega)], st, d5, by rw [hf, if_neg (by simp), er, ex, en], fun u Q l5 l6 l7 => ?_⟩
    rw [run u Q l5 l6 l7, x265_101]
    simp (disch := first | omega | exact notL_I | exact notL_N | exact notL_R | exact oM | exact catS_le (Nat.le_of_ble_eq_true rfl) | exact Nat.le_of_ble_eq_true rfl | rfl) only [x265_0, x265_1, x265_2, x265_5, x265_8, x265_11, x265_12, x265_13, x265_14, x265_15, x265_16, x265_19, x265_20, x265_23, x265_24, x265_25, x265_28, x265_29, x265_32, x265_33, x265_34, x265_35, x265_36, x265_37, x265_40, x265_41, x265_42, x265_45, x265_46, x265_47, x265_48, x265_52, x265_54, x265_57, x265_58, x265_61, x265_63, x265_64, x265_65, x265_68, x265_71, x265_72, x265_76, x265_77, x265_78, x265_79, x265_80, x265_83, x265_86, x265_87, x265_88, x265_89, x265_90, x265_92, x265_93, x265_96, x265_98, x265_99, x265_103, x265_104, x265_107, x265_108, x265_109, x265_110, x265_111, x265_113, x265_114, x265_116, x265_117, x265_120, x265_122, x265_124, x265_125, x265_126, x265_128, x265_131, x265_134, x265_135, x265_138, x265_140, x265_141, x265_142, x265_145, x265_147, x265_150, x265_153, x265_154, x265_157, x265_159, x265_162, x265_163, x265_164, x265_165, x265_168, x265_169, x265_172, x265_174, x265_177, x265_178, x265_181, x265_182, x265_183, x265_184, x265_187, x265_188, x265_191, x265_193, x265_195, x265_198, x265_201, x265_202, x265_205, x265_207, x265_210, x265_211, x265_212, x265_215, x265_217, x265_218, x265_221, x265_224, x265_225, x265_226, x265_228, x265_229, x265_232, x265_233, x265_234, x265_235, x265_238, x265_239, x265_240, x265_241, x265_244, x265_245, x265_246, x265_249, x265_250, x265_253, x265_254, x265_255, x265_256, x265_258, x265_259, x265_262, x265_263, x265_264, x265_265, x265_268, x265_269, x265_270, x265_271, x265_274, x265_275, x265_276, x265_279, x265_282, x265_285, x265_289, x265_290, x265_292, x265_295, x265_297, x265_299, x265_300, x265_303, x265_305, x265_306, x265_309, x265_310, x265_313, x265_314, x265_315, x265_316, x265_320, x265_322, x265_325, x265_326, x265_327, x265_328, x265_330, x265_331, x265_332, x265_333, x265_335, x265_338, x265_341, x265_344, x265_347, x265_348, x265_351, x265_352, x265_356, x265_358, x265_361, x265_362, x265_365, x265_367, x265_368, x265_371, x265_373, x265_374, x265_375, x265_378, x265_381, x265_382, x265_383, x265_384, x265_387, x265_390, x265_391, x265_394, x265_395, gM_list, RM_list, fr, hv, Kc_some, if_pos, if_neg, ↓reduceIte, not_true_eq_false, not_false_eq_true]
    exact Iff.rfl
  | none =>
    rw [hf] at fr
    have hv : numO none = -1 := rfl
    obtain ⟨τ1, AD, ra⟩ := s_addR (sc := sc) (d := d - 1) (σ := S3) (h := 3) (t := t) (x := S3 387 0) (y := S3 387 1) (z := S3 387 2) (by omega) W3 (by omega) (by omega) (by rw [ex]; exact hn) t0 t1 (by rw [f3 374 (by omega) (by omega), m3']; exact hm) tX tY tZ
    unfold RnA at ra
    have rn := AD.rn W3 (by omega) (by omega) (by rw [ex]; exact hn) t0 t1 tX tY tZ
    rw [f3 374 (by omega) (by omega), m3', ← eg, er, ex, en] at rn
    have AW := AD.wf W3 (by omega) (by omega) (by rw [ex]; exact hn) t0 t1 tX tY tZ
    have KA : KpR 3 S3 τ1 := ⟨AD.rest, fun g _ _ hg => AD.q W3 (by omega) (by omega) (by rw [ex]; exact hn) tX tY tZ hg, AW, fun z => by rw [AD.1 393 (by omega) (by omega) (by omega) (by omega) (by omega) (by omega)]; exact z⟩
    have DL : Dt τ1 (su τ1 373 23 (S3 381 3)) := Dt.dsu3 (by omega)
    have KL : KpR 3 τ1 (su τ1 373 23 (S3 381 3)) := ⟨RsR.su3 (by decide), fun g _ _ _ => HQ.of (fun a x y => su_ne (by omega)), DL.wf AW, fun z => by rw [su_ne (by omega)]; exact z⟩
    have ne : ∀ a, a ≠ 373 → su τ1 373 23 (S3 381 3) a = τ1 a := fun a x => su_ne x
    have rL : rnR (su τ1 373 23 (S3 381 3)) 3 = rnR τ1 3 := DL.rn
    have w := W.nxt (h := 3) (by omega) (by omega)
    refine ⟨su τ1 373 23 (S3 381 3), c3, t, Z, (K3.trans KA).trans KL, fun a x => by rw [ne a (by omega), AD.1 a (by omega) (by omega) (by omega) (by omega) (by omega) (by omega), f3 a (by omega) (by omega)], by rw [su_off (by omega), AD.1 373 (by omega) (by omega) (by omega) (by omega) (by omega) (by omega), f3 373 (by omega) (by omega)], ?_, ?_, ?_, fun u Q l5 l6 l7 => ?_⟩
    · rw [ne 393 (by omega), AD.1 393 (by omega) (by omega) (by omega) (by omega) (by omega) (by omega)]; exact st
    · rw [ne 393 (by omega), AD.1 393 (by omega) (by omega) (by omega) (by omega) (by omega) (by omega)]; exact d5
    · rw [ne 393 (by omega), AD.1 393 (by omega) (by omega) (by omega) (by omega) (by omega) (by omega), hf, if_pos rfl]
      rw [rn] at rL
      have r1 := congrArg (fun x : Rn => x.1) rL
      have r2 := congrArg (fun x : Rn => x.2.1) rL
      have r3 := congrArg (fun x : Rn => x.2.2.1) rL
      unfold rnR at r1 r2 r3
      dsimp only at r1 r2 r3
      rw [r1, r2, r3]
    · rw [run u Q l5 l6 l7, x265_101]
      simp (disch := first | omega | exact notL_I | exact notL_N | exact notL_R | exact oM | exact catS_le (Nat.le_of_ble_eq_true rfl) | exact Nat.le_of_ble_eq_true rfl | rfl) only [x265_0, x265_1, x265_2, x265_5, x265_8, x265_11, x265_12, x265_13, x265_14, x265_15, x265_16, x265_19, x265_20, x265_23, x265_24, x265_25, x265_28, x265_29, x265_32, x265_33, x265_34, x265_35, x265_36, x265_37, x265_40, x265_41, x265_42, x265_45, x265_46, x265_47, x265_48, x265_52, x265_54, x265_57, x265_58, x265_61, x265_63, x265_64, x265_65, x265_68, x265_71, x265_72, x265_76, x265_77, x265_78, x265_79, x265_80, x265_83, x265_86, x265_87, x265_88, x265_89, x265_90, x265_92, x265_93, x265_96, x265_98, x265_99, x265_103, x265_104, x265_107, x265_108, x265_109, x265_110, x265_111, x265_113, x265_114, x265_116, x265_117, x265_120, x265_122, x265_124, x265_125, x265_126, x265_128, x265_131, x265_134, x265_135, x265_138, x265_140, x265_141, x265_142, x265_145, x265_147, x265_150, x265_153, x265_154, x265_157, x265_159, x265_162, x265_163, x265_164, x265_165, x265_168, x265_169, x265_172, x265_174, x265_177, x265_178, x265_181, x265_182, x265_183, x265_184, x265_187, x265_188, x265_191, x265_193, x265_195, x265_198, x265_201, x265_202, x265_205, x265_207, x265_210, x265_211, x265_212, x265_215, x265_217, x265_218, x265_221, x265_224, x265_225, x265_226, x265_228, x265_229, x265_232, x265_233, x265_234, x265_235, x265_238, x265_239, x265_240, x265_241, x265_244, x265_245, x265_246, x265_249, x265_250, x265_253, x265_254, x265_255, x265_256, x265_258, x265_259, x265_262, x265_263, x265_264, x265_265, x265_268, x265_269, x265_270, x265_271, x265_274, x265_275, x265_276, x265_279, x265_282, x265_285, x265_289, x265_290, x265_292, x265_295, x265_297, x265_299, x265_300, x265_303, x265_305, x265_306, x265_309, x265_310, x265_313, x265_314, x265_315, x265_316, x265_320, x265_322, x265_325, x265_326, x265_327, x265_328, x265_330, x265_331, x265_332, x265_333, x265_335, x265_338, x265_341, x265_344, x265_347, x265_348, x265_351, x265_352, x265_356, x265_358, x265_361, x265_362, x265_365, x265_367, x265_368, x265_371, x265_373, x265_374, x265_375, x265_378, x265_381, x265_382, x265_383, x265_384, x265_387, x265_390, x265_391, x265_394, x265_395, gM_list, RM_list, fr, hv, ra, pM_last, Kc_some, if_pos, if_neg, ↓reduceIte, not_true_eq_false, not_false_eq_true]
      exact Iff.rfl
end F2
