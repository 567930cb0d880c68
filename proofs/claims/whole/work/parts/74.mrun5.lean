/-! runs of the reference: names for the atoms behind -/
theorem nameP_neg {U : Int → Int} {ps : List Int} {k : Int} {β : Bd} : nameP U (-1 :: ps) k β = nameP U ps k β := by
  rw [nameP, if_neg (by omega)]
section M5
variable {sc : Scr}
theorem l_mkE {h r i c t : Int} {σ : St} {g f : Int → Int} {d : Nat} {l3 l6 l7 l8 l9 : Option V} {u : Bool × Nat × Nat × Int} {Q : Rs → HS → Prop} (hd : 2 ≤ d) (h1 : 0 ≤ h) (h2 : h ≤ 4) (r1 : 0 ≤ r) (r2 : r ≤ 9) (i0 : 0 ≤ i) (i1 : i ≤ 2) (ht : σ 376 (30 * (10 * h + r) + (3 + 4 * (3 * 1 + i))) = t) (t0 : 0 ≤ t) (t1 : t ≤ 25) (hc : c = σ 374 (26 * h + t)) (c0 : 0 ≤ c) (c3 : c ≤ 3) : Ex sc d 248 55 [some (vR 373), some (vI h), some (vI r), l3, some (vI i), some (vI c), l6, l7, l8, l9] [] (wH (sN σ g f) u) Q ↔ Ex sc d 248 182 [some (vR 373), some (vI h), some (vI r), l3, some (vI i), some (vI c), l6, l7, l8, l9] [] (wH (sN σ g f) u) Q := by
  have z0 : 3 + 4 * (3 * 1 + i) + 0 = 3 + 4 * (3 * 1 + i) := by omega
  have ea : ∀ k, sN σ g f 376 k = σ 376 k := fun k => by rw [sN_ne (by omega) (by omega)]
  have ec : ∀ k, sN σ g f 374 k = σ 374 k := fun k => by rw [sN_ne (by omega) (by omega)]
  rw [x248_55]
  simp (disch := first | omega | exact notL_I | exact notL_N | exact notL_R | exact oM | exact catS_le (Nat.le_of_ble_eq_true rfl) | exact Nat.le_of_ble_eq_true rfl | rfl) only [x248_0, x248_1, x248_2, x248_3, x248_5, x248_7, x248_9, x248_12, x248_13, x248_16, x248_18, x248_19, x248_22, x248_24, x248_25, x248_26, x248_28, x248_29, x248_30, x248_31, x248_34, x248_37, x248_38, x248_40, x248_42, x248_43, x248_44, x248_45, x248_46, x248_49, x248_52, x248_53, x248_57, x248_58, x248_59, x248_60, x248_61, x248_62, x248_63, x248_65, x248_66, x248_69, x248_72, x248_75, x248_76, x248_77, x248_78, x248_79, x248_81, x248_82, x248_84, x248_85, x248_88, x248_90, x248_92, x248_95, x248_98, x248_99, x248_102, x248_104, x248_107, x248_108, x248_109, x248_110, x248_113, x248_116, x248_117, x248_119, x248_121, x248_123, x248_126, x248_127, x248_130, x248_132, x248_133, x248_136, x248_139, x248_142, x248_144, x248_146, x248_149, x248_150, x248_151, x248_152, x248_155, x248_157, x248_158, x248_159, x248_160, x248_163, x248_165, x248_168, x248_169, x248_172, x248_174, x248_175, x248_176, x248_179, x248_185, x248_188, x248_189, x248_191, x248_193, x248_194, x248_195, x248_196, x248_197, x248_200, x248_203, x248_204, x248_205, x248_206, x248_207, x248_209, x248_212, x248_215, x248_216, x248_219, x248_220, x248_221, x248_222, x248_225, x248_228, x248_229, x248_230, x248_233, x248_234, x248_235, x248_237, x248_240, x248_241, x248_244, x248_245, x248_246, x248_247, x248_248, x248_251, x248_254, x248_255, x248_256, x248_257, x248_258, x248_259, x248_260, x248_261, x248_262, x248_265, x248_267, x248_268, x248_270, x248_272, x248_273, x248_274, x248_275, x248_276, x248_279, x248_282, x248_283, x248_284, x248_285, x248_286, x248_288, x248_289, x248_292, x248_294, x248_295, x248_296, x248_297, x248_299, x248_300, x248_303, x248_305, x248_306, x248_307, x248_308, x248_310, x248_311, x248_314, x248_316, x248_317, x248_318, x248_319, x248_321, x248_322, x248_325, x248_327, x248_328, x248_329, x248_331, x248_333, x248_335, x248_337, x248_340, x248_341, x248_344, x248_345, x248_348, x248_351, x248_352, x248_353, x248_354, x248_355, x248_357, x248_359, x248_361, x248_363, x248_366, x248_367, x248_369, x248_370, x248_373, x248_376, x248_377, s_atom, z0, ea, ec, ht, s_colsOf, ← hc, Kc_some, if_pos, if_neg, ↓reduceIte, not_true_eq_false, not_false_eq_true]
/-- an atom behind -/
theorem l_mkA {h r i fr : Int} {σ : St} {g f U : Int → Int} {d : Nat} {l3 l8 l9 : Option V} (hd : 2 ≤ d) (W : WfM σ) (h1 : 0 ≤ h) (h2 : h ≤ 4) (r1 : 0 ≤ r) (r2 : r ≤ 9) (i0 : 0 ≤ i) (i1 : i ≤ 2) (hm : 1 ≤ σ 374 (26 * h + σ 376 (30 * (10 * h + r) + (3 + 4 * (3 * 1 + i))))) (hg : gdB g) (hS : Sn U f fr) (hU : ∀ k, 0 ≤ k → k < 100 → U k = 0 ∨ U k = 1) (f0 : 0 ≤ fr) (f1 : fr ≤ 100) :
    (nameP U [(atR σ h r 1 i).2.1, (atR σ h r 1 i).2.2.1, (atR σ h r 1 i).2.2.2] fr (cB g) = none ∧ ∃ g' f', gdB g' ∧ ∀ (l6 l7 : Option V), notL l6 = true → notL l7 = true → ∀ (u : Bool × Nat × Nat × Int) (Q : Rs → HS → Prop), Ex sc d 248 55 [some (vR 373), some (vI h), some (vI r), l3, some (vI i), some (vI 0), l6, l7, l8, l9] [] (wH (sN σ g f) u) Q ↔ Q (.inl (some (vI (3)))) (wH (sN σ g' f') u)) ∨
    (∃ g' f' fr', gdB g' ∧ nameP U [(atR σ h r 1 i).2.1, (atR σ h r 1 i).2.2.1, (atR σ h r 1 i).2.2.2] fr (cB g) = some (fr', cB g') ∧ Sn U f' fr' ∧ 0 ≤ fr' ∧ fr' ≤ 100 ∧ ∀ (l6 l7 : Option V), notL l6 = true → notL l7 = true → ∃ (c' : Int) (l6' l7' : Option V), notL l6' = true ∧ notL l7' = true ∧ ∀ (u : Bool × Nat × Nat × Int) (Q : Rs → HS → Prop), Ex sc d 248 55 [some (vR 373), some (vI h), some (vI r), l3, some (vI i), some (vI 0), l6, l7, l8, l9] [] (wH (sN σ g f) u) Q ↔ Ex sc d 248 182 [some (vR 373), some (vI h), some (vI r), l3, some (vI i), some (vI c'), l6', l7', l8, l9] [] (wH (sN σ g' f') u) Q) := by
  obtain ⟨a1, p1, p2, p3⟩ := W.ato (s := 1) h1 h2 r1 r2 (by omega) (by omega) i0 i1
  have wc := W.col h1 h2 a1.1 a1.2
  have eX : (atR σ h r 1 i).2.1 = σ 376 (30 * (10 * h + r) + (3 + 4 * (3 * 1 + i) + (1 + 0))) := rfl
  have eY : (atR σ h r 1 i).2.2.1 = if 2 ≤ σ 374 (26 * h + σ 376 (30 * (10 * h + r) + (3 + 4 * (3 * 1 + i)))) then σ 376 (30 * (10 * h + r) + (3 + 4 * (3 * 1 + i) + (1 + (0 + 1)))) else -1 := rfl
  have eZ : (atR σ h r 1 i).2.2.2 = if 3 ≤ σ 374 (26 * h + σ 376 (30 * (10 * h + r) + (3 + 4 * (3 * 1 + i)))) then σ 376 (30 * (10 * h + r) + (3 + 4 * (3 * 1 + i) + (1 + (0 + 1 + 1)))) else -1 := rfl
  rw [eX, eY, eZ]
  generalize ht : σ 376 (30 * (10 * h + r) + (3 + 4 * (3 * 1 + i))) = t at *
  have q0 : isPl (σ 376 (30 * (10 * h + r) + (3 + 4 * (3 * 1 + i) + (1 + 0)))) := p1
  have q1 : isPl (σ 376 (30 * (10 * h + r) + (3 + 4 * (3 * 1 + i) + (1 + (0 + 1))))) := p2
  have q2 : isPl (σ 376 (30 * (10 * h + r) + (3 + 4 * (3 * 1 + i) + (1 + (0 + 1 + 1))))) := p3
  rw [show ∀ x y z : Int, [x, y, z] = [x] ++ ([y] ++ [z]) from fun _ _ _ => rfl, nameP_app]
  rcases l_mkC (sc := sc) (d := d) (c := 0) (l3 := l3) (l8 := l8) (l9 := l9) hd h1 h2 r1 r2 i0 i1 (by omega) ht a1.1 a1.2 (by omega) wc.2 rfl q0 hg hS hU f0 f1 with ⟨e0, y0⟩ | ⟨g1, f1', fr1, hg1, e0, hS1, a0, b0, y0⟩
  · refine Or.inl ⟨by rw [e0]; rfl, g, f, hg, y0⟩
  · rw [e0, Option.bind_some, nameP_app]
    dsimp only
    by_cases m2 : 2 ≤ σ 374 (26 * h + t)
    · rw [if_pos m2]
      rcases l_mkC (sc := sc) (d := d) (c := 0 + 1) (l3 := l3) (l8 := l8) (l9 := l9) hd h1 h2 r1 r2 i0 i1 (by omega) ht a1.1 a1.2 (by omega) wc.2 rfl q1 hg1 hS1 hU a0 b0 with ⟨e1, y1⟩ | ⟨g2, f2, fr2, hg2, e1, hS2, a2, b2, y1⟩
      · refine Or.inl ⟨by rw [e1]; rfl, g1, f1', hg1, fun l6 l7 n6 n7 u Q => ?_⟩
        obtain ⟨l71, n71, y0'⟩ := y0 l6 l7 n6 n7
        exact (y0' u Q).trans (y1 _ l71 notL_I n71 u Q)
      · rw [e1, Option.bind_some]
        dsimp only
        by_cases m3 : 3 ≤ σ 374 (26 * h + t)
        · rw [if_pos m3]
          rcases l_mkC (sc := sc) (d := d) (c := 0 + 1 + 1) (l3 := l3) (l8 := l8) (l9 := l9) hd h1 h2 r1 r2 i0 i1 (by omega) ht a1.1 a1.2 (by omega) wc.2 rfl q2 hg2 hS2 hU a2 b2 with ⟨e2, y2⟩ | ⟨g3, f3, fr3, hg3, e2, hS3, a3, b3, y2⟩
          · refine Or.inl ⟨e2, g2, f2, hg2, fun l6 l7 n6 n7 u Q => ?_⟩
            obtain ⟨l71, n71, y0'⟩ := y0 l6 l7 n6 n7
            obtain ⟨l72, n72, y1'⟩ := y1 _ l71 notL_I n71
            exact (y0' u Q).trans ((y1' u Q).trans (y2 _ l72 notL_I n72 u Q))
          · refine Or.inr ⟨g3, f3, fr3, hg3, e2, hS3, a3, b3, fun l6 l7 n6 n7 => ?_⟩
            obtain ⟨l71, n71, y0'⟩ := y0 l6 l7 n6 n7
            obtain ⟨l72, n72, y1'⟩ := y1 _ l71 notL_I n71
            obtain ⟨l73, n73, y2'⟩ := y2 _ l72 notL_I n72
            refine ⟨0 + 1 + 1 + 1, some (vI (σ 376 (30 * (10 * h + r) + (3 + 4 * (3 * 1 + i) + (1 + (0 + 1 + 1)))))), l73, notL_I, n73, fun u Q => (y0' u Q).trans ((y1' u Q).trans ((y2' u Q).trans ?_))⟩
            exact l_mkE hd h1 h2 r1 r2 i0 i1 ht a1.1 a1.2 (by omega) (by omega) (by omega)
        · rw [if_neg m3, nameP_neg, nameP]
          refine Or.inr ⟨g2, f2, fr2, hg2, rfl, hS2, a2, b2, fun l6 l7 n6 n7 => ?_⟩
          obtain ⟨l71, n71, y0'⟩ := y0 l6 l7 n6 n7
          obtain ⟨l72, n72, y1'⟩ := y1 _ l71 notL_I n71
          refine ⟨0 + 1 + 1, some (vI (σ 376 (30 * (10 * h + r) + (3 + 4 * (3 * 1 + i) + (1 + (0 + 1)))))), l72, notL_I, n72, fun u Q => (y0' u Q).trans ((y1' u Q).trans ?_)⟩
          exact l_mkE hd h1 h2 r1 r2 i0 i1 ht a1.1 a1.2 (by omega) (by omega) (by omega)
    · have m3 : ¬ 3 ≤ σ 374 (26 * h + t) := by omega
      rw [if_neg m2, if_neg m3, nameP_neg, nameP, Option.bind_some]
      dsimp only
      rw [nameP_neg, nameP]
      refine Or.inr ⟨g1, f1', fr1, hg1, rfl, hS1, a0, b0, fun l6 l7 n6 n7 => ?_⟩
      obtain ⟨l71, n71, y0'⟩ := y0 l6 l7 n6 n7
      refine ⟨0 + 1, some (vI (σ 376 (30 * (10 * h + r) + (3 + 4 * (3 * 1 + i) + (1 + 0))))), l71, notL_I, n71, fun u Q => (y0' u Q).trans ?_⟩
      exact l_mkE hd h1 h2 r1 r2 i0 i1 ht a1.1 a1.2 (by omega) (by omega) (by omega)
theorem l_mkB {h r : Int} {σ : St} {U : Int → Int} {d : Nat} {l3 l8 l9 : Option V} (hd : 2 ≤ d) (W : WfM σ) (h1 : 0 ≤ h) (h2 : h ≤ 4) (r1 : 0 ≤ r) (r2 : r ≤ 9) (hc : atC σ h r 1 (σ 376 (30 * (10 * h + r) + 2))) (hU : ∀ k, 0 ≤ k → k < 100 → U k = 0 ∨ U k = 1) : ∀ (k : Nat) (i fr : Int) (g f : Int → Int), 0 ≤ i → i + k = σ 376 (30 * (10 * h + r) + 2) → gdB g → Sn U f fr → 0 ≤ fr → fr ≤ 100 →
    (nameP U (plcL (atsF σ h r 1 k i)) fr (cB g) = none ∧ ∃ g' f', gdB g' ∧ ∀ (u : Bool × Nat × Nat × Int) (Q : Rs → HS → Prop) (l5 l6 l7 : Option V), notL l5 = true → notL l6 = true → notL l7 = true → (Ex sc d 248 40 [some (vR 373), some (vI h), some (vI r), l3, some (vI i), l5, l6, l7, l8, l9] [] (wH (sN σ g f) u) Q ↔ Q (.inl (some (vI (3)))) (wH (sN σ g' f') u))) ∨
    (∃ g' f' fr', gdB g' ∧ nameP U (plcL (atsF σ h r 1 k i)) fr (cB g) = some (fr', cB g') ∧ ∀ (u : Bool × Nat × Nat × Int) (Q : Rs → HS → Prop) (l5 l6 l7 : Option V) (R : Prop), notL l5 = true → notL l6 = true → notL l7 = true → (∀ l5 l6 l7 : Option V, notL l5 = true → notL l6 = true → notL l7 = true → (Ex sc d 248 188 [some (vR 373), some (vI h), some (vI r), l3, some (vI (σ 376 (30 * (10 * h + r) + 2))), l5, l6, l7, l8, l9] [] (wH (sN σ g' f') u) Q ↔ R)) → (Ex sc d 248 40 [some (vR 373), some (vI h), some (vI r), l3, some (vI i), l5, l6, l7, l8, l9] [] (wH (sN σ g f) u) Q ↔ R)) := by
  have wr := W.rul h1 h2 r1 r2
  intro k
  induction k with
  | zero =>
    intro i fr g f i0 ik hg hS f0 f1
    have hi : i = σ 376 (30 * (10 * h + r) + 2) := by omega
    refine Or.inr ⟨g, f, fr, hg, rfl, fun u Q l5 l6 l7 R n5 n6 n7 hR => ?_⟩
    have e2 : sN σ g f 376 (30 * (10 * h + r) + 2) = σ 376 (30 * (10 * h + r) + 2) := by rw [sN_ne (by omega) (by omega)]
    rw [← hR l5 l6 l7 n5 n6 n7, x248_40, hi]
    simp (disch := first | omega | exact notL_I | exact notL_N | exact notL_R | exact oM | exact catS_le (Nat.le_of_ble_eq_true rfl) | exact Nat.le_of_ble_eq_true rfl | rfl) only [x248_0, x248_1, x248_2, x248_3, x248_5, x248_7, x248_9, x248_12, x248_13, x248_16, x248_18, x248_19, x248_22, x248_24, x248_25, x248_26, x248_28, x248_29, x248_30, x248_31, x248_34, x248_37, x248_38, x248_42, x248_43, x248_44, x248_45, x248_46, x248_49, x248_52, x248_53, x248_57, x248_58, x248_59, x248_60, x248_61, x248_62, x248_63, x248_65, x248_66, x248_69, x248_72, x248_75, x248_76, x248_77, x248_78, x248_79, x248_81, x248_82, x248_84, x248_85, x248_88, x248_90, x248_92, x248_95, x248_98, x248_99, x248_102, x248_104, x248_107, x248_108, x248_109, x248_110, x248_113, x248_116, x248_117, x248_119, x248_121, x248_123, x248_126, x248_127, x248_130, x248_132, x248_133, x248_136, x248_139, x248_142, x248_144, x248_146, x248_149, x248_150, x248_151, x248_152, x248_155, x248_157, x248_158, x248_159, x248_160, x248_163, x248_165, x248_168, x248_169, x248_172, x248_174, x248_175, x248_176, x248_179, x248_185, x248_189, x248_191, x248_193, x248_194, x248_195, x248_196, x248_197, x248_200, x248_203, x248_204, x248_205, x248_206, x248_207, x248_209, x248_212, x248_215, x248_216, x248_219, x248_220, x248_221, x248_222, x248_225, x248_228, x248_229, x248_230, x248_233, x248_234, x248_235, x248_237, x248_240, x248_241, x248_244, x248_245, x248_246, x248_247, x248_248, x248_251, x248_254, x248_255, x248_256, x248_257, x248_258, x248_259, x248_260, x248_261, x248_262, x248_265, x248_267, x248_268, x248_270, x248_272, x248_273, x248_274, x248_275, x248_276, x248_279, x248_282, x248_283, x248_284, x248_285, x248_286, x248_288, x248_289, x248_292, x248_294, x248_295, x248_296, x248_297, x248_299, x248_300, x248_303, x248_305, x248_306, x248_307, x248_308, x248_310, x248_311, x248_314, x248_316, x248_317, x248_318, x248_319, x248_321, x248_322, x248_325, x248_327, x248_328, x248_329, x248_331, x248_333, x248_335, x248_337, x248_340, x248_341, x248_344, x248_345, x248_348, x248_351, x248_352, x248_353, x248_354, x248_355, x248_357, x248_359, x248_361, x248_363, x248_366, x248_367, x248_369, x248_370, x248_373, x248_376, x248_377, s_rule, e2, Kc_some, if_pos, if_neg, ↓reduceIte, not_true_eq_false, not_false_eq_true]
  | succ k ih =>
    intro i fr g f i0 ik hg hS f0 f1
    have ep : plcL (atsF σ h r 1 (k + 1) i) = [(atR σ h r 1 i).2.1, (atR σ h r 1 i).2.2.1, (atR σ h r 1 i).2.2.2] ++ plcL (atsF σ h r 1 k (i + 1)) := by
      rw [atsF]
      unfold plcL
      rw [List.flatMap_cons]
    have e2 : sN σ g f 376 (30 * (10 * h + r) + 2) = σ 376 (30 * (10 * h + r) + 2) := by rw [sN_ne (by omega) (by omega)]
    have hm := hc i i0 (by omega)
    have start : ∀ (u : Bool × Nat × Nat × Int) (Q : Rs → HS → Prop) (l5 l6 l7 : Option V), Ex sc d 248 40 [some (vR 373), some (vI h), some (vI r), l3, some (vI i), l5, l6, l7, l8, l9] [] (wH (sN σ g f) u) Q ↔ Ex sc d 248 55 [some (vR 373), some (vI h), some (vI r), l3, some (vI i), some (vI 0), l6, l7, l8, l9] [] (wH (sN σ g f) u) Q := by
      intro u Q l5 l6 l7
      rw [x248_40]
      simp (disch := first | omega | exact notL_I | exact notL_N | exact notL_R | exact oM | exact catS_le (Nat.le_of_ble_eq_true rfl) | exact Nat.le_of_ble_eq_true rfl | rfl) only [x248_0, x248_1, x248_2, x248_3, x248_5, x248_7, x248_9, x248_12, x248_13, x248_16, x248_18, x248_19, x248_22, x248_24, x248_25, x248_26, x248_28, x248_29, x248_30, x248_31, x248_34, x248_37, x248_38, x248_42, x248_43, x248_44, x248_45, x248_46, x248_49, x248_52, x248_53, x248_57, x248_58, x248_59, x248_60, x248_61, x248_62, x248_63, x248_65, x248_66, x248_69, x248_72, x248_75, x248_76, x248_77, x248_78, x248_79, x248_81, x248_82, x248_84, x248_85, x248_88, x248_90, x248_92, x248_95, x248_98, x248_99, x248_102, x248_104, x248_107, x248_108, x248_109, x248_110, x248_113, x248_116, x248_117, x248_119, x248_121, x248_123, x248_126, x248_127, x248_130, x248_132, x248_133, x248_136, x248_139, x248_142, x248_144, x248_146, x248_149, x248_150, x248_151, x248_152, x248_155, x248_157, x248_158, x248_159, x248_160, x248_163, x248_165, x248_168, x248_169, x248_172, x248_174, x248_175, x248_176, x248_179, x248_185, x248_189, x248_191, x248_193, x248_194, x248_195, x248_196, x248_197, x248_200, x248_203, x248_204, x248_205, x248_206, x248_207, x248_209, x248_212, x248_215, x248_216, x248_219, x248_220, x248_221, x248_222, x248_225, x248_228, x248_229, x248_230, x248_233, x248_234, x248_235, x248_237, x248_240, x248_241, x248_244, x248_245, x248_246, x248_247, x248_248, x248_251, x248_254, x248_255, x248_256, x248_257, x248_258, x248_259, x248_260, x248_261, x248_262, x248_265, x248_267, x248_268, x248_270, x248_272, x248_273, x248_274, x248_275, x248_276, x248_279, x248_282, x248_283, x248_284, x248_285, x248_286, x248_288, x248_289, x248_292, x248_294, x248_295, x248_296, x248_297, x248_299, x248_300, x248_303, x248_305, x248_306, x248_307, x248_308, x248_310, x248_311, x248_314, x248_316, x248_317, x248_318, x248_319, x248_321, x248_322, x248_325, x248_327, x248_328, x248_329, x248_331, x248_333, x248_335, x248_337, x248_340, x248_341, x248_344, x248_345, x248_348, x248_351, x248_352, x248_353, x248_354, x248_355, x248_357, x248_359, x248_361, x248_363, x248_366, x248_367, x248_369, x248_370, x248_373, x248_376, x248_377, s_rule, e2, Kc_some, if_pos, if_neg, ↓reduceIte, not_true_eq_false, not_false_eq_true]
    rw [ep, nameP_app]
    rcases l_mkA (sc := sc) (d := d) (l3 := l3) (l8 := l8) (l9 := l9) hd W h1 h2 r1 r2 i0 (by omega) hm hg hS hU f0 f1 with ⟨e0, g', f', hg', y0⟩ | ⟨g1, f1', fr1, hg1, e0, hS1, a0, b0, y0⟩
    · refine Or.inl ⟨by rw [e0]; rfl, g', f', hg', fun u Q l5 l6 l7 n5 n6 n7 => (start u Q l5 l6 l7).trans (y0 l6 l7 n6 n7 u Q)⟩
    · rw [e0, Option.bind_some]
      dsimp only
      rcases ih (i + 1) fr1 g1 f1' (by omega) (by omega) hg1 hS1 a0 b0 with ⟨e1, g', f', hg', y1⟩ | ⟨g', f', fr', hg', e1, y1⟩
      · refine Or.inl ⟨e1, g', f', hg', fun u Q l5 l6 l7 n5 n6 n7 => ?_⟩
        obtain ⟨c', l6', l7', n6', n7', y0'⟩ := y0 l6 l7 n6 n7
        refine (start u Q l5 l6 l7).trans ((y0' u Q).trans (Iff.trans ?_ (y1 u Q (some (vI c')) l6' l7' notL_I n6' n7')))
        simp (disch := first | omega | exact notL_I | exact notL_N | exact notL_R | exact oM | exact catS_le (Nat.le_of_ble_eq_true rfl) | exact Nat.le_of_ble_eq_true rfl | rfl) only [x248_182, x248_185]
      · refine Or.inr ⟨g', f', fr', hg', e1, fun u Q l5 l6 l7 R n5 n6 n7 hR => ?_⟩
        obtain ⟨c', l6', l7', n6', n7', y0'⟩ := y0 l6 l7 n6 n7
        refine (start u Q l5 l6 l7).trans ((y0' u Q).trans (Iff.trans ?_ (y1 u Q (some (vI c')) l6' l7' R notL_I n6' n7' hR)))
        simp (disch := first | omega | exact notL_I | exact notL_N | exact notL_R | exact oM | exact catS_le (Nat.le_of_ble_eq_true rfl) | exact Nat.le_of_ble_eq_true rfl | rfl) only [x248_182, x248_185]
end M5
