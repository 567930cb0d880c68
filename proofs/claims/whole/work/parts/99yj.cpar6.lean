/-! the class reads: a rule -/
theorem clU_v {σ : St} {a : Nat} (W : WfRu σ a) : FrB a 7 σ (clU σ a) ∧ WfRu (clU σ a) a ∧ clU σ a a 0 = 2 ∧ clU σ a (a + 1) 0 = 0 ∧ clU σ a (a + 4) 0 = 0 ∧ clU σ a a 3 = -1 ∧ clU σ a a 4 = -1 := by
  obtain ⟨w1, w2, w3, w4, w5⟩ := W
  have g0 : clU σ a a 0 = 2 := by unfold clU; rw [su_off (by omega), su_off (by omega), su_ne (by omega), su_ne (by omega), su_eq]
  have g3 : clU σ a a 3 = -1 := by unfold clU; rw [su_off (by omega), su_eq]
  have g4 : clU σ a a 4 = -1 := by unfold clU; rw [su_eq]
  have g1 : clU σ a (a + 1) 0 = 0 := by unfold clU; rw [su_ne (by omega), su_ne (by omega), su_ne (by omega), su_eq]
  have g5 : clU σ a (a + 4) 0 = 0 := by unfold clU; rw [su_ne (by omega), su_ne (by omega), su_eq]
  have gn : ∀ c, c ≠ a → c ≠ a + 1 → c ≠ a + 4 → clU σ a c = σ c := fun c x y z => by unfold clU; rw [su_ne x, su_ne x, su_ne z, su_ne y, su_ne x]
  refine ⟨fun c hc => gn c (by omega) (by omega) (by omega), ⟨by omega, by omega, by omega, ⟨by omega, ?_, ?_⟩, ⟨by omega, ?_, ?_⟩⟩, g0, g1, g5, g3, g4⟩
  · rw [gn _ (by omega) (by omega) (by omega)]; exact w4.2.1
  · rw [gn _ (by omega) (by omega) (by omega)]; exact w4.2.2
  · rw [gn _ (by omega) (by omega) (by omega)]; exact w5.2.1
  · rw [gn _ (by omega) (by omega) (by omega)]; exact w5.2.2
theorem ru_1 {σ τ : St} {a : Nat} (W : WfRu σ a) (F : FzB (a + 1) 3 σ τ) (fa : far a 7) (w : WfAt τ (a + 1)) : WfRu τ a ∧ τ a = σ a ∧ (∀ c, a + 4 ≤ c → c < a + 7 → τ c = σ c) := by
  have fa' := fa
  unfold far at fa'
  have e0 : τ a = σ a := F.1 a (by omega) (by omega) (by omega) (by omega)
  have e4 : ∀ c, a + 4 ≤ c → c < a + 7 → τ c = σ c := fun c x y => F.1 c (by omega) (by omega) (by omega) (by omega)
  obtain ⟨w1, w2, w3, w4, w5⟩ := W
  exact ⟨⟨by rw [e0]; exact w1, by rw [e0]; exact w2, by rw [e0]; exact w3, w, (w5.eq e4).1⟩, e0, e4⟩
theorem ru_4 {σ τ : St} {a : Nat} (W : WfRu σ a) (F : FzB (a + 4) 3 σ τ) (fa : far a 7) (w : WfAt τ (a + 4)) : WfRu τ a ∧ τ a = σ a ∧ (∀ c, a + 1 ≤ c → c < a + 4 → τ c = σ c) := by
  have fa' := fa
  unfold far at fa'
  have e0 : τ a = σ a := F.1 a (by omega) (by omega) (by omega) (by omega)
  have e4 : ∀ c, a + 1 ≤ c → c < a + 4 → τ c = σ c := fun c x y => F.1 c (by omega) (by omega) (by omega) (by omega)
  obtain ⟨w1, w2, w3, w4, w5⟩ := W
  exact ⟨⟨by rw [e0]; exact w1, by rw [e0]; exact w2, by rw [e0]; exact w3, (w4.eq e4).1, w⟩, e0, e4⟩
theorem ru_0 {σ : St} {a : Nat} {v : Int} (W : WfRu σ a) (v0 : 0 ≤ v ∧ v ≤ 2) : WfRu (su σ a 0 v) a ∧ ruC (su σ a 0 v) a = (v, asC σ (a + 1), asC σ (a + 4), σ a 3, σ a 4) ∧ FrB a 7 σ (su σ a 0 v) := by
  obtain ⟨w1, w2, w3, w4, w5⟩ := W
  have q1 := w4.eq (τ := su σ a 0 v) (fun c x y => su_ne (by omega))
  have q4 := w5.eq (τ := su σ a 0 v) (fun c x y => su_ne (by omega))
  refine ⟨⟨by rw [su_eq]; exact v0, by rw [su_off (by omega)]; exact w2, by rw [su_off (by omega)]; exact w3, q1.1, q4.1⟩, ?_, fun c hc => su_ne (by omega)⟩
  unfold ruC
  rw [q1.2, q4.2, su_eq, su_off (by omega), su_off (by omega)]
/-- what follows the arrow -/
def tlP (nx : Int → Ps) (C : Int → Int) (as : List At) (s : Ps) : Fa ⊕ (Ru × Ps) :=
  if s.1 = 5 then .inr ((2, as, [], -1, -1), nx s.2.2) else if isTb s then andP (atmP nx C 3 4 0 [] s) fun b => .inr ((0, as, b.1, -1, -1), b.2) else andP (mltP nx as s) fun q => .inr ((1, as, [], q.1, q.2.1), q.2.2)
theorem rul_s {nx : Int → Ps} {C : Int → Int} {s : Ps} : rulP nx C s = andP (atmP nx C 3 4 0 [] s) fun q => if q.2.1 = 6 then andP (tlP nx C q.1 (nx q.2.2.2)) fun r => andP (needP nx 59 r.2) fun s2 => .inr (r.1, s2) else .inl (1, q.2.2.1) := by
  unfold rulP
  congr 1
  funext q
  by_cases h : q.2.1 = 6
  · rw [if_pos h, if_pos h]
    unfold tlP
    by_cases h5 : (nx q.2.2.2).1 = 5
    · rw [if_pos h5, if_pos h5, andP_r]
    · rw [if_neg h5, if_neg h5]
      by_cases ht : isTb (nx q.2.2.2)
      · rw [if_pos ht, if_pos ht]
        cases atmP nx C 3 4 0 [] (nx q.2.2.2) with
        | inl e => rfl
        | inr b => rfl
      · rw [if_neg ht, if_neg ht]
        unfold mltP
        cases sideP nx q.1 (nx q.2.2.2) with
        | inl e => rfl
        | inr l =>
          rw [andP_r, andP_r]
          cases needP nx 61 l.2 with
          | inl e => rfl
          | inr s3 =>
            rw [andP_r, andP_r]
            cases sideP nx q.1 s3 with
            | inl e => rfl
            | inr r => rfl
  · rw [if_neg h, if_neg h]
section H6
variable {sc : Scr} {d : Nat} {f : Int → Int} {n : Int} {a b : Nat} {C : Int → Int}
/-- the tail, from the switch on -/
theorem l_tail {s : Ps} {σ : St} (hd : 5 ≤ d) (oa : oRu a) (ob : oHa b) (fa : far a 7) (fb : far (b + 1) 1) (fab : b + 1 < a ∨ a + 7 ≤ b + 1) (hc : ∀ t, 0 ≤ C t ∧ C t ≤ 3) (hC : coC σ b = C) (H : PzC f n s σ) (W : WfRu σ a) (h4 : σ (a + 4) 0 = 0) (h3 : σ a 3 = -1) (hr : σ a 4 = -1) :
    (∃ r s' τ, tlP (nxT f n) C (asC σ (a + 1)) s = .inr (r, s') ∧ FzB a 7 σ τ ∧ PzC f n s' τ ∧ WfRu τ a ∧ ruC τ a = r ∧ ∀ (u : Bool × Nat × Nat × Int) (Q : Rs → HS → Prop), Ex sc d 59 35 [some (vR 87), some (vR a), some (vR b), none] [] (wH σ u) Q ↔ Ex sc d 59 128 [some (vR 87), some (vR a), some (vR b), some (vI 1)] [] (wH τ u) Q) ∨
    (∃ e τ, tlP (nxT f n) C (asC σ (a + 1)) s = .inl e ∧ FzB a 7 σ τ ∧ WfRu τ a ∧ BdC τ e ∧ ∀ (u : Bool × Nat × Nat × Int) (Q : Rs → HS → Prop), Ex sc d 59 35 [some (vR 87), some (vR a), some (vR b), none] [] (wH σ u) Q ↔ Ex sc d 59 128 [some (vR 87), some (vR a), some (vR b), some (vI 0)] [] (wH τ u) Q) := by
  have fa' := fa
  unfold far at fa'
  have oa1 := oa.ahead
  have oa4 := oa.behind
  have kd := fun u Q => s_kind (sc := sc) (d := d - 1) (u := u) (Q := Q) H
  have ki := kd_iff H.ok.1
  have kb := ki.1
  have k5 := ki.2.2.2.2.2.1
  have k6 := ki.2.2.2.2.2.2.1
  have k7 := ki.2.2.2.2.2.2.2.1
  have k8 := ki.2.2.2.2.2.2.2.2.1
  have e4 : asC σ (a + 4) = [] := by unfold asC; rw [h4]; rfl
  unfold tlP
  by_cases h5 : s.1 = 5
  · rw [if_pos h5]
    rw [k5.mpr h5] at kd
    obtain ⟨w1, w2, w3⟩ := ru_0 (v := 2) W (by omega)
    obtain ⟨τ, a1, a2, a3⟩ := s_takeT (sc := sc) (d := d - 1) (H.frB w3 fa)
    unfold RnA at a3
    have w4 := w1.eq (τ := τ) (fun c x y => a1 c (by omega))
    refine Or.inl ⟨_, _, τ, rfl, (w3.z fa).trans (Fzc.o89 a1).b, a2, w4.1, by rw [w4.2, w2, e4, h3, hr], fun u Q => ?_⟩
    rw [x59_35]
    simp (disch := first | assumption | omega | exact notL_I | exact notL_N | exact notL_R | exact catS_le (Nat.le_of_ble_eq_true rfl) | exact Nat.le_of_ble_eq_true rfl | exact ooRo (by assumption) | exact ooAt (by assumption) | exact ooRu (by assumption) | exact ooLo (by assumption) | exact ooHa (by assumption) | exact ooLe (by assumption) | exact ooFn | exact ooAn | exact ooPa | exact ooTo | exact ooWa | exact ooCh | rfl) only [x59_0, x59_1, x59_4, x59_5, x59_8, x59_11, x59_12, x59_13, x59_16, x59_17, x59_18, x59_21, x59_24, x59_25, x59_27, x59_30, x59_33, x59_34, x59_36, x59_39, x59_42_5, x59_42_6, x59_42_7, x59_42_8, x59_42, x59_72, x59_73, x59_74, x59_77, x59_78, x59_79, x59_82, x59_83, x59_84, x59_87, x59_88, x59_91, x59_92, x59_93, x59_96, x59_97, x59_98, x59_101, x59_102, x59_105, x59_106, x59_107, x59_110, x59_111, x59_114, x59_117, x59_118, x59_119, x59_122, x59_123, x59_124, x59_127, x59_129, x59_132, x59_133, x59_135, x59_138, x59_141, x59_142, x59_145, x59_146, gPa_tokens, kd, pRu_kind, a3, Kc_some, Kc_none, if_pos, if_neg, ↓reduceIte, not_true_eq_false, not_false_eq_true]
  · rw [if_neg h5]
    have n5 : kdT s.1 ≠ 5 := fun z => h5 (k5.mp z)
    by_cases ht : isTb s
    · rw [if_pos ht]
      rw [k6.mpr ht] at kd
      obtain ⟨w1, w2, w3⟩ := ru_0 (v := 0) W (by omega)
      have q4 : asC (su σ a 0 0) (a + 1) = asC σ (a + 1) := congrArg (fun r : Ru => r.2.1) w2
      rcases s_atoms (sc := sc) (d := d - 1) (b := b) (a := a + 4) (most := 3) (σ := su σ a 0 0) (C := C) (by omega) oa.behind ob (by unfold far; omega) fb (by omega) hc (by omega) (by rw [su_ne (by omega)]; exact h4) (by rw [coC_eq (su_ne (by omega))]; exact hC) (H.frB w3 fa) w1.2.2.2.2 with ⟨as, s', τ, c1, c2, c3, c4, c5, c6, c7, c8, c9⟩ | ⟨e, τ, c1, c4, c6, c7, c9⟩
      · have c1' : atmP (nxT f n) C 3 4 0 [] s = .inr (as, s') := c1
        rw [c1', andP_r]
        unfold RnA at c9
        obtain ⟨v1, v2, v3⟩ := ru_4 w1 c4 fa c6
        refine Or.inl ⟨_, _, τ, rfl, (w3.z fa).trans (c4.sub (by omega) (by omega)), c5, v1, ?_, fun u Q => ?_⟩
        · unfold ruC
          rw [c7, (w1.2.2.2.1.eq v3).2, q4, v2, su_eq, su_off (by omega), su_off (by omega), h3, hr]
        · rw [x59_35]
          have c9' : ∀ (u : Bool × Nat × Nat × Int) (Q : Rs → HS → Prop), Ex sc (d - 1) 62 0 [some (vR 87), some (vR (a + 4)), some (vR b), some (vI 3), none, none] [] (wH (su σ a 0 0) u) Q ↔ Q (.inl (some (vI 1))) (wH τ u) := c9
          simp (disch := first | assumption | omega | exact notL_I | exact notL_N | exact notL_R | exact catS_le (Nat.le_of_ble_eq_true rfl) | exact Nat.le_of_ble_eq_true rfl | exact ooRo (by assumption) | exact ooAt (by assumption) | exact ooRu (by assumption) | exact ooLo (by assumption) | exact ooHa (by assumption) | exact ooLe (by assumption) | exact ooFn | exact ooAn | exact ooPa | exact ooTo | exact ooWa | exact ooCh | rfl) only [x59_0, x59_1, x59_4, x59_5, x59_8, x59_11, x59_12, x59_13, x59_16, x59_17, x59_18, x59_21, x59_24, x59_25, x59_27, x59_30, x59_33, x59_34, x59_36, x59_39, x59_42_5, x59_42_6, x59_42_7, x59_42_8, x59_42, x59_72, x59_73, x59_74, x59_77, x59_78, x59_79, x59_82, x59_83, x59_84, x59_87, x59_88, x59_91, x59_92, x59_93, x59_96, x59_97, x59_98, x59_101, x59_102, x59_105, x59_106, x59_107, x59_110, x59_111, x59_114, x59_117, x59_118, x59_119, x59_122, x59_123, x59_124, x59_127, x59_129, x59_132, x59_133, x59_135, x59_138, x59_141, x59_142, x59_145, x59_146, gPa_tokens, kd, pRu_kind, gRu_behind, c9', Kc_some, Kc_none, if_pos, if_neg, ↓reduceIte, not_true_eq_false, not_false_eq_true]
      · have c1' : atmP (nxT f n) C 3 4 0 [] s = .inl e := c1
        rw [c1', andP_l]
        unfold RnA at c9
        obtain ⟨v1, v2, v3⟩ := ru_4 w1 c4 fa c6
        refine Or.inr ⟨_, τ, rfl, (w3.z fa).trans (c4.sub (by omega) (by omega)), v1, c7, fun u Q => ?_⟩
        rw [x59_35]
        have c9' : ∀ (u : Bool × Nat × Nat × Int) (Q : Rs → HS → Prop), Ex sc (d - 1) 62 0 [some (vR 87), some (vR (a + 4)), some (vR b), some (vI 3), none, none] [] (wH (su σ a 0 0) u) Q ↔ Q (.inl (some (vI 0))) (wH τ u) := c9
        simp (disch := first | assumption | omega | exact notL_I | exact notL_N | exact notL_R | exact catS_le (Nat.le_of_ble_eq_true rfl) | exact Nat.le_of_ble_eq_true rfl | exact ooRo (by assumption) | exact ooAt (by assumption) | exact ooRu (by assumption) | exact ooLo (by assumption) | exact ooHa (by assumption) | exact ooLe (by assumption) | exact ooFn | exact ooAn | exact ooPa | exact ooTo | exact ooWa | exact ooCh | rfl) only [x59_0, x59_1, x59_4, x59_5, x59_8, x59_11, x59_12, x59_13, x59_16, x59_17, x59_18, x59_21, x59_24, x59_25, x59_27, x59_30, x59_33, x59_34, x59_36, x59_39, x59_42_5, x59_42_6, x59_42_7, x59_42_8, x59_42, x59_72, x59_73, x59_74, x59_77, x59_78, x59_79, x59_82, x59_83, x59_84, x59_87, x59_88, x59_91, x59_92, x59_93, x59_96, x59_97, x59_98, x59_101, x59_102, x59_105, x59_106, x59_107, x59_110, x59_111, x59_114, x59_117, x59_118, x59_119, x59_122, x59_123, x59_124, x59_127, x59_129, x59_132, x59_133, x59_135, x59_138, x59_141, x59_142, x59_145, x59_146, gPa_tokens, kd, pRu_kind, gRu_behind, c9', Kc_some, Kc_none, if_pos, if_neg, ↓reduceIte, not_true_eq_false, not_false_eq_true]
    · rw [if_neg ht]
      have n6 : kdT s.1 ≠ 6 := fun z => ht (k6.mp z)
      by_cases hs : isNm s ∨ isVr s
      · have hk : kdT s.1 = 7 ∨ kdT s.1 = 8 := hs.elim (fun z => Or.inr (k8.mpr z)) (fun z => Or.inl (k7.mpr z))
        obtain ⟨w1, w2, w3⟩ := ru_0 (v := 1) W (by omega)
        have q1 : asC (su σ a 0 1) (a + 1) = asC σ (a + 1) := congrArg (fun r : Ru => r.2.1) w2
        have q4 : asC (su σ a 0 1) (a + 4) = asC σ (a + 4) := congrArg (fun r : Ru => r.2.2.1) w2
        have mc := s_meltC (sc := sc) (d := d - 1) (a := a) (by omega) oa fa (H.frB w3 fa) w1
        rw [q1, q4, e4, su_eq] at mc
        have run : ∀ (u : Bool × Nat × Nat × Int) (Q : Rs → HS → Prop), Ex sc d 59 35 [some (vR 87), some (vR a), some (vR b), none] [] (wH σ u) Q ↔ Ex sc d 59 96 [some (vR 87), some (vR a), some (vR b), none] [] (wH (su σ a 0 1) u) Q := by
          intro u Q
          rw [x59_35]
          rcases hk with hk | hk
          · rw [hk] at kd
            simp (disch := first | assumption | omega | exact notL_I | exact notL_N | exact notL_R | exact catS_le (Nat.le_of_ble_eq_true rfl) | exact Nat.le_of_ble_eq_true rfl | exact ooRo (by assumption) | exact ooAt (by assumption) | exact ooRu (by assumption) | exact ooLo (by assumption) | exact ooHa (by assumption) | exact ooLe (by assumption) | exact ooFn | exact ooAn | exact ooPa | exact ooTo | exact ooWa | exact ooCh | rfl) only [x59_0, x59_1, x59_4, x59_5, x59_8, x59_11, x59_12, x59_13, x59_16, x59_17, x59_18, x59_21, x59_24, x59_25, x59_27, x59_30, x59_33, x59_34, x59_36, x59_39, x59_42_5, x59_42_6, x59_42_7, x59_42_8, x59_42, x59_72, x59_73, x59_74, x59_77, x59_78, x59_79, x59_82, x59_83, x59_84, x59_87, x59_88, x59_91, x59_92, x59_93, x59_97, x59_98, x59_101, x59_102, x59_105, x59_106, x59_107, x59_110, x59_111, x59_114, x59_117, x59_118, x59_119, x59_122, x59_123, x59_124, x59_127, x59_129, x59_132, x59_133, x59_135, x59_138, x59_141, x59_142, x59_145, x59_146, gPa_tokens, kd, pRu_kind, Kc_some, Kc_none, if_pos, if_neg, ↓reduceIte, not_true_eq_false, not_false_eq_true]
          · rw [hk] at kd
            simp (disch := first | assumption | omega | exact notL_I | exact notL_N | exact notL_R | exact catS_le (Nat.le_of_ble_eq_true rfl) | exact Nat.le_of_ble_eq_true rfl | exact ooRo (by assumption) | exact ooAt (by assumption) | exact ooRu (by assumption) | exact ooLo (by assumption) | exact ooHa (by assumption) | exact ooLe (by assumption) | exact ooFn | exact ooAn | exact ooPa | exact ooTo | exact ooWa | exact ooCh | rfl) only [x59_0, x59_1, x59_4, x59_5, x59_8, x59_11, x59_12, x59_13, x59_16, x59_17, x59_18, x59_21, x59_24, x59_25, x59_27, x59_30, x59_33, x59_34, x59_36, x59_39, x59_42_5, x59_42_6, x59_42_7, x59_42_8, x59_42, x59_72, x59_73, x59_74, x59_77, x59_78, x59_79, x59_82, x59_83, x59_84, x59_87, x59_88, x59_91, x59_92, x59_93, x59_97, x59_98, x59_101, x59_102, x59_105, x59_106, x59_107, x59_110, x59_111, x59_114, x59_117, x59_118, x59_119, x59_122, x59_123, x59_124, x59_127, x59_129, x59_132, x59_133, x59_135, x59_138, x59_141, x59_142, x59_145, x59_146, gPa_tokens, kd, pRu_kind, Kc_some, Kc_none, if_pos, if_neg, ↓reduceIte, not_true_eq_false, not_false_eq_true]
        rcases mc with ⟨x, y, s', τ, m1, m2, m3, m4, m5, m6, m7, m8⟩ | ⟨e, τ, m1, m4, m6, m7, m8⟩
        · rw [m1, andP_r]
          unfold RnA at m8
          refine Or.inl ⟨_, _, τ, rfl, (w3.z fa).trans m4, m5, m6, m7, fun u Q => ?_⟩
          rw [run u Q, x59_96]
          simp (disch := first | assumption | omega | exact notL_I | exact notL_N | exact notL_R | exact catS_le (Nat.le_of_ble_eq_true rfl) | exact Nat.le_of_ble_eq_true rfl | exact ooRo (by assumption) | exact ooAt (by assumption) | exact ooRu (by assumption) | exact ooLo (by assumption) | exact ooHa (by assumption) | exact ooLe (by assumption) | exact ooFn | exact ooAn | exact ooPa | exact ooTo | exact ooWa | exact ooCh | rfl) only [x59_0, x59_1, x59_4, x59_5, x59_8, x59_11, x59_12, x59_13, x59_16, x59_17, x59_18, x59_21, x59_24, x59_25, x59_27, x59_30, x59_33, x59_34, x59_36, x59_39, x59_42_5, x59_42_6, x59_42_7, x59_42_8, x59_42, x59_72, x59_73, x59_74, x59_77, x59_78, x59_79, x59_82, x59_83, x59_84, x59_87, x59_88, x59_91, x59_92, x59_93, x59_97, x59_98, x59_101, x59_102, x59_105, x59_106, x59_107, x59_110, x59_111, x59_114, x59_117, x59_118, x59_119, x59_122, x59_123, x59_124, x59_127, x59_129, x59_132, x59_133, x59_135, x59_138, x59_141, x59_142, x59_145, x59_146, m8, Kc_some]
        · rw [m1, andP_l]
          unfold RnA at m8
          refine Or.inr ⟨_, τ, rfl, (w3.z fa).trans m4, m6, m7, fun u Q => ?_⟩
          rw [run u Q, x59_96]
          simp (disch := first | assumption | omega | exact notL_I | exact notL_N | exact notL_R | exact catS_le (Nat.le_of_ble_eq_true rfl) | exact Nat.le_of_ble_eq_true rfl | exact ooRo (by assumption) | exact ooAt (by assumption) | exact ooRu (by assumption) | exact ooLo (by assumption) | exact ooHa (by assumption) | exact ooLe (by assumption) | exact ooFn | exact ooAn | exact ooPa | exact ooTo | exact ooWa | exact ooCh | rfl) only [x59_0, x59_1, x59_4, x59_5, x59_8, x59_11, x59_12, x59_13, x59_16, x59_17, x59_18, x59_21, x59_24, x59_25, x59_27, x59_30, x59_33, x59_34, x59_36, x59_39, x59_42_5, x59_42_6, x59_42_7, x59_42_8, x59_42, x59_72, x59_73, x59_74, x59_77, x59_78, x59_79, x59_82, x59_83, x59_84, x59_87, x59_88, x59_91, x59_92, x59_93, x59_97, x59_98, x59_101, x59_102, x59_105, x59_106, x59_107, x59_110, x59_111, x59_114, x59_117, x59_118, x59_119, x59_122, x59_123, x59_124, x59_127, x59_129, x59_132, x59_133, x59_135, x59_138, x59_141, x59_142, x59_145, x59_146, m8, Kc_some]
      · have n7 : kdT s.1 ≠ 7 := fun z => hs (Or.inr (k7.mp z))
        have n8 : kdT s.1 ≠ 8 := fun z => hs (Or.inl (k8.mp z))
        have em : mltP (nxT f n) (asC σ (a + 1)) s = .inl (1, s.2.1) := by
          unfold mltP sideP
          rw [if_neg (fun z => hs (Or.inl z)), if_neg (fun z => hs (Or.inr z)), andP_l]
        rw [em, andP_l]
        have rf := fun u Q => s_refuse (sc := sc) (d := d - 1) (k := 1) (u := u) (Q := Q) (by omega) H
        refine Or.inr ⟨_, _, rfl, rf_v.1.b, (W.eq (rf_v.1.cl fa)).1, rf_v.2, fun u Q => ?_⟩
        rw [x59_35]
        simp (disch := first | assumption | omega | exact notL_I | exact notL_N | exact notL_R | exact catS_le (Nat.le_of_ble_eq_true rfl) | exact Nat.le_of_ble_eq_true rfl | exact ooRo (by assumption) | exact ooAt (by assumption) | exact ooRu (by assumption) | exact ooLo (by assumption) | exact ooHa (by assumption) | exact ooLe (by assumption) | exact ooFn | exact ooAn | exact ooPa | exact ooTo | exact ooWa | exact ooCh | rfl) only [x59_0, x59_1, x59_4, x59_5, x59_8, x59_11, x59_12, x59_13, x59_16, x59_17, x59_18, x59_21, x59_24, x59_25, x59_27, x59_30, x59_33, x59_34, x59_36, x59_39, x59_42_5, x59_42_6, x59_42_7, x59_42_8, x59_42, x59_72, x59_73, x59_74, x59_77, x59_78, x59_79, x59_82, x59_83, x59_84, x59_87, x59_88, x59_91, x59_92, x59_93, x59_96, x59_97, x59_98, x59_101, x59_102, x59_105, x59_106, x59_107, x59_110, x59_111, x59_114, x59_117, x59_118, x59_119, x59_122, x59_123, x59_124, x59_127, x59_129, x59_132, x59_133, x59_135, x59_138, x59_141, x59_142, x59_145, x59_146, gPa_tokens, kd, rf, Kc_some, Kc_none, if_pos, if_neg, ↓reduceIte, not_true_eq_false, not_false_eq_true]
end H6
