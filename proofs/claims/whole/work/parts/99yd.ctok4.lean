/-! tokens of the class: a whole tape -/
section U8
variable {sc : Scr} {d : Nat}
theorem TpC.fr {σ τ : St} {n : Int} (T : TpC σ n) (h : FtC σ τ) : TpC τ n := by
  unfold TpC
  rw [h 86 (by omega)]
  exact T
set_option maxHeartbeats 1000000 in
theorem l_scan {n : Int} (hd : 3 ≤ d) : ∀ (k : Nat) (p : Int) (j : Int) (σ : St) (L : List Ps) (l5 : Option V), notL l5 = true → TpC σ n → TkI L σ → 0 ≤ p → p ≤ n → n - p ≤ k → (L.length : Int) ≤ p → 0 ≤ j → j ≤ p →
    ∃ τ, FtC σ τ ∧ τ 89 1 = σ 89 1 ∧ TkI (L ++ tkL (σ 86) n (k + 1) p) τ ∧ ∀ (u : Bool × Nat × Nat × Int) (Q : Rs → HS → Prop), Ex sc d 26 15 [some (vR 89), some (vR 86), some (vI n), some (vI p), some (vI j), l5] [] (wH σ u) Q ↔ Q (.inl none) (wH τ u) := by
  intro k
  have last : ∀ (k : Nat) (j : Int) (σ : St) (L : List Ps) (l5 : Option V), TpC σ n → TkI L σ → (L.length : Int) ≤ n → 0 ≤ j → j ≤ n →
      ∃ τ, FtC σ τ ∧ τ 89 1 = σ 89 1 ∧ TkI (L ++ tkL (σ 86) n (k + 1) n) τ ∧ ∀ (u : Bool × Nat × Nat × Int) (Q : Rs → HS → Prop), Ex sc d 26 15 [some (vR 89), some (vR 86), some (vI n), some (vI n), some (vI j), l5] [] (wH σ u) Q ↔ Q (.inl none) (wH τ u) := by
    intro k j σ L l5 T H hl j0 jn
    have t0 := T.1
    rw [tkL, nx_end, if_pos rfl]
    obtain ⟨τ, a1, a2, a3, a4⟩ := s_append (sc := sc) (d := d - 1) (σ := σ) (s := ((0, n, n) : Ps)) (k := 0) (v := 0) (p := n) H (by omega) (by dsimp only; decide) (by dsimp only; decide) rfl
    refine ⟨τ, a1, a2, a3, fun u Q => ?_⟩
    rw [x26_15]
    unfold RnA at a4
    by_cases hj : j < n
    · simp (disch := first | assumption | omega | exact notL_I | exact notL_N | exact notL_R | exact catS_le (Nat.le_of_ble_eq_true rfl) | exact Nat.le_of_ble_eq_true rfl | exact ooRo (by assumption) | exact ooAt (by assumption) | exact ooRu (by assumption) | exact ooLo (by assumption) | exact ooHa (by assumption) | exact ooLe (by assumption) | exact ooFn | exact ooAn | exact ooPa | exact ooTo | exact ooWa | exact ooCh | rfl) only [x26_0, x26_1, x26_2, x26_5, x26_6, x26_7, x26_10, x26_11, x26_12, x26_13, x26_17, x26_18, x26_21, x26_22, x26_23, x26_26, x26_27, x26_28, x26_29, x26_31, x26_33, x26_35, x26_38, x26_40, x26_42, x26_45, x26_48, x26_51, x26_53, x26_56, x26_59, x26_60, x26_61, x26_62, x26_63, x26_66, x26_67, x26_70, x26_72, x26_75, x26_78, x26_79, x26_80, x26_81, x26_82, x26_85, x26_86, x26_89, x26_91, x26_93, x26_96, x26_97, x26_98, x26_99, x26_100, x26_103, x26_104, x26_105, x26_106, x26_107, x26_108, x26_110, x26_113, x26_114, x26_116, x26_117, x26_118, x26_121, x26_124, x26_127, x26_128, x26_130, x26_133, x26_134, x26_135, x26_138, x26_141, x26_144, x26_147, x26_148, x26_149, x26_150, x26_151, x26_154, a4, Kc_none, if_pos, if_neg, ↓reduceIte, not_true_eq_false, not_false_eq_true]
    · simp (disch := first | assumption | omega | exact notL_I | exact notL_N | exact notL_R | exact catS_le (Nat.le_of_ble_eq_true rfl) | exact Nat.le_of_ble_eq_true rfl | exact ooRo (by assumption) | exact ooAt (by assumption) | exact ooRu (by assumption) | exact ooLo (by assumption) | exact ooHa (by assumption) | exact ooLe (by assumption) | exact ooFn | exact ooAn | exact ooPa | exact ooTo | exact ooWa | exact ooCh | rfl) only [x26_0, x26_1, x26_2, x26_5, x26_6, x26_7, x26_10, x26_11, x26_12, x26_13, x26_17, x26_18, x26_21, x26_22, x26_23, x26_26, x26_27, x26_28, x26_29, x26_31, x26_33, x26_35, x26_38, x26_40, x26_42, x26_45, x26_48, x26_51, x26_53, x26_56, x26_59, x26_60, x26_61, x26_62, x26_63, x26_66, x26_67, x26_70, x26_72, x26_75, x26_78, x26_79, x26_80, x26_81, x26_82, x26_85, x26_86, x26_89, x26_91, x26_93, x26_96, x26_97, x26_98, x26_99, x26_100, x26_103, x26_104, x26_105, x26_106, x26_107, x26_108, x26_110, x26_113, x26_114, x26_116, x26_117, x26_118, x26_121, x26_124, x26_127, x26_128, x26_130, x26_133, x26_134, x26_135, x26_138, x26_141, x26_144, x26_147, x26_148, x26_149, x26_150, x26_151, x26_154, a4, Kc_none, if_pos, if_neg, ↓reduceIte, not_true_eq_false, not_false_eq_true]
  induction k with
  | zero =>
    intro p j σ L l5 h5 T H p0 p1 hk hl j0 jp
    obtain rfl : p = n := by omega
    exact last 0 j σ L l5 T H hl j0 jp
  | succ k ih =>
    intro p j σ L l5 h5 T H p0 p1 hk hl j0 jp
    have t0 := T.1
    by_cases hp : p = n
    · subst hp
      exact last (k + 1) j σ L l5 T H hl j0 jp
    · have hpn : p < n := by omega
      have t := T.2 p p0 (by omega)
      -- a token, then the rest
      have go : ∀ (τ : St), FtC σ τ → τ 89 1 = σ 89 1 → TkI (L ++ [tokA (σ 86) n p]) τ → isSp (σ 86 p) = false → (∀ (u : Bool × Nat × Nat × Int) (Q : Rs → HS → Prop), Ex sc d 26 15 [some (vR 89), some (vR 86), some (vI n), some (vI p), some (vI j), l5] [] (wH σ u) Q ↔ Ex sc d 26 15 [some (vR 89), some (vR 86), some (vI n), some (vI ((tokA (σ 86) n p).2.2)), some (vI (j + 1)), some (vI (σ 86 p))] [] (wH τ u) Q) →
          ∃ τ, FtC σ τ ∧ τ 89 1 = σ 89 1 ∧ TkI (L ++ tkL (σ 86) n (k + 1 + 1) p) τ ∧ ∀ (u : Bool × Nat × Nat × Int) (Q : Rs → HS → Prop), Ex sc d 26 15 [some (vR 89), some (vR 86), some (vI n), some (vI p), some (vI j), l5] [] (wH σ u) Q ↔ Q (.inl none) (wH τ u) := by
        intro τ f1 f2 f3 f4 f5
        have e := tok_e (f := σ 86) p0 p1
        rw [nx_ns hpn f4] at e
        have nz : (tokA (σ 86) n p).1 ≠ 0 := by
          intro z
          have a := e.2.2.2.2.1.mp z
          have : (tokA (σ 86) n p).2.1 = p := by
            unfold tokA
            rw [if_neg (by omega)]
            repeat' split
            all_goals rfl
          omega
        have q := e.2.2.2.2.2 nz
        obtain ⟨ρ, b1, b2, b3, b4⟩ := ih (tokA (σ 86) n p).2.2 (j + 1) τ (L ++ [tokA (σ 86) n p]) (some (vI (σ 86 p))) notL_I (T.fr f1) f3 (by omega) (by omega) (by omega) (by rw [List.length_append, List.length_singleton]; omega) (by omega) (by omega)
        refine ⟨ρ, f1.trans b1, b2.trans f2, ?_, fun u Q => (f5 u Q).trans (b4 u Q)⟩
        rw [f1 86 (by omega), List.append_assoc, List.singleton_append] at b3
        rw [tkL, nx_ns hpn f4, if_neg nz]
        exact b3
      by_cases hs : isSp (σ 86 p) = true
      · obtain ⟨τ, a1, a2, a3, a4⟩ := ih (p + 1) (j + 1) σ L (some (vI (σ 86 p))) notL_I T H (by omega) (by omega) (by omega) (by omega) (by omega) (by omega)
        refine ⟨τ, a1, a2, ?_, fun u Q => ?_⟩
        · rw [tkL_sp hpn hs, tkL_more (k + 1) (k + 1 + 1) (p + 1) (by omega) (by omega) (by omega) (by omega)]
          exact a3
        · rw [isSp_n] at hs
          rw [← a4 u Q, x26_15]
          rcases hs with hs | hs
          · simp (disch := first | assumption | omega | exact notL_I | exact notL_N | exact notL_R | exact catS_le (Nat.le_of_ble_eq_true rfl) | exact Nat.le_of_ble_eq_true rfl | exact ooRo (by assumption) | exact ooAt (by assumption) | exact ooRu (by assumption) | exact ooLo (by assumption) | exact ooHa (by assumption) | exact ooLe (by assumption) | exact ooFn | exact ooAn | exact ooPa | exact ooTo | exact ooWa | exact ooCh | rfl) only [x26_0, x26_1, x26_2, x26_5, x26_6, x26_7, x26_10, x26_11, x26_12, x26_13, x26_17, x26_18, x26_21, x26_22, x26_23, x26_26, x26_27, x26_28, x26_29, x26_31, x26_33, x26_35, x26_38, x26_40, x26_42, x26_45, x26_48, x26_51, x26_53, x26_56, x26_59, x26_60, x26_61, x26_62, x26_63, x26_66, x26_67, x26_70, x26_72, x26_75, x26_78, x26_79, x26_80, x26_81, x26_82, x26_85, x26_86, x26_89, x26_91, x26_93, x26_96, x26_97, x26_98, x26_99, x26_100, x26_103, x26_104, x26_105, x26_106, x26_107, x26_108, x26_110, x26_113, x26_114, x26_116, x26_117, x26_118, x26_121, x26_124, x26_127, x26_128, x26_130, x26_133, x26_134, x26_135, x26_138, x26_141, x26_144, x26_147, x26_148, x26_149, x26_150, x26_151, x26_154, RCh_tape, hs, if_pos, if_neg, ↓reduceIte, not_true_eq_false, not_false_eq_true]
          · simp (disch := first | assumption | omega | exact notL_I | exact notL_N | exact notL_R | exact catS_le (Nat.le_of_ble_eq_true rfl) | exact Nat.le_of_ble_eq_true rfl | exact ooRo (by assumption) | exact ooAt (by assumption) | exact ooRu (by assumption) | exact ooLo (by assumption) | exact ooHa (by assumption) | exact ooLe (by assumption) | exact ooFn | exact ooAn | exact ooPa | exact ooTo | exact ooWa | exact ooCh | rfl) only [x26_0, x26_1, x26_2, x26_5, x26_6, x26_7, x26_10, x26_11, x26_12, x26_13, x26_17, x26_18, x26_21, x26_22, x26_23, x26_26, x26_27, x26_28, x26_29, x26_31, x26_33, x26_35, x26_38, x26_40, x26_42, x26_45, x26_48, x26_51, x26_53, x26_56, x26_59, x26_60, x26_61, x26_62, x26_63, x26_66, x26_67, x26_70, x26_72, x26_75, x26_78, x26_79, x26_80, x26_81, x26_82, x26_85, x26_86, x26_89, x26_91, x26_93, x26_96, x26_97, x26_98, x26_99, x26_100, x26_103, x26_104, x26_105, x26_106, x26_107, x26_108, x26_110, x26_113, x26_114, x26_116, x26_117, x26_118, x26_121, x26_124, x26_127, x26_128, x26_130, x26_133, x26_134, x26_135, x26_138, x26_141, x26_144, x26_147, x26_148, x26_149, x26_150, x26_151, x26_154, RCh_tape, hs, if_pos, if_neg, ↓reduceIte, not_true_eq_false, not_false_eq_true]
      · have hs' : isSp (σ 86 p) = false := by cases h : isSp (σ 86 p) with | false => rfl | true => exact absurd h hs
        have hs2 : ¬ (σ 86 p = 32 ∨ σ 86 p = 10) := fun z => hs (isSp_n.mpr z)
        have il := fun u Q => s_letC (sc := sc) (σ := σ) (d := d - 1) (u := u) (Q := Q) (c := σ 86 p) t
        have idg := fun u Q => s_digC (sc := sc) (σ := σ) (d := d - 1) (u := u) (Q := Q) (c := σ 86 p) t
        cases hL : isLt (σ 86 p) with
        | true =>
          rw [hL, bI_t] at il
          obtain ⟨τ, a1, a2, a3, a4⟩ := s_scanL (sc := sc) (d := d - 1) (by omega) T p0 hpn hL H (by omega)
          refine go τ a1 a2 a3 hs' (fun u Q => ?_)
          rw [x26_15]
          unfold RnA at a4
          simp (disch := first | assumption | omega | exact notL_I | exact notL_N | exact notL_R | exact catS_le (Nat.le_of_ble_eq_true rfl) | exact Nat.le_of_ble_eq_true rfl | exact ooRo (by assumption) | exact ooAt (by assumption) | exact ooRu (by assumption) | exact ooLo (by assumption) | exact ooHa (by assumption) | exact ooLe (by assumption) | exact ooFn | exact ooAn | exact ooPa | exact ooTo | exact ooWa | exact ooCh | rfl) only [x26_0, x26_1, x26_2, x26_5, x26_6, x26_7, x26_10, x26_11, x26_12, x26_13, x26_17, x26_18, x26_21, x26_22, x26_23, x26_26, x26_27, x26_28, x26_29, x26_31, x26_33, x26_35, x26_38, x26_40, x26_42, x26_45, x26_48, x26_51, x26_53, x26_56, x26_59, x26_60, x26_61, x26_62, x26_63, x26_66, x26_67, x26_70, x26_72, x26_75, x26_78, x26_79, x26_80, x26_81, x26_82, x26_85, x26_86, x26_89, x26_91, x26_93, x26_96, x26_97, x26_98, x26_99, x26_100, x26_103, x26_104, x26_105, x26_106, x26_107, x26_108, x26_110, x26_113, x26_114, x26_116, x26_117, x26_118, x26_121, x26_124, x26_127, x26_128, x26_130, x26_133, x26_134, x26_135, x26_138, x26_141, x26_144, x26_147, x26_148, x26_149, x26_150, x26_151, x26_154, RCh_tape, il, a4, Kc_some, if_pos, if_neg, ↓reduceIte, not_true_eq_false, not_false_eq_true]
        | false =>
          rw [hL, bI_f] at il
          cases hD : isDg (σ 86 p) with
          | true =>
            rw [hD, bI_t] at idg
            obtain ⟨τ, a1, a2, a3, a4⟩ := s_scanD (sc := sc) (d := d - 1) (by omega) T p0 hpn hL hD H (by omega)
            refine go τ a1 a2 a3 hs' (fun u Q => ?_)
            rw [x26_15]
            unfold RnA at a4
            simp (disch := first | assumption | omega | exact notL_I | exact notL_N | exact notL_R | exact catS_le (Nat.le_of_ble_eq_true rfl) | exact Nat.le_of_ble_eq_true rfl | exact ooRo (by assumption) | exact ooAt (by assumption) | exact ooRu (by assumption) | exact ooLo (by assumption) | exact ooHa (by assumption) | exact ooLe (by assumption) | exact ooFn | exact ooAn | exact ooPa | exact ooTo | exact ooWa | exact ooCh | rfl) only [x26_0, x26_1, x26_2, x26_5, x26_6, x26_7, x26_10, x26_11, x26_12, x26_13, x26_17, x26_18, x26_21, x26_22, x26_23, x26_26, x26_27, x26_28, x26_29, x26_31, x26_33, x26_35, x26_38, x26_40, x26_42, x26_45, x26_48, x26_51, x26_53, x26_56, x26_59, x26_60, x26_61, x26_62, x26_63, x26_66, x26_67, x26_70, x26_72, x26_75, x26_78, x26_79, x26_80, x26_81, x26_82, x26_85, x26_86, x26_89, x26_91, x26_93, x26_96, x26_97, x26_98, x26_99, x26_100, x26_103, x26_104, x26_105, x26_106, x26_107, x26_108, x26_110, x26_113, x26_114, x26_116, x26_117, x26_118, x26_121, x26_124, x26_127, x26_128, x26_130, x26_133, x26_134, x26_135, x26_138, x26_141, x26_144, x26_147, x26_148, x26_149, x26_150, x26_151, x26_154, RCh_tape, il, idg, a4, Kc_some, if_pos, if_neg, ↓reduceIte, not_true_eq_false, not_false_eq_true]
          | false =>
            rw [hD, bI_f] at idg
            by_cases ha : σ 86 p = 45 ∧ chT (σ 86) n (p + 1) = 62
            · have et : tokA (σ 86) n p = (6, p, p + 2) := by
                unfold tokA
                rw [if_neg (by omega), if_neg (by rw [hL]; simp), if_neg (by rw [hD]; simp), if_pos ha]
              obtain ⟨τ, a1, a2, a3, a4⟩ := s_append (sc := sc) (d := d - 1) (σ := σ) (s := ((6, p, p + 2) : Ps)) (k := 15) (v := 0) (p := p) H (by omega) (by dsimp only; decide) (by dsimp only; decide) rfl
              rw [← et] at a3
              refine go τ a1 a2 a3 hs' (fun u Q => ?_)
              obtain ⟨ha1, ha2⟩ := ha
              unfold chT at ha2
              have hp1 : p + 1 < n := by
                by_cases c : p + 1 < n
                · exact c
                · rw [if_neg c] at ha2
                  omega
              rw [if_pos hp1] at ha2
              rw [x26_15, et]
              unfold RnA at a4
              simp (disch := first | assumption | omega | exact notL_I | exact notL_N | exact notL_R | exact catS_le (Nat.le_of_ble_eq_true rfl) | exact Nat.le_of_ble_eq_true rfl | exact ooRo (by assumption) | exact ooAt (by assumption) | exact ooRu (by assumption) | exact ooLo (by assumption) | exact ooHa (by assumption) | exact ooLe (by assumption) | exact ooFn | exact ooAn | exact ooPa | exact ooTo | exact ooWa | exact ooCh | rfl) only [x26_0, x26_1, x26_2, x26_5, x26_6, x26_7, x26_10, x26_11, x26_12, x26_13, x26_17, x26_18, x26_21, x26_22, x26_23, x26_26, x26_27, x26_28, x26_29, x26_31, x26_33, x26_35, x26_38, x26_40, x26_42, x26_45, x26_48, x26_51, x26_53, x26_56, x26_59, x26_60, x26_61, x26_62, x26_63, x26_66, x26_67, x26_70, x26_72, x26_75, x26_78, x26_79, x26_80, x26_81, x26_82, x26_85, x26_86, x26_89, x26_91, x26_93, x26_96, x26_97, x26_98, x26_99, x26_100, x26_103, x26_104, x26_105, x26_106, x26_107, x26_108, x26_110, x26_113, x26_114, x26_116, x26_117, x26_118, x26_121, x26_124, x26_127, x26_128, x26_130, x26_133, x26_134, x26_135, x26_138, x26_141, x26_144, x26_147, x26_148, x26_149, x26_150, x26_151, x26_154, RCh_tape, il, idg, ha2, a4, Kc_some, Kc_none, if_pos, if_neg, ↓reduceIte, not_true_eq_false, not_false_eq_true]
            · have et : tokA (σ 86) n p = (sgK (σ 86 p), p, p + 1) := by
                unfold tokA sgK
                rw [if_neg (by omega), if_neg (by rw [hL]; simp), if_neg (by rw [hD]; simp), if_neg ha]
                split <;> rfl
              have ev : vlT (sgK (σ 86 p)) = 0 := by
                unfold sgK vlT
                repeat' split
                all_goals omega
              have sg := fun u Q => s_signK (sc := sc) (σ := σ) (d := d - 1) (u := u) (Q := Q) (c := σ 86 p) t
              obtain ⟨τ, a1, a2, a3, a4⟩ := s_append (sc := sc) (d := d - 1) (σ := σ) (s := ((sgK (σ 86 p), p, p + 1) : Ps)) (k := kdT (sgK (σ 86 p))) (v := 0) (p := p) H (by omega) rfl ev.symm rfl
              rw [← et] at a3
              refine go τ a1 a2 a3 hs' (fun u Q => ?_)
              rw [x26_15, et]
              unfold RnA at a4
              generalize kdT (sgK (σ 86 p)) = K9 at *
              by_cases h45 : σ 86 p = 45
              · by_cases hp1 : p + 1 < n
                · have t2 := T.2 (p + 1) (by omega) (by omega)
                  have ha2 : σ 86 (p + 1) ≠ 62 := fun z => ha ⟨h45, by unfold chT; rw [if_pos hp1]; exact z⟩
                  simp (disch := first | assumption | omega | exact notL_I | exact notL_N | exact notL_R | exact catS_le (Nat.le_of_ble_eq_true rfl) | exact Nat.le_of_ble_eq_true rfl | exact ooRo (by assumption) | exact ooAt (by assumption) | exact ooRu (by assumption) | exact ooLo (by assumption) | exact ooHa (by assumption) | exact ooLe (by assumption) | exact ooFn | exact ooAn | exact ooPa | exact ooTo | exact ooWa | exact ooCh | rfl) only [x26_0, x26_1, x26_2, x26_5, x26_6, x26_7, x26_10, x26_11, x26_12, x26_13, x26_17, x26_18, x26_21, x26_22, x26_23, x26_26, x26_27, x26_28, x26_29, x26_31, x26_33, x26_35, x26_38, x26_40, x26_42, x26_45, x26_48, x26_51, x26_53, x26_56, x26_59, x26_60, x26_61, x26_62, x26_63, x26_66, x26_67, x26_70, x26_72, x26_75, x26_78, x26_79, x26_80, x26_81, x26_82, x26_85, x26_86, x26_91, x26_93, x26_96, x26_97, x26_98, x26_99, x26_100, x26_103, x26_104, x26_105, x26_106, x26_107, x26_108, x26_110, x26_113, x26_114, x26_116, x26_117, x26_118, x26_121, x26_124, x26_127, x26_128, x26_130, x26_133, x26_134, x26_135, x26_138, x26_141, x26_144, x26_147, x26_148, x26_149, x26_150, x26_151, x26_154, RCh_tape, il, idg, Kc_some, if_pos, if_neg, ↓reduceIte, not_true_eq_false, not_false_eq_true]
                  rw [x26_89]
                  simp (disch := first | assumption | omega | exact notL_I | exact notL_N | exact notL_R | exact catS_le (Nat.le_of_ble_eq_true rfl) | exact Nat.le_of_ble_eq_true rfl | exact ooRo (by assumption) | exact ooAt (by assumption) | exact ooRu (by assumption) | exact ooLo (by assumption) | exact ooHa (by assumption) | exact ooLe (by assumption) | exact ooFn | exact ooAn | exact ooPa | exact ooTo | exact ooWa | exact ooCh | rfl) only [x26_0, x26_1, x26_2, x26_5, x26_6, x26_7, x26_10, x26_11, x26_12, x26_13, x26_17, x26_18, x26_21, x26_22, x26_23, x26_26, x26_27, x26_28, x26_29, x26_31, x26_33, x26_35, x26_38, x26_40, x26_42, x26_45, x26_48, x26_51, x26_53, x26_56, x26_59, x26_60, x26_61, x26_62, x26_63, x26_66, x26_67, x26_70, x26_72, x26_75, x26_78, x26_79, x26_80, x26_81, x26_82, x26_85, x26_86, x26_91, x26_93, x26_96, x26_97, x26_98, x26_99, x26_100, x26_103, x26_104, x26_105, x26_106, x26_107, x26_108, x26_110, x26_113, x26_114, x26_116, x26_117, x26_118, x26_121, x26_124, x26_127, x26_128, x26_130, x26_133, x26_134, x26_135, x26_138, x26_141, x26_144, x26_147, x26_148, x26_149, x26_150, x26_151, x26_154, RCh_tape, sg, a4, Kc_some, Kc_none, if_pos, if_neg, ↓reduceIte, not_true_eq_false, not_false_eq_true]
                · simp (disch := first | assumption | omega | exact notL_I | exact notL_N | exact notL_R | exact catS_le (Nat.le_of_ble_eq_true rfl) | exact Nat.le_of_ble_eq_true rfl | exact ooRo (by assumption) | exact ooAt (by assumption) | exact ooRu (by assumption) | exact ooLo (by assumption) | exact ooHa (by assumption) | exact ooLe (by assumption) | exact ooFn | exact ooAn | exact ooPa | exact ooTo | exact ooWa | exact ooCh | rfl) only [x26_0, x26_1, x26_2, x26_5, x26_6, x26_7, x26_10, x26_11, x26_12, x26_13, x26_17, x26_18, x26_21, x26_22, x26_23, x26_26, x26_27, x26_28, x26_29, x26_31, x26_33, x26_35, x26_38, x26_40, x26_42, x26_45, x26_48, x26_51, x26_53, x26_56, x26_59, x26_60, x26_61, x26_62, x26_63, x26_66, x26_67, x26_70, x26_72, x26_75, x26_78, x26_79, x26_80, x26_81, x26_82, x26_85, x26_86, x26_89, x26_91, x26_93, x26_96, x26_97, x26_98, x26_99, x26_100, x26_103, x26_104, x26_105, x26_106, x26_107, x26_108, x26_110, x26_113, x26_114, x26_116, x26_117, x26_118, x26_121, x26_124, x26_127, x26_128, x26_130, x26_133, x26_134, x26_135, x26_138, x26_141, x26_144, x26_147, x26_148, x26_149, x26_150, x26_151, x26_154, RCh_tape, il, idg, sg, a4, Kc_some, Kc_none, if_pos, if_neg, ↓reduceIte, not_true_eq_false, not_false_eq_true]
              · simp (disch := first | assumption | omega | exact notL_I | exact notL_N | exact notL_R | exact catS_le (Nat.le_of_ble_eq_true rfl) | exact Nat.le_of_ble_eq_true rfl | exact ooRo (by assumption) | exact ooAt (by assumption) | exact ooRu (by assumption) | exact ooLo (by assumption) | exact ooHa (by assumption) | exact ooLe (by assumption) | exact ooFn | exact ooAn | exact ooPa | exact ooTo | exact ooWa | exact ooCh | rfl) only [x26_0, x26_1, x26_2, x26_5, x26_6, x26_7, x26_10, x26_11, x26_12, x26_13, x26_17, x26_18, x26_21, x26_22, x26_23, x26_26, x26_27, x26_28, x26_29, x26_31, x26_33, x26_35, x26_38, x26_40, x26_42, x26_45, x26_48, x26_51, x26_53, x26_56, x26_59, x26_60, x26_61, x26_62, x26_63, x26_66, x26_67, x26_70, x26_72, x26_75, x26_78, x26_79, x26_80, x26_81, x26_82, x26_85, x26_86, x26_89, x26_91, x26_93, x26_96, x26_97, x26_98, x26_99, x26_100, x26_103, x26_104, x26_105, x26_106, x26_107, x26_108, x26_110, x26_113, x26_114, x26_116, x26_117, x26_118, x26_121, x26_124, x26_127, x26_128, x26_130, x26_133, x26_134, x26_135, x26_138, x26_141, x26_144, x26_147, x26_148, x26_149, x26_150, x26_151, x26_154, RCh_tape, il, idg, sg, a4, Kc_some, Kc_none, if_pos, if_neg, ↓reduceIte, not_true_eq_false, not_false_eq_true]
theorem s_scan {σ : St} {n : Int} (hd : 3 ≤ d) (T : TpC σ n) :
    ∃ τ, FtC σ τ ∧ τ 89 1 = 0 ∧ TkI (tkL (σ 86) n 1001 0) τ ∧ RnA sc d 26 0 [some (vR 89), some (vR 86), some (vI n), none, none, none] σ none τ := by
  have t0 := T.1
  have F0 : FtC σ (su (su σ 89 0 0) 89 1 0) := (FtC.su_ (by omega)).trans (FtC.su_ (by omega))
  obtain ⟨τ, a1, a2, a3, a4⟩ := l_scan (sc := sc) hd 1000 0 0 (su (su σ 89 0 0) 89 1 0) [] none notL_N (T.fr F0) ⟨by rw [su_off (by omega), su_eq]; rfl, fun i s h => by cases h⟩ (by omega) (by omega) (by omega) (by show ((0 : Nat) : Int) ≤ 0; omega) (by omega) (by omega)
  rw [F0 86 (by omega), List.nil_append] at a3
  refine ⟨τ, F0.trans a1, a2.trans su_eq, a3, fun u Q => ?_⟩
  rw [← a4 u Q]
  simp (disch := first | assumption | omega | exact notL_I | exact notL_N | exact notL_R | exact catS_le (Nat.le_of_ble_eq_true rfl) | exact Nat.le_of_ble_eq_true rfl | exact ooRo (by assumption) | exact ooAt (by assumption) | exact ooRu (by assumption) | exact ooLo (by assumption) | exact ooHa (by assumption) | exact ooLe (by assumption) | exact ooFn | exact ooAn | exact ooPa | exact ooTo | exact ooWa | exact ooCh | rfl) only [x26_0, x26_1, x26_2, x26_5, x26_6, x26_7, x26_10, x26_11, x26_12, x26_13, x26_17, x26_18, x26_21, x26_22, x26_23, x26_26, x26_27, x26_28, x26_29, x26_31, x26_33, x26_35, x26_38, x26_40, x26_42, x26_45, x26_48, x26_51, x26_53, x26_56, x26_59, x26_60, x26_61, x26_62, x26_63, x26_66, x26_67, x26_70, x26_72, x26_75, x26_78, x26_79, x26_80, x26_81, x26_82, x26_85, x26_86, x26_89, x26_91, x26_93, x26_96, x26_97, x26_98, x26_99, x26_100, x26_103, x26_104, x26_105, x26_106, x26_107, x26_108, x26_110, x26_113, x26_114, x26_116, x26_117, x26_118, x26_121, x26_124, x26_127, x26_128, x26_130, x26_133, x26_134, x26_135, x26_138, x26_141, x26_144, x26_147, x26_148, x26_149, x26_150, x26_151, x26_154, pTo_count, pTo_at]
end U8
