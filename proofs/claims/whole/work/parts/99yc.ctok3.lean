/-! tokens of the class: numbers, all -/
section U7
variable {sc : Scr} {d : Nat} {σ : St}
/-- the value of digits, on and on -/
def dgG (f : Int → Int) (q : Int) : Nat → Int
  | 0 => 0
  | m + 1 => dgG f q m * 10 + f (q + m) - 48
theorem l_scD {n q : Int} (hd : 1 ≤ d) (q0 : 0 ≤ q) (T : TpC σ n) : ∀ (k m : Nat), q + m + k = n →
    ∃ m' : Nat, q + (m' : Int) = spanF (fun k => isDg (chT (σ 86) n k)) k (q + m) ∧ ∀ (u : Bool × Nat × Nat × Int) (Q : Rs → HS → Prop), Ex sc d 33 6 [some (vR 89), some (vR 86), some (vI n), some (vI q), some (vI (q + m)), some (vI (dgG (σ 86) q m)), none] [] (wH σ u) Q ↔ Ex sc d 33 43 [some (vR 89), some (vR 86), some (vI n), some (vI q), some (vI (q + m')), some (vI (dgG (σ 86) q m')), none] [] (wH σ u) Q := by
  intro k
  have t0 := T.1
  induction k with
  | zero =>
    intro m he
    refine ⟨m, rfl, fun u Q => ?_⟩
    rw [x33_6]
    simp (disch := first | assumption | omega | exact notL_I | exact notL_N | exact notL_R | exact catS_le (Nat.le_of_ble_eq_true rfl) | exact Nat.le_of_ble_eq_true rfl | exact ooRo (by assumption) | exact ooAt (by assumption) | exact ooRu (by assumption) | exact ooLo (by assumption) | exact ooHa (by assumption) | exact ooLe (by assumption) | exact ooFn | exact ooAn | exact ooPa | exact ooTo | exact ooWa | exact ooCh | rfl) only [x33_0, x33_1, x33_3, x33_4, x33_8, x33_9, x33_12, x33_13, x33_15, x33_16, x33_19, x33_22, x33_24, x33_26, x33_27, x33_28, x33_30, x33_31, x33_32, x33_34, x33_35, x33_37, x33_40, x33_45, x33_46, x33_47, x33_48, x33_51, x33_53, x33_54, x33_57, x33_58, x33_60, x33_61, x33_64, x33_67, x33_68, x33_71, x33_72, x33_74, x33_75, x33_77, x33_80, x33_82, x33_85, x33_86, x33_88, x33_91, x33_93, x33_96, x33_97, x33_98, x33_101, x33_103, if_pos, if_neg, ↓reduceIte, not_true_eq_false, not_false_eq_true]
  | succ k ih =>
    intro m he
    have t := T.2 (q + m) (by omega) (by omega)
    have il := fun u Q => s_digC (sc := sc) (σ := σ) (d := d - 1) (u := u) (Q := Q) (c := σ 86 (q + m)) t
    have ec : chT (σ 86) n (q + m) = σ 86 (q + m) := by unfold chT; rw [if_pos (by omega)]
    have em : q + (m : Int) + 1 = q + ((m + 1 : Nat) : Int) := by omega
    rw [spanF, ec]
    cases h : isDg (σ 86 (q + m)) with
    | true =>
      rw [if_pos rfl, em]
      obtain ⟨m', a1, a2⟩ := ih (m + 1) (by omega)
      refine ⟨m', a1, fun u Q => ?_⟩
      rw [← a2 u Q, x33_6, dgG]
      rw [h, bI_t] at il
      simp (disch := first | assumption | omega | exact notL_I | exact notL_N | exact notL_R | exact catS_le (Nat.le_of_ble_eq_true rfl) | exact Nat.le_of_ble_eq_true rfl | exact ooRo (by assumption) | exact ooAt (by assumption) | exact ooRu (by assumption) | exact ooLo (by assumption) | exact ooHa (by assumption) | exact ooLe (by assumption) | exact ooFn | exact ooAn | exact ooPa | exact ooTo | exact ooWa | exact ooCh | rfl) only [x33_0, x33_1, x33_3, x33_4, x33_8, x33_9, x33_12, x33_13, x33_15, x33_16, x33_19, x33_22, x33_24, x33_26, x33_27, x33_28, x33_30, x33_31, x33_32, x33_34, x33_35, x33_37, x33_40, x33_45, x33_46, x33_47, x33_48, x33_51, x33_53, x33_54, x33_57, x33_58, x33_60, x33_61, x33_64, x33_67, x33_68, x33_71, x33_72, x33_74, x33_75, x33_77, x33_80, x33_82, x33_85, x33_86, x33_88, x33_91, x33_93, x33_96, x33_97, x33_98, x33_101, x33_103, RCh_tape, il, em, Kc_some, if_pos, if_neg, ↓reduceIte, not_true_eq_false, not_false_eq_true]
    | false =>
      rw [if_neg (by simp)]
      refine ⟨m, rfl, fun u Q => ?_⟩
      rw [h, bI_f] at il
      rw [x33_6]
      simp (disch := first | assumption | omega | exact notL_I | exact notL_N | exact notL_R | exact catS_le (Nat.le_of_ble_eq_true rfl) | exact Nat.le_of_ble_eq_true rfl | exact ooRo (by assumption) | exact ooAt (by assumption) | exact ooRu (by assumption) | exact ooLo (by assumption) | exact ooHa (by assumption) | exact ooLe (by assumption) | exact ooFn | exact ooAn | exact ooPa | exact ooTo | exact ooWa | exact ooCh | rfl) only [x33_0, x33_1, x33_3, x33_4, x33_8, x33_9, x33_12, x33_13, x33_15, x33_16, x33_19, x33_22, x33_24, x33_26, x33_27, x33_28, x33_30, x33_31, x33_32, x33_34, x33_35, x33_37, x33_40, x33_45, x33_46, x33_47, x33_48, x33_51, x33_53, x33_54, x33_57, x33_58, x33_60, x33_61, x33_64, x33_67, x33_68, x33_71, x33_72, x33_74, x33_75, x33_77, x33_80, x33_82, x33_85, x33_86, x33_88, x33_91, x33_93, x33_96, x33_97, x33_98, x33_101, x33_103, RCh_tape, il, Kc_some, if_pos, if_neg, ↓reduceIte, not_true_eq_false, not_false_eq_true]
theorem s_scanD {n q : Int} {L : List Ps} (hd : 2 ≤ d) (T : TpC σ n) (q0 : 0 ≤ q) (q1 : q < n) (hn : isLt (σ 86 q) = false) (hq : isDg (σ 86 q) = true) (H : TkI L σ) (hl : L.length < 1001) :
    ∃ τ, FtC σ τ ∧ τ 89 1 = σ 89 1 ∧ TkI (L ++ [tokA (σ 86) n q]) τ ∧ RnA sc d 33 0 [some (vR 89), some (vR 86), some (vI n), some (vI q), none, none, none] σ (some (vI (tokA (σ 86) n q).2.2)) τ := by
  have t0 := T.1
  have t := T.2 q q0 (by omega)
  obtain ⟨m, lm, lp⟩ := l_scD (sc := sc) (d := d) (σ := σ) (q := q) (by omega) q0 T (n - q).toNat 0 (by omega)
  have z : q + ((0 : Nat) : Int) = q := by omega
  have es : spanF (fun k => isDg (chT (σ 86) n k)) (n - q).toNat q = spn (σ 86) n isDg q := rfl
  rw [z] at lp lm
  rw [es] at lm
  have sv := spn_v (f := σ 86) (n := n) (p := q) (q := isDg) (by omega)
  have t1 : q < spn (σ 86) n isDg q := by
    by_cases e : spn (σ 86) n isDg q = q
    · have := sv.2.2.2 (by omega)
      rw [e, hq] at this
      cases this
    · omega
  have sd := fun h => sv.2.2.1 (q + 1) (by omega) h
  have et : tokA (σ 86) n q = (numK (σ 86) n q (spn (σ 86) n isDg q), q, spn (σ 86) n isDg q) := by
    unfold tokA
    rw [if_neg (by omega), if_neg (by rw [hn]; simp), if_pos hq]
  rw [et]
  clear et
  rw [lm.symm] at *
  have ent : ∀ (u : Bool × Nat × Nat × Int) (Q : Rs → HS → Prop), Ex sc d 33 0 [some (vR 89), some (vR 86), some (vI n), some (vI q), none, none, none] [] (wH σ u) Q ↔ Ex sc d 33 43 [some (vR 89), some (vR 86), some (vI n), some (vI q), some (vI (q + m)), some (vI (dgG (σ 86) q m)), none] [] (wH σ u) Q := by
    intro u Q
    rw [← lp u Q]
    simp (disch := first | assumption | omega | exact notL_I | exact notL_N | exact notL_R | exact catS_le (Nat.le_of_ble_eq_true rfl) | exact Nat.le_of_ble_eq_true rfl | exact ooRo (by assumption) | exact ooAt (by assumption) | exact ooRu (by assumption) | exact ooLo (by assumption) | exact ooHa (by assumption) | exact ooLe (by assumption) | exact ooFn | exact ooAn | exact ooPa | exact ooTo | exact ooWa | exact ooCh | rfl) only [x33_0, x33_1, x33_3, x33_4, x33_8, x33_9, x33_12, x33_13, x33_15, x33_16, x33_19, x33_22, x33_24, x33_26, x33_27, x33_28, x33_30, x33_31, x33_32, x33_34, x33_35, x33_37, x33_40, x33_45, x33_46, x33_47, x33_48, x33_51, x33_53, x33_54, x33_57, x33_58, x33_60, x33_61, x33_64, x33_67, x33_68, x33_71, x33_72, x33_74, x33_75, x33_77, x33_80, x33_82, x33_85, x33_86, x33_88, x33_91, x33_93, x33_96, x33_97, x33_98, x33_101, x33_103]
    rfl
  rw [isDg_n] at hq
  have lt : ∀ h : q + (m : Int) < n, ∀ (u : Bool × Nat × Nat × Int) (Q : Rs → HS → Prop), Ex sc (d - 1) 27 0 [some (vI (σ 86 (q + m)))] [] (wH σ u) Q ↔ Q (.inl (some (vI (bI (isLt (σ 86 (q + m))))))) (wH σ u) := fun h u Q => s_letC (sc := sc) (σ := σ) (d := d - 1) (u := u) (Q := Q) (c := σ 86 (q + m)) (T.2 _ (by omega) (by omega))
  have no : numK (σ 86) n q (q + m) = 1 → (∀ (u : Bool × Nat × Nat × Int) (Q : Rs → HS → Prop), Ex sc d 33 43 [some (vR 89), some (vR 86), some (vI n), some (vI q), some (vI (q + m)), some (vI (dgG (σ 86) q m)), none] [] (wH σ u) Q ↔ Ex sc d 33 71 [some (vR 89), some (vR 86), some (vI n), some (vI q), some (vI (q + m)), some (vI (dgG (σ 86) q m)), none] [] (wH σ u) Q) → ∃ τ, FtC σ τ ∧ τ 89 1 = σ 89 1 ∧ TkI (L ++ [(numK (σ 86) n q (q + m), q, q + (m : Int))]) τ ∧ RnA sc d 33 0 [some (vR 89), some (vR 86), some (vI n), some (vI q), none, none, none] σ (some (vI (q + m))) τ := by
    intro e h
    rw [e]
    obtain ⟨τ, a1, a2, a3, a4⟩ := s_append (sc := sc) (d := d - 1) (σ := σ) (s := ((1, q, q + (m : Int)) : Ps)) (k := 1) (v := 0) (p := q) H hl (by dsimp only; decide) (by dsimp only; decide) rfl
    refine ⟨τ, a1, a2, a3, fun u Q => ?_⟩
    rw [ent u Q, h u Q, x33_71]
    unfold RnA at a4
    simp (disch := first | assumption | omega | exact notL_I | exact notL_N | exact notL_R | exact catS_le (Nat.le_of_ble_eq_true rfl) | exact Nat.le_of_ble_eq_true rfl | exact ooRo (by assumption) | exact ooAt (by assumption) | exact ooRu (by assumption) | exact ooLo (by assumption) | exact ooHa (by assumption) | exact ooLe (by assumption) | exact ooFn | exact ooAn | exact ooPa | exact ooTo | exact ooWa | exact ooCh | rfl) only [x33_0, x33_1, x33_3, x33_4, x33_8, x33_9, x33_12, x33_13, x33_15, x33_16, x33_19, x33_22, x33_24, x33_26, x33_27, x33_28, x33_30, x33_31, x33_32, x33_34, x33_35, x33_37, x33_40, x33_45, x33_46, x33_47, x33_48, x33_51, x33_53, x33_54, x33_57, x33_58, x33_60, x33_61, x33_64, x33_67, x33_68, x33_72, x33_74, x33_75, x33_77, x33_80, x33_82, x33_85, x33_86, x33_88, x33_91, x33_93, x33_96, x33_97, x33_98, x33_101, x33_103, a4, Kc_none, if_pos, if_neg, ↓reduceIte, not_true_eq_false, not_false_eq_true]
  by_cases h2 : (m : Int) ≤ 2
  · by_cases h3 : q + (m : Int) = n
    · have ec : chT (σ 86) n (q + m) = -1 := by unfold chT; rw [if_neg (by omega)]
      have ek : numK (σ 86) n q (q + m) = 300 + dgG (σ 86) q m := by
        unfold numK
        rw [ec, if_pos ⟨by omega, by decide⟩]
        rcases (show m = 1 ∨ m = 2 by omega) with rfl | rfl
        · rw [if_pos (by omega)]
          have : dgG (σ 86) q 1 = 0 * 10 + σ 86 (q + (0 : Nat)) - 48 := rfl
          rw [this, z]
          omega
        · rw [if_neg (by omega)]
          have : dgG (σ 86) q 2 = (0 * 10 + σ 86 (q + (0 : Nat)) - 48) * 10 + σ 86 (q + (1 : Nat)) - 48 := rfl
          rw [this, z, show ((1 : Nat) : Int) = 1 from rfl]
          omega
      have eb : 0 ≤ dgG (σ 86) q m ∧ dgG (σ 86) q m ≤ 99 := by
        rcases (show m = 1 ∨ m = 2 by omega) with rfl | rfl
        · have : dgG (σ 86) q 1 = 0 * 10 + σ 86 (q + (0 : Nat)) - 48 := rfl
          rw [this, z]
          omega
        · have e2 : dgG (σ 86) q 2 = (0 * 10 + σ 86 (q + (0 : Nat)) - 48) * 10 + σ 86 (q + (1 : Nat)) - 48 := rfl
          have s2 := sd (by omega)
          rw [isDg_n] at s2
          rw [e2, z, show ((1 : Nat) : Int) = 1 from rfl]
          omega
      rw [ek]
      generalize dgG (σ 86) q m = v at *
      obtain ⟨τ, a1, a2, a3, a4⟩ := s_append (sc := sc) (d := d - 1) (σ := σ) (s := ((300 + v, q, q + (m : Int)) : Ps)) (k := 8) (v := v) (p := q) H hl (by dsimp only; unfold kdT; repeat' split; all_goals omega) (by dsimp only; unfold vlT; repeat' split; all_goals omega) rfl
      refine ⟨τ, a1, a2, a3, fun u Q => ?_⟩
      rw [ent u Q, x33_43]
      unfold RnA at a4
      simp (disch := first | assumption | omega | exact notL_I | exact notL_N | exact notL_R | exact catS_le (Nat.le_of_ble_eq_true rfl) | exact Nat.le_of_ble_eq_true rfl | exact ooRo (by assumption) | exact ooAt (by assumption) | exact ooRu (by assumption) | exact ooLo (by assumption) | exact ooHa (by assumption) | exact ooLe (by assumption) | exact ooFn | exact ooAn | exact ooPa | exact ooTo | exact ooWa | exact ooCh | rfl) only [x33_0, x33_1, x33_3, x33_4, x33_8, x33_9, x33_12, x33_13, x33_15, x33_16, x33_19, x33_22, x33_24, x33_26, x33_27, x33_28, x33_30, x33_31, x33_32, x33_34, x33_35, x33_37, x33_40, x33_45, x33_46, x33_47, x33_48, x33_51, x33_53, x33_54, x33_57, x33_58, x33_60, x33_61, x33_64, x33_67, x33_68, x33_71, x33_72, x33_74, x33_75, x33_77, x33_80, x33_82, x33_85, x33_86, x33_88, x33_91, x33_93, x33_96, x33_97, x33_98, x33_101, x33_103, a4, Kc_none, if_pos, if_neg, ↓reduceIte, not_true_eq_false, not_false_eq_true]
    · have lt' := lt (by omega)
      have ec : chT (σ 86) n (q + m) = σ 86 (q + m) := by unfold chT; rw [if_pos (by omega)]
      cases h4 : isLt (σ 86 (q + m)) with
      | true =>
        rw [h4, bI_t] at lt'
        exact no (by unfold numK; rw [ec, if_neg (fun z => by rw [h4] at z; cases z.2)]) (fun u Q => by
          rw [x33_43]
          simp (disch := first | assumption | omega | exact notL_I | exact notL_N | exact notL_R | exact catS_le (Nat.le_of_ble_eq_true rfl) | exact Nat.le_of_ble_eq_true rfl | exact ooRo (by assumption) | exact ooAt (by assumption) | exact ooRu (by assumption) | exact ooLo (by assumption) | exact ooHa (by assumption) | exact ooLe (by assumption) | exact ooFn | exact ooAn | exact ooPa | exact ooTo | exact ooWa | exact ooCh | rfl) only [x33_0, x33_1, x33_3, x33_4, x33_8, x33_9, x33_12, x33_13, x33_15, x33_16, x33_19, x33_22, x33_24, x33_26, x33_27, x33_28, x33_30, x33_31, x33_32, x33_34, x33_35, x33_37, x33_40, x33_45, x33_46, x33_47, x33_48, x33_51, x33_53, x33_54, x33_57, x33_58, x33_60, x33_61, x33_64, x33_67, x33_68, x33_72, x33_74, x33_75, x33_77, x33_80, x33_82, x33_85, x33_86, x33_88, x33_91, x33_93, x33_96, x33_97, x33_98, x33_101, x33_103, RCh_tape, lt', Kc_some, if_pos, if_neg, ↓reduceIte, not_true_eq_false, not_false_eq_true])
      | false =>
        rw [h4, bI_f] at lt'
        have ek : numK (σ 86) n q (q + m) = 300 + dgG (σ 86) q m := by
          unfold numK
          rw [ec, if_pos ⟨by omega, h4⟩]
          rcases (show m = 1 ∨ m = 2 by omega) with rfl | rfl
          · rw [if_pos (by omega)]
            have : dgG (σ 86) q 1 = 0 * 10 + σ 86 (q + (0 : Nat)) - 48 := rfl
            rw [this, z]
            omega
          · rw [if_neg (by omega)]
            have : dgG (σ 86) q 2 = (0 * 10 + σ 86 (q + (0 : Nat)) - 48) * 10 + σ 86 (q + (1 : Nat)) - 48 := rfl
            rw [this, z, show ((1 : Nat) : Int) = 1 from rfl]
            omega
        have eb : 0 ≤ dgG (σ 86) q m ∧ dgG (σ 86) q m ≤ 99 := by
          rcases (show m = 1 ∨ m = 2 by omega) with rfl | rfl
          · have : dgG (σ 86) q 1 = 0 * 10 + σ 86 (q + (0 : Nat)) - 48 := rfl
            rw [this, z]
            omega
          · have e2 : dgG (σ 86) q 2 = (0 * 10 + σ 86 (q + (0 : Nat)) - 48) * 10 + σ 86 (q + (1 : Nat)) - 48 := rfl
            have s2 := sd (by omega)
            rw [isDg_n] at s2
            rw [e2, z, show ((1 : Nat) : Int) = 1 from rfl]
            omega
        rw [ek]
        generalize dgG (σ 86) q m = v at *
        obtain ⟨τ, a1, a2, a3, a4⟩ := s_append (sc := sc) (d := d - 1) (σ := σ) (s := ((300 + v, q, q + (m : Int)) : Ps)) (k := 8) (v := v) (p := q) H hl (by dsimp only; unfold kdT; repeat' split; all_goals omega) (by dsimp only; unfold vlT; repeat' split; all_goals omega) rfl
        refine ⟨τ, a1, a2, a3, fun u Q => ?_⟩
        rw [ent u Q, x33_43]
        unfold RnA at a4
        simp (disch := first | assumption | omega | exact notL_I | exact notL_N | exact notL_R | exact catS_le (Nat.le_of_ble_eq_true rfl) | exact Nat.le_of_ble_eq_true rfl | exact ooRo (by assumption) | exact ooAt (by assumption) | exact ooRu (by assumption) | exact ooLo (by assumption) | exact ooHa (by assumption) | exact ooLe (by assumption) | exact ooFn | exact ooAn | exact ooPa | exact ooTo | exact ooWa | exact ooCh | rfl) only [x33_0, x33_1, x33_3, x33_4, x33_8, x33_9, x33_12, x33_13, x33_15, x33_16, x33_19, x33_22, x33_24, x33_26, x33_27, x33_28, x33_30, x33_31, x33_32, x33_34, x33_35, x33_37, x33_40, x33_45, x33_46, x33_47, x33_48, x33_51, x33_53, x33_54, x33_57, x33_58, x33_60, x33_61, x33_64, x33_67, x33_68, x33_71, x33_72, x33_74, x33_75, x33_77, x33_80, x33_82, x33_85, x33_86, x33_88, x33_91, x33_93, x33_96, x33_97, x33_98, x33_101, x33_103, RCh_tape, lt', a4, Kc_some, Kc_none, if_pos, if_neg, ↓reduceIte, not_true_eq_false, not_false_eq_true]
  · exact no (by unfold numK; rw [if_neg (fun z => by omega)]) (fun u Q => by
      rw [x33_43]
      simp (disch := first | assumption | omega | exact notL_I | exact notL_N | exact notL_R | exact catS_le (Nat.le_of_ble_eq_true rfl) | exact Nat.le_of_ble_eq_true rfl | exact ooRo (by assumption) | exact ooAt (by assumption) | exact ooRu (by assumption) | exact ooLo (by assumption) | exact ooHa (by assumption) | exact ooLe (by assumption) | exact ooFn | exact ooAn | exact ooPa | exact ooTo | exact ooWa | exact ooCh | rfl) only [x33_0, x33_1, x33_3, x33_4, x33_8, x33_9, x33_12, x33_13, x33_15, x33_16, x33_19, x33_22, x33_24, x33_26, x33_27, x33_28, x33_30, x33_31, x33_32, x33_34, x33_35, x33_37, x33_40, x33_45, x33_46, x33_47, x33_48, x33_51, x33_53, x33_54, x33_57, x33_58, x33_60, x33_61, x33_64, x33_67, x33_68, x33_72, x33_74, x33_75, x33_77, x33_80, x33_82, x33_85, x33_86, x33_88, x33_91, x33_93, x33_96, x33_97, x33_98, x33_101, x33_103, if_pos, if_neg, ↓reduceIte, not_true_eq_false, not_false_eq_true])
end U7
