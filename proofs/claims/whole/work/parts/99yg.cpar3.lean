/-! the class reads: all cells -/
theorem cells_s {nx : Int → Ps} {m : Int} {row : Bool} {k : Nat} {n : Int} {acc : List Int} {s : Ps} :
    cellsP nx m row (k + 1) n acc s = if isNm s ∨ (if row = true then s.1 = 563 else isVr s) then (if n = m then .inl (3, s.2.1) else andP (celP nx s) fun q => cellE nx m (n + 1) (acc ++ [q.1]) q.2 (cellsP nx m row k (n + 1) (acc ++ [q.1]))) else .inl (1, s.2.1) := by
  by_cases h : isNm s ∨ (if row = true then s.1 = 563 else isVr s)
  · rw [cellsP, if_pos h, if_pos h]
    by_cases h2 : n = m
    · rw [if_pos h2, if_pos h2]
    · rw [if_neg h2, if_neg h2]
      unfold celP
      by_cases h3 : s.1 = 563
      · rw [if_pos h3, if_pos h3]
        by_cases h4 : isNm (nx s.2.2)
        · rw [if_pos h4, if_pos h4, andP_r]
        · rw [if_neg h4, if_neg h4, andP_l]
      · rw [if_neg h3, if_neg h3, andP_r]
  · rw [cellsP, if_neg h, if_neg h]
section H3
variable {sc : Scr} {d : Nat} {f : Int → Int} {n : Int}
set_option maxHeartbeats 1000000 in
theorem l_cells {m : Int} {row : Bool} (hd : 3 ≤ d) (m1 : 1 ≤ m) (m3 : m ≤ 3) : ∀ (k i : Nat) (acc : List Int) (s : Ps) (σ : St), i + k = 4 → acc.length = i → (i : Int) ≤ m → PzC f n s σ → ClI acc σ → (∀ c ∈ acc, okC row c) →
    (∃ l s' τ, cellsP (nxT f n) m row k i acc s = .inr (l, s') ∧ (l.length : Int) = m ∧ Fzc σ τ ∧ PzC f n s' τ ∧ ClI l τ ∧ (∀ c ∈ l, okC row c) ∧ ∀ (u : Bool × Nat × Nat × Int) (Q : Rs → HS → Prop), Ex sc d 51 10 [some (vR 87), some (vI m), some (vI (bI row)), some (vI ((i : Int)))] [] (wH σ u) Q ↔ Q (.inl (some (vI (1)))) (wH τ u)) ∨
    (∃ e τ, cellsP (nxT f n) m row k i acc s = .inl e ∧ Fzc σ τ ∧ BdC τ e ∧ ∀ (u : Bool × Nat × Nat × Int) (Q : Rs → HS → Prop), Ex sc d 51 10 [some (vR 87), some (vI m), some (vI (bI row)), some (vI ((i : Int)))] [] (wH σ u) Q ↔ Q (.inl (some (vI (0)))) (wH τ u)) := by
  intro k
  induction k with
  | zero =>
    intro i acc s σ hi
    intro _ h
    omega
  | succ k ih =>
    intro i acc s σ hi ha him H C ok
    rw [cells_s]
    have rf := fun k u Q => s_refuse (sc := sc) (d := d - 1) (k := k) (u := u) (Q := Q) (by omega) H
    by_cases hst : isNm s ∨ (if row = true then s.1 = 563 else isVr s)
    · have st := fun u Q => s_cellSt (sc := sc) (d := d - 1) (row := row) (c := true) (u := u) (Q := Q) (by omega) H ⟨fun _ => hst, fun _ => rfl⟩
      rw [if_pos hst]
      rw [bI_t] at st
      by_cases hm : (i : Int) = m
      · rw [if_pos hm]
        refine Or.inr ⟨_, _, rfl, rf_v.1, rf_v.2, fun u Q => ?_⟩
        rw [x51_10]
        simp (disch := first | assumption | omega | exact notL_I | exact notL_N | exact notL_R | exact catS_le (Nat.le_of_ble_eq_true rfl) | exact Nat.le_of_ble_eq_true rfl | exact ooRo (by assumption) | exact ooAt (by assumption) | exact ooRu (by assumption) | exact ooLo (by assumption) | exact ooHa (by assumption) | exact ooLe (by assumption) | exact ooFn | exact ooAn | exact ooPa | exact ooTo | exact ooWa | exact ooCh | rfl) only [x51_0, x51_1, x51_4, x51_5, x51_8, x51_9, x51_11, x51_12, x51_15, x51_16, x51_17, x51_20, x51_23, x51_24, x51_25, x51_28, x51_29, x51_30, x51_31, x51_34, x51_35, x51_36, x51_39, x51_40, x51_41, x51_44, x51_45, x51_46, x51_47, x51_50, x51_53, x51_54, x51_55, x51_56, x51_59, x51_62, x51_64, x51_67, x51_68, x51_69, x51_70, x51_71, x51_74, x51_75, x51_76, x51_79, x51_82, x51_83, x51_85, x51_88, x51_89, x51_90, x51_92, x51_95, x51_98, x51_99, x51_100, x51_103, x51_106, x51_107, x51_108, x51_111, st, rf, Kc_some, if_pos, if_neg, ↓reduceIte, not_true_eq_false, not_false_eq_true]
      · rw [if_neg hm]
        have hs3 : isNm s ∨ isVr s ∨ s.1 = 563 := by
          rcases hst with h | h
          · exact Or.inl h
          · cases row with
            | true => exact Or.inr (Or.inr h)
            | false => exact Or.inr (Or.inl h)
        rcases s_readCell (sc := sc) (d := d - 1) (l := acc) (by omega) H hs3 (by omega) C with ⟨x, s1, τ, e1, e2, e3, e4, e5, e6⟩ | ⟨e, τ, e1, e3, e4, e6⟩
        · rw [e1, andP_r]
          dsimp only
          rw [ha] at e6
          unfold RnA at e6
          have okx : okC row x := by
            unfold okC
            cases row with
            | true =>
              rw [if_pos rfl]
              by_cases h5 : s.1 = 563
              · exact Or.inr (e2.1 h5)
              · have hn : isNm s := hst.elim id (fun z => absurd z h5)
                have := e2.2 h5
                have t := this.2 hn
                have p := this.1
                unfold isPl at p
                exact Or.inl ⟨by omega, t⟩
            | false =>
              rw [if_neg (by simp)]
              exact (e2.2 (fun z => by
                rcases hst with h | h
                · have := h; omega
                · have : isVr s := h
                  omega)).1
          have ok2 : ∀ c ∈ acc ++ [x], okC row c := fun c hc => (List.mem_append.mp hc).elim (ok c) (fun z => by rw [List.mem_singleton.mp z]; exact okx)
          have kd1 := fun u Q => s_kind (sc := sc) (d := d - 1) (u := u) (Q := Q) e4
          have rf1 := fun k u Q => s_refuse (sc := sc) (d := d - 1) (k := k) (u := u) (Q := Q) (by omega) e4
          have ki := kd_iff e4.ok.1
          have k10 := ki.2.2.2.2.2.2.2.2.2.2.1
          have k11 := ki.2.2.2.2.2.2.2.2.2.2.2.1
          have kb := ki.1
          unfold cellE
          by_cases h541 : s1.1 = 541
          · rw [if_neg (by omega), if_pos h541]
            have kk := k10.mpr h541
            by_cases hlt : (i : Int) + 1 < m
            · rw [if_pos hlt]
              refine Or.inr ⟨_, _, rfl, e3.trans rf_v.1, rf_v.2, fun u Q => ?_⟩
              rw [x51_10]
              simp (disch := first | assumption | omega | exact notL_I | exact notL_N | exact notL_R | exact catS_le (Nat.le_of_ble_eq_true rfl) | exact Nat.le_of_ble_eq_true rfl | exact ooRo (by assumption) | exact ooAt (by assumption) | exact ooRu (by assumption) | exact ooLo (by assumption) | exact ooHa (by assumption) | exact ooLe (by assumption) | exact ooFn | exact ooAn | exact ooPa | exact ooTo | exact ooWa | exact ooCh | rfl) only [x51_0, x51_1, x51_4, x51_5, x51_8, x51_9, x51_11, x51_12, x51_15, x51_16, x51_17, x51_20, x51_23, x51_24, x51_25, x51_28, x51_29, x51_30, x51_31, x51_34, x51_35, x51_36, x51_39, x51_40, x51_41, x51_44, x51_45, x51_46, x51_47, x51_50, x51_53, x51_54, x51_55, x51_56, x51_59, x51_62, x51_64, x51_67, x51_68, x51_69, x51_70, x51_71, x51_74, x51_75, x51_76, x51_79, x51_82, x51_83, x51_85, x51_88, x51_89, x51_90, x51_92, x51_95, x51_98, x51_99, x51_100, x51_103, x51_106, x51_107, x51_108, x51_111, st, e6, gPa_tokens, kd1, rf1, Kc_some, if_pos, if_neg, ↓reduceIte, not_true_eq_false, not_false_eq_true]
            · rw [if_neg hlt]
              rcases s_sign (sc := sc) (d := d - 1) (by omega) e4 k10 (by omega) with ⟨_, ρ, b1, b2, b3⟩ | ⟨z, _⟩
              · unfold RnA at b3
                refine Or.inl ⟨_, _, ρ, rfl, by rw [List.length_append, List.length_singleton]; omega, e3.trans (Fzc.o89 b1), b2, fun j hj => by rw [b1 93 (by omega)]; exact e5 j hj, ok2, fun u Q => ?_⟩
                rw [x51_10]
                simp (disch := first | assumption | omega | exact notL_I | exact notL_N | exact notL_R | exact catS_le (Nat.le_of_ble_eq_true rfl) | exact Nat.le_of_ble_eq_true rfl | exact ooRo (by assumption) | exact ooAt (by assumption) | exact ooRu (by assumption) | exact ooLo (by assumption) | exact ooHa (by assumption) | exact ooLe (by assumption) | exact ooFn | exact ooAn | exact ooPa | exact ooTo | exact ooWa | exact ooCh | rfl) only [x51_0, x51_1, x51_4, x51_5, x51_8, x51_9, x51_11, x51_12, x51_15, x51_16, x51_17, x51_20, x51_23, x51_24, x51_25, x51_28, x51_29, x51_30, x51_31, x51_34, x51_35, x51_36, x51_39, x51_40, x51_41, x51_44, x51_45, x51_46, x51_47, x51_50, x51_53, x51_54, x51_55, x51_56, x51_59, x51_62, x51_64, x51_67, x51_68, x51_69, x51_70, x51_71, x51_74, x51_75, x51_76, x51_79, x51_82, x51_83, x51_85, x51_88, x51_89, x51_90, x51_92, x51_95, x51_98, x51_99, x51_100, x51_103, x51_106, x51_107, x51_108, x51_111, st, e6, gPa_tokens, kd1, b3, Kc_some, if_pos, if_neg, ↓reduceIte, not_true_eq_false, not_false_eq_true]
              · exact absurd h541 z
          · have kk : kdT s1.1 ≠ 10 := fun z => h541 (k10.mp z)
            rcases s_sign (sc := sc) (d := d - 1) (by omega) e4 k11 (by omega) with ⟨h544, ρ, b1, b2, b3⟩ | ⟨h544, b3⟩
            · rw [if_pos h544]
              unfold RnA at b3
              have F2 : Fzc σ ρ := e3.trans (Fzc.o89 b1)
              have go : ∀ (u : Bool × Nat × Nat × Int) (Q : Rs → HS → Prop), Ex sc d 51 10 [some (vR 87), some (vI m), some (vI (bI row)), some (vI ((i : Int)))] [] (wH σ u) Q ↔ Ex sc d 51 10 [some (vR 87), some (vI m), some (vI (bI row)), some (vI (((i + 1 : Nat) : Int)))] [] (wH ρ u) Q := by
                intro u Q
                rw [x51_10, show ((i + 1 : Nat) : Int) = (i : Int) + 1 by omega]
                simp (disch := first | assumption | omega | exact notL_I | exact notL_N | exact notL_R | exact catS_le (Nat.le_of_ble_eq_true rfl) | exact Nat.le_of_ble_eq_true rfl | exact ooRo (by assumption) | exact ooAt (by assumption) | exact ooRu (by assumption) | exact ooLo (by assumption) | exact ooHa (by assumption) | exact ooLe (by assumption) | exact ooFn | exact ooAn | exact ooPa | exact ooTo | exact ooWa | exact ooCh | rfl) only [x51_0, x51_1, x51_4, x51_5, x51_8, x51_9, x51_11, x51_12, x51_15, x51_16, x51_17, x51_20, x51_23, x51_24, x51_25, x51_28, x51_29, x51_30, x51_31, x51_34, x51_35, x51_36, x51_39, x51_40, x51_41, x51_44, x51_45, x51_46, x51_47, x51_50, x51_53, x51_54, x51_55, x51_56, x51_59, x51_62, x51_64, x51_67, x51_68, x51_69, x51_70, x51_71, x51_74, x51_75, x51_76, x51_79, x51_82, x51_83, x51_85, x51_88, x51_89, x51_90, x51_92, x51_95, x51_98, x51_99, x51_100, x51_103, x51_106, x51_107, x51_108, x51_111, st, e6, gPa_tokens, kd1, b3, Kc_some, if_pos, if_neg, ↓reduceIte, not_true_eq_false, not_false_eq_true]
              rcases ih (i + 1) (acc ++ [x]) _ ρ (by omega) (by rw [List.length_append, List.length_singleton]; omega) (by omega) b2 (fun j hj => by rw [b1 93 (by omega)]; exact e5 j hj) ok2 with ⟨l, s', ρ2, c1, c2, c3, c4, c5, c6, c7⟩ | ⟨e, ρ2, c1, c2, c3, c4⟩
              · exact Or.inl ⟨l, s', ρ2, c1, c2, F2.trans c3, c4, c5, c6, fun u Q => (go u Q).trans (c7 u Q)⟩
              · exact Or.inr ⟨e, ρ2, c1, F2.trans c2, c3, fun u Q => (go u Q).trans (c4 u Q)⟩
            · rw [if_neg h544, if_neg h541]
              unfold RnA at b3
              refine Or.inr ⟨_, _, rfl, e3.trans rf_v.1, rf_v.2, fun u Q => ?_⟩
              rw [x51_10]
              simp (disch := first | assumption | omega | exact notL_I | exact notL_N | exact notL_R | exact catS_le (Nat.le_of_ble_eq_true rfl) | exact Nat.le_of_ble_eq_true rfl | exact ooRo (by assumption) | exact ooAt (by assumption) | exact ooRu (by assumption) | exact ooLo (by assumption) | exact ooHa (by assumption) | exact ooLe (by assumption) | exact ooFn | exact ooAn | exact ooPa | exact ooTo | exact ooWa | exact ooCh | rfl) only [x51_0, x51_1, x51_4, x51_5, x51_8, x51_9, x51_11, x51_12, x51_15, x51_16, x51_17, x51_20, x51_23, x51_24, x51_25, x51_28, x51_29, x51_30, x51_31, x51_34, x51_35, x51_36, x51_39, x51_40, x51_41, x51_44, x51_45, x51_46, x51_47, x51_50, x51_53, x51_54, x51_55, x51_56, x51_59, x51_62, x51_64, x51_67, x51_68, x51_69, x51_70, x51_71, x51_74, x51_75, x51_76, x51_79, x51_82, x51_83, x51_85, x51_88, x51_89, x51_90, x51_92, x51_95, x51_98, x51_99, x51_100, x51_103, x51_106, x51_107, x51_108, x51_111, st, e6, gPa_tokens, kd1, b3, Kc_some, if_pos, if_neg, ↓reduceIte, not_true_eq_false, not_false_eq_true]
        · rw [e1, andP_l]
          rw [ha] at e6
          unfold RnA at e6
          refine Or.inr ⟨_, τ, rfl, e3, e4, fun u Q => ?_⟩
          rw [x51_10]
          simp (disch := first | assumption | omega | exact notL_I | exact notL_N | exact notL_R | exact catS_le (Nat.le_of_ble_eq_true rfl) | exact Nat.le_of_ble_eq_true rfl | exact ooRo (by assumption) | exact ooAt (by assumption) | exact ooRu (by assumption) | exact ooLo (by assumption) | exact ooHa (by assumption) | exact ooLe (by assumption) | exact ooFn | exact ooAn | exact ooPa | exact ooTo | exact ooWa | exact ooCh | rfl) only [x51_0, x51_1, x51_4, x51_5, x51_8, x51_9, x51_11, x51_12, x51_15, x51_16, x51_17, x51_20, x51_23, x51_24, x51_25, x51_28, x51_29, x51_30, x51_31, x51_34, x51_35, x51_36, x51_39, x51_40, x51_41, x51_44, x51_45, x51_46, x51_47, x51_50, x51_53, x51_54, x51_55, x51_56, x51_59, x51_62, x51_64, x51_67, x51_68, x51_69, x51_70, x51_71, x51_74, x51_75, x51_76, x51_79, x51_82, x51_83, x51_85, x51_88, x51_89, x51_90, x51_92, x51_95, x51_98, x51_99, x51_100, x51_103, x51_106, x51_107, x51_108, x51_111, st, e6, Kc_some, if_pos, if_neg, ↓reduceIte, not_true_eq_false, not_false_eq_true]
    · have st := fun u Q => s_cellSt (sc := sc) (d := d - 1) (row := row) (c := false) (u := u) (Q := Q) (by omega) H ⟨(fun z => by cases z), fun z => absurd z hst⟩
      rw [if_neg hst]
      rw [bI_f] at st
      refine Or.inr ⟨_, _, rfl, rf_v.1, rf_v.2, fun u Q => ?_⟩
      rw [x51_10]
      simp (disch := first | assumption | omega | exact notL_I | exact notL_N | exact notL_R | exact catS_le (Nat.le_of_ble_eq_true rfl) | exact Nat.le_of_ble_eq_true rfl | exact ooRo (by assumption) | exact ooAt (by assumption) | exact ooRu (by assumption) | exact ooLo (by assumption) | exact ooHa (by assumption) | exact ooLe (by assumption) | exact ooFn | exact ooAn | exact ooPa | exact ooTo | exact ooWa | exact ooCh | rfl) only [x51_0, x51_1, x51_4, x51_5, x51_8, x51_9, x51_11, x51_12, x51_15, x51_16, x51_17, x51_20, x51_23, x51_24, x51_25, x51_28, x51_29, x51_30, x51_31, x51_34, x51_35, x51_36, x51_39, x51_40, x51_41, x51_44, x51_45, x51_46, x51_47, x51_50, x51_53, x51_54, x51_55, x51_56, x51_59, x51_62, x51_64, x51_67, x51_68, x51_69, x51_70, x51_71, x51_74, x51_75, x51_76, x51_79, x51_82, x51_83, x51_85, x51_88, x51_89, x51_90, x51_92, x51_95, x51_98, x51_99, x51_100, x51_103, x51_106, x51_107, x51_108, x51_111, st, rf, Kc_some, if_pos, if_neg, ↓reduceIte, not_true_eq_false, not_false_eq_true]
theorem s_cells {m : Int} {row : Bool} {s : Ps} {σ : St} (hd : 3 ≤ d) (m1 : 1 ≤ m) (m3 : m ≤ 3) (H : PzC f n s σ) :
    (∃ l s' τ, cellsP (nxT f n) m row 4 0 [] s = .inr (l, s') ∧ (l.length : Int) = m ∧ Fzc σ τ ∧ PzC f n s' τ ∧ ClI l τ ∧ (∀ c ∈ l, okC row c) ∧ RnA sc d 51 0 [some (vR 87), some (vI m), some (vI (bI row)), none] σ (some (vI 1)) τ) ∨
    (∃ e τ, cellsP (nxT f n) m row 4 0 [] s = .inl e ∧ Fzc σ τ ∧ BdC τ e ∧ RnA sc d 51 0 [some (vR 87), some (vI m), some (vI (bI row)), none] σ (some (vI 0)) τ) := by
  have fi := fun u Q => s_fill (sc := sc) (σ := σ) (u := u) (Q := Q) (d := d - 1) (a := 93) (n := 3) (v := -1) rfl (by decide) (by omega)
  have F0 : Fzc σ (fl σ 93 0 3 (-1)) := ⟨fun c _ _ a => fl_ne a, fun j _ _ => by rw [fl_ne (by omega)]⟩
  have C0 : ClI [] (fl σ 93 0 3 (-1)) := by
    intro i hi
    rw [fl_at, if_pos ⟨by omega, by omega⟩]
    rfl
  have run : ∀ (u : Bool × Nat × Nat × Int) (Q : Rs → HS → Prop), Ex sc d 51 0 [some (vR 87), some (vI m), some (vI (bI row)), none] [] (wH σ u) Q ↔ Ex sc d 51 10 [some (vR 87), some (vI m), some (vI (bI row)), some (vI 0)] [] (wH (fl σ 93 0 3 (-1)) u) Q := by
    intro u Q
    simp (disch := first | assumption | omega | exact notL_I | exact notL_N | exact notL_R | exact catS_le (Nat.le_of_ble_eq_true rfl) | exact Nat.le_of_ble_eq_true rfl | exact ooRo (by assumption) | exact ooAt (by assumption) | exact ooRu (by assumption) | exact ooLo (by assumption) | exact ooHa (by assumption) | exact ooLe (by assumption) | exact ooFn | exact ooAn | exact ooPa | exact ooTo | exact ooWa | exact ooCh | rfl) only [x51_0, x51_1, x51_4, x51_5, x51_8, x51_9, x51_11, x51_12, x51_15, x51_16, x51_17, x51_20, x51_23, x51_24, x51_25, x51_28, x51_29, x51_30, x51_31, x51_34, x51_35, x51_36, x51_39, x51_40, x51_41, x51_44, x51_45, x51_46, x51_47, x51_50, x51_53, x51_54, x51_55, x51_56, x51_59, x51_62, x51_64, x51_67, x51_68, x51_69, x51_70, x51_71, x51_74, x51_75, x51_76, x51_79, x51_82, x51_83, x51_85, x51_88, x51_89, x51_90, x51_92, x51_95, x51_98, x51_99, x51_100, x51_103, x51_106, x51_107, x51_108, x51_111, gPa_cells, fi, Kc_none]
    rfl
  have H0 : PzC f n s (fl σ 93 0 3 (-1)) := H.fr (fl_ne (by omega)) (fl_ne (by omega)) (fl_ne (by omega)) (fl_ne (by omega)) (by rw [fl_ne (by omega)]) (by rw [fl_ne (by omega)])
  have lc := l_cells (sc := sc) (d := d) (f := f) (n := n) (row := row) hd m1 m3 4 0 [] s _ (by omega) rfl (by omega) H0 C0 (fun c hc => by cases hc)
  rw [Int.natCast_zero] at lc
  rcases lc with ⟨l, s', ρ2, c1, c2, c3, c4, c5, c6, c7⟩ | ⟨e, ρ2, c1, c2, c3, c4⟩
  · exact Or.inl ⟨l, s', ρ2, c1, c2, F0.trans c3, c4, c5, c6, fun u Q => (run u Q).trans (c7 u Q)⟩
  · exact Or.inr ⟨e, ρ2, c1, F0.trans c2, c3, fun u Q => (run u Q).trans (c4 u Q)⟩
end H3
