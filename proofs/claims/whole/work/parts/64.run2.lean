/-! runs of the class: rows made -/
/-- what a run of hall b may change: the finder, rows, log, plan -/
def FrH (b : Nat) (σ τ : St) : Prop := ∀ c, (c < 101 ∨ 106 < c) → (c < b + 3 ∨ b + 13 < c) → τ c = σ c
theorem FrH.refl {b : Nat} {σ : St} : FrH b σ σ := fun _ _ _ => rfl
theorem FrH.trans {b : Nat} {σ τ ρ : St} (h1 : FrH b σ τ) (h2 : FrH b τ ρ) : FrH b σ ρ := fun c a e => (h2 c a e).trans (h1 c a e)
theorem FnF.fh {b : Nat} {σ τ : St} (h : FnF σ τ) : FrH b σ τ := fun c a _ => h.1 c (by omega) (by omega) (by omega)
theorem FnH.fh {b : Nat} {σ τ : St} (h : FnH σ τ) : FrH b σ τ := fun c a _ => h c a
theorem FrB.fh {b n m : Nat} {σ τ : St} (h : FrB (b + n) m σ τ) (h1 : 3 ≤ n) (h2 : n + m ≤ 14) : FrH b σ τ := fun c _ e => h c (by omega)
theorem byF_succ {f : Int → Int} {n s : Int} {m : Nat} : byF (fun k => if k = n then s else f k) (n + 1) m s = byF f n (m + 1) s := by
  funext k
  unfold byF
  by_cases h1 : n + 1 ≤ k ∧ k < n + 1 + m
  · rw [if_pos h1, if_pos (by omega)]
  · rw [if_neg h1]
    show (if k = n then s else f k) = _
    by_cases h2 : k = n
    · rw [if_pos h2, if_pos (by omega)]
    · rw [if_neg h2, if_neg (by omega)]
theorem byF_0 {f : Int → Int} {n s : Int} : byF f n 0 s = f := by
  funext k
  unfold byF
  rw [if_neg (by omega)]
theorem asC_in {σ : St} {a : Nat} (W : WfAt σ a) : ∀ g ∈ asC σ a, (0 ≤ g.1 ∧ g.1 ≤ 25) ∧ (-1 ≤ g.2.1 ∧ g.2.1 ≤ 2025) ∧ (-1 ≤ g.2.2.1 ∧ g.2.2.1 ≤ 2025) ∧ (-1 ≤ g.2.2.2 ∧ g.2.2.2 ≤ 2025) := by
  intro g hg
  obtain ⟨j, hj⟩ := List.mem_iff_getElem?.mp hg
  have l := asC_len (σ := σ) (r := a) W.1.1
  have h1 := (List.getElem?_eq_some_iff.mp hj).1
  have e := asC_get (σ := σ) (r := a) (p := j) (by omega) (by omega)
  rw [Int.toNat_natCast, hj] at e
  rw [Option.some.inj e]
  have := W.1.2
  exact ⟨W.2.1 j (by omega) (by omega), W.2.2 _ (by omega) (by omega), W.2.2 _ (by omega) (by omega), W.2.2 _ (by omega) (by omega)⟩
section N2
variable {sc : Scr}
theorem l_plan {a b d n : Nat} {β : Bd} {L : List Rw} {l2 : Option V} (o : oHa b) (oa : oAt a) (hd : 3 ≤ d) (hab : a + 2 < b + 11 ∨ b + 13 < a) {σ : St} (Wa : WfAt σ a) (Wr : WfRo σ (b + 3)) (hL : rsC σ (b + 3) = L) (hβ : okB β) : ∀ (k : Nat) (i : Int) (τ : St) (P : List At), 0 ≤ i → i + k = σ a 0 → FrB (b + 11) 3 σ τ → WfAt τ (b + 11) → TrF τ n → bF τ n = β → asC τ (b + 11) = P → (P.length : Int) ≤ i →
    ∃ τ', FrB (b + 11) 3 σ τ' ∧ WfAt τ' (b + 11) ∧ asC τ' (b + 11) = planF L ((akF σ a k i).map (grA β)) P ∧ ∀ (u : Bool × Nat × Nat × Int) (Q : Rs → HS → Prop), Ex sc d 109 34 [some (vR b), some (vR 101), l2, some (vR a), some (vI i)] [] (wH τ u) Q ↔ Ex sc d 109 57 [some (vR b), some (vR 101), l2, some (vR a), some (vI (σ a 0))] [] (wH τ' u) Q := by
  have wa := Wa.1
  intro k
  induction k with
  | zero =>
    intro i τ P i0 ik F Wp T eb eP hP
    have hi : i = σ a 0 := by omega
    subst hi
    have e0 : τ a 0 = σ a 0 := by rw [F _ (by omega)]
    refine ⟨τ, F, Wp, eP, fun u Q => ?_⟩
    rw [x109_34]
    simp (disch := first | assumption | omega | exact notL_I | exact notL_N | exact notL_R | exact catS_le (Nat.le_of_ble_eq_true rfl) | exact Nat.le_of_ble_eq_true rfl | exact ooRo (by assumption) | exact ooAt (by assumption) | exact ooRu (by assumption) | exact ooLo (by assumption) | exact ooHa (by assumption) | exact ooLe (by assumption) | exact ooFn | exact ooAn | exact ooPa | exact ooTo | exact ooWa | exact ooCh | rfl) only [x109_0, x109_1, x109_4, x109_5, x109_6, x109_9, x109_10, x109_11, x109_12, x109_13, x109_16, x109_19, x109_22, x109_23, x109_24, x109_25, x109_28, x109_31, x109_32, x109_36, x109_37, x109_40, x109_43, x109_44, x109_45, x109_46, x109_48, x109_51, x109_54, x109_58, x109_61, x109_62, x109_65, x109_68, x109_71, x109_74, x109_75, x109_76, x109_77, x109_79, x109_81, x109_82, x109_85, x109_88, x109_91, x109_92, x109_95, x109_96, x109_99, x109_100, x109_103, x109_106, x109_108, x109_109, x109_110, x109_113, x109_115, x109_116, x109_119, x109_120, x109_123, x109_125, x109_126, x109_129, x109_130, x109_133, x109_135, x109_136, x109_139, x109_142, x109_145, x109_148, x109_151, x109_152, x109_153, x109_154, x109_155, x109_158, x109_161, x109_162, x109_163, x109_166, x109_167, gAt_count, e0, if_pos, if_neg, ↓reduceIte, not_true_eq_false, not_false_eq_true]
  | succ k ih =>
    intro i τ P i0 ik F Wp T eb eP hP
    have hfar := oHa_far o
    have e0 : τ a 0 = σ a 0 := by rw [F _ (by omega)]
    have Wa2 : WfAt τ a := Wa.c (by rw [F _ (by omega)]) (F _ (by omega)) (F _ (by omega))
    have Wr2 : WfRo τ (b + 3) := Wr.c (fun c c0 c1 => F c (by omega))
    have er : rsC τ (b + 3) = L := by rw [rsC_c (σ := σ) (fun c c0 c1 => F c (by omega)), hL]
    have ek : atK τ a i = atK σ a i := by unfold atK; rw [F (a + 1) (by omega), F (a + 2) (by omega)]
    have lp := asC_len (σ := τ) (r := b + 11) Wp.1.1
    rw [eP] at lp
    have pl := fun u Q => s_plan (sc := sc) (d := d - 1) (u := u) (Q := Q) (i := i) o oa (by omega) Wa2 Wp Wr2 T i0 (by omega) (by omega)
    rw [er, eb, ek, eP] at pl
    have hg : (0 ≤ (grA β (atK σ a i)).1 ∧ (grA β (atK σ a i)).1 ≤ 25) ∧ (-1 ≤ (grA β (atK σ a i)).2.1 ∧ (grA β (atK σ a i)).2.1 ≤ 2025) ∧ (-1 ≤ (grA β (atK σ a i)).2.2.1 ∧ (grA β (atK σ a i)).2.2.1 ≤ 2025) ∧ (-1 ≤ (grA β (atK σ a i)).2.2.2 ∧ (grA β (atK σ a i)).2.2.2 ≤ 2025) := by
      have hw : ∀ p, -1 ≤ p → p ≤ 2025 → -1 ≤ worthB β p ∧ worthB β p ≤ 2025 := by
        intro p p0 p1
        unfold worthB
        split
        · rcases hβ (p - 2000) with z | z
          · omega
          · have := isTm_in z; omega
        · omega
      unfold grA atK
      dsimp only
      have w2 := Wa.2.2 (i * 3) (by omega) (by omega)
      have w3 := Wa.2.2 (i * 3 + 1) (by omega) (by omega)
      have w4 := Wa.2.2 (i * 3 + 2) (by omega) (by omega)
      exact ⟨Wa.2.1 i i0 (by omega), hw _ w2.1 w2.2, hw _ w3.1 w3.2, hw _ w4.1 w4.2⟩
    rw [akF, List.map_cons, planF]
    by_cases hc : findL L (grA β (atK σ a i)) = none ∧ grA β (atK σ a i) ∉ P
    · obtain ⟨v1, v2, v3, v4⟩ := adA_v (t := (grA β (atK σ a i)).1) (x := (grA β (atK σ a i)).2.1) (y := (grA β (atK σ a i)).2.2.1) (z := (grA β (atK σ a i)).2.2.2) Wp (by omega) hg.1 hg.2.1 hg.2.2.1 hg.2.2.2
      have T2 : TrF (adA τ (b + 11) (grA β (atK σ a i)).1 (grA β (atK σ a i)).2.1 (grA β (atK σ a i)).2.2.1 (grA β (atK σ a i)).2.2.2) n := T.c (by rw [v1 _ (by omega)]) (v1 _ (by omega)) (v1 _ (by omega))
      obtain ⟨τ', q1, q2, q3, q4⟩ := ih (i + 1) _ (P ++ [grA β (atK σ a i)]) (by omega) (by omega) (F.trans v1) v2 T2 (by rw [bF_c (v1 _ (by omega)) (v1 _ (by omega))]; exact eb) (by rw [v3, eP]) (by rw [List.length_append, List.length_singleton]; omega)
      rw [if_pos hc]
      refine ⟨τ', q1, q2, q3, fun u Q => ?_⟩
      have q5 := q4 u Q
      rw [x109_34]
      simp (disch := first | assumption | omega | exact notL_I | exact notL_N | exact notL_R | exact catS_le (Nat.le_of_ble_eq_true rfl) | exact Nat.le_of_ble_eq_true rfl | exact ooRo (by assumption) | exact ooAt (by assumption) | exact ooRu (by assumption) | exact ooLo (by assumption) | exact ooHa (by assumption) | exact ooLe (by assumption) | exact ooFn | exact ooAn | exact ooPa | exact ooTo | exact ooWa | exact ooCh | rfl) only [x109_0, x109_1, x109_4, x109_5, x109_6, x109_9, x109_10, x109_11, x109_12, x109_13, x109_16, x109_19, x109_22, x109_23, x109_24, x109_25, x109_28, x109_31, x109_32, x109_36, x109_37, x109_40, x109_43, x109_44, x109_45, x109_46, x109_48, x109_51, x109_54, x109_58, x109_61, x109_62, x109_65, x109_68, x109_71, x109_74, x109_75, x109_76, x109_77, x109_79, x109_81, x109_82, x109_85, x109_88, x109_91, x109_92, x109_95, x109_96, x109_99, x109_100, x109_103, x109_106, x109_108, x109_109, x109_110, x109_113, x109_115, x109_116, x109_119, x109_120, x109_123, x109_125, x109_126, x109_129, x109_130, x109_133, x109_135, x109_136, x109_139, x109_142, x109_145, x109_148, x109_151, x109_152, x109_153, x109_154, x109_155, x109_158, x109_161, x109_162, x109_163, x109_166, x109_167, gAt_count, e0, pl, if_pos hc, Kc_none, if_pos, if_neg, ↓reduceIte, not_true_eq_false, not_false_eq_true]
      exact q5
    · obtain ⟨τ', q1, q2, q3, q4⟩ := ih (i + 1) τ P (by omega) (by omega) F Wp T eb eP (by omega)
      rw [if_neg hc]
      refine ⟨τ', q1, q2, q3, fun u Q => ?_⟩
      have q5 := q4 u Q
      rw [x109_34]
      simp (disch := first | assumption | omega | exact notL_I | exact notL_N | exact notL_R | exact catS_le (Nat.le_of_ble_eq_true rfl) | exact Nat.le_of_ble_eq_true rfl | exact ooRo (by assumption) | exact ooAt (by assumption) | exact ooRu (by assumption) | exact ooLo (by assumption) | exact ooHa (by assumption) | exact ooLe (by assumption) | exact ooFn | exact ooAn | exact ooPa | exact ooTo | exact ooWa | exact ooCh | rfl) only [x109_0, x109_1, x109_4, x109_5, x109_6, x109_9, x109_10, x109_11, x109_12, x109_13, x109_16, x109_19, x109_22, x109_23, x109_24, x109_25, x109_28, x109_31, x109_32, x109_36, x109_37, x109_40, x109_43, x109_44, x109_45, x109_46, x109_48, x109_51, x109_54, x109_58, x109_61, x109_62, x109_65, x109_68, x109_71, x109_74, x109_75, x109_76, x109_77, x109_79, x109_81, x109_82, x109_85, x109_88, x109_91, x109_92, x109_95, x109_96, x109_99, x109_100, x109_103, x109_106, x109_108, x109_109, x109_110, x109_113, x109_115, x109_116, x109_119, x109_120, x109_123, x109_125, x109_126, x109_129, x109_130, x109_133, x109_135, x109_136, x109_139, x109_142, x109_145, x109_148, x109_151, x109_152, x109_153, x109_154, x109_155, x109_158, x109_161, x109_162, x109_163, x109_166, x109_167, gAt_count, e0, pl, if_neg hc, Kc_none, if_pos, if_neg, ↓reduceIte, not_true_eq_false, not_false_eq_true]
      exact q5
/-- planned rows added -/
theorem l_addP {b d : Nat} {l2 l3 : Option V} (o : oHa b) (hd : 3 ≤ d) : ∀ (k : Nat) (i : Int) (τ : St), 0 ≤ i → i + k = τ (b + 11) 0 → WfAt τ (b + 11) → WfRo τ (b + 3) → WfLo τ (b + 8) → τ (b + 3) 0 + k ≤ 40 → τ (b + 3) 1 + k ≤ 200 → (∀ g ∈ asC τ (b + 11), g.2.1 ≤ 1099 ∧ g.2.2.1 ≤ 1099 ∧ g.2.2.2 ≤ 1099) →
    ∃ τ', FrB (b + 3) 8 τ τ' ∧ τ' (b + 8) = τ (b + 8) ∧ τ' (b + 8 + 1) = τ (b + 8 + 1) ∧ WfRo τ' (b + 3) ∧ WfLo τ' (b + 8) ∧ rsC τ' (b + 3) = addL (rsC τ (b + 3)) (τ (b + 3) 1) (akF τ (b + 11) k i) ∧ τ' (b + 3) 1 = τ (b + 3) 1 + k ∧ naC τ' (b + 3) = mksU (naC τ (b + 3)) (akF τ (b + 11) k i) ∧ byC τ' (b + 8) = byF (byC τ (b + 8)) (τ (b + 3) 1) k (τ (b + 8) 1) ∧ ∀ (u : Bool × Nat × Nat × Int) (Q : Rs → HS → Prop), Ex sc d 109 79 [some (vR b), some (vR 101), l2, l3, some (vI i)] [] (wH τ u) Q ↔ Ex sc d 109 151 [some (vR b), some (vR 101), l2, l3, some (vI (τ (b + 11) 0))] [] (wH τ' u) Q := by
  have or := o.rows
  have ol := o.log
  have op := o.planned
  intro k
  induction k with
  | zero =>
    intro i τ i0 ik Wp Wr Wl h40 h200 hg
    have wp := Wp.1
    have hi : i = τ (b + 11) 0 := by omega
    subst hi
    refine ⟨τ, FrB.refl, rfl, rfl, Wr, Wl, rfl, by omega, rfl, by rw [byF_0], fun u Q => ?_⟩
    rw [x109_79]
    simp (disch := first | assumption | omega | exact notL_I | exact notL_N | exact notL_R | exact catS_le (Nat.le_of_ble_eq_true rfl) | exact Nat.le_of_ble_eq_true rfl | exact ooRo (by assumption) | exact ooAt (by assumption) | exact ooRu (by assumption) | exact ooLo (by assumption) | exact ooHa (by assumption) | exact ooLe (by assumption) | exact ooFn | exact ooAn | exact ooPa | exact ooTo | exact ooWa | exact ooCh | rfl) only [x109_0, x109_1, x109_4, x109_5, x109_6, x109_9, x109_10, x109_11, x109_12, x109_13, x109_16, x109_19, x109_22, x109_23, x109_24, x109_25, x109_28, x109_31, x109_32, x109_34, x109_36, x109_37, x109_40, x109_43, x109_44, x109_45, x109_46, x109_48, x109_51, x109_54, x109_57, x109_58, x109_61, x109_62, x109_65, x109_68, x109_71, x109_74, x109_75, x109_76, x109_77, x109_81, x109_82, x109_85, x109_88, x109_91, x109_92, x109_95, x109_96, x109_99, x109_100, x109_103, x109_106, x109_108, x109_109, x109_110, x109_113, x109_115, x109_116, x109_119, x109_120, x109_123, x109_125, x109_126, x109_129, x109_130, x109_133, x109_135, x109_136, x109_139, x109_142, x109_145, x109_148, x109_152, x109_153, x109_154, x109_155, x109_158, x109_161, x109_162, x109_163, x109_166, x109_167, gHa_planned, gAt_count, if_pos, if_neg, ↓reduceIte, not_true_eq_false, not_false_eq_true]
  | succ k ih =>
    intro i τ i0 ik Wp Wr Wl h40 h200 hg
    have wp := Wp.1
    have wr := Wr.1
    have wr1 := Wr.2.1
    have wt := Wp.2.1 i i0 (by omega)
    have p0 := Wp.2.2 (i * 3) (by omega) (by omega)
    have p1 := Wp.2.2 (i * 3 + 1) (by omega) (by omega)
    have p2 := Wp.2.2 (i * 3 + 2) (by omega) (by omega)
    have gm := hg (atK τ (b + 11) i) (List.mem_of_getElem? (asC_get (σ := τ) (r := b + 11) i0 (by omega)))
    have g0 : τ (b + 11 + 2) (i * 3) ≤ 1099 := gm.1
    have g1 : τ (b + 11 + 2) (i * 3 + 1) ≤ 1099 := gm.2.1
    have g2 : τ (b + 11 + 2) (i * 3 + 2) ≤ 1099 := gm.2.2
    have hroom : τ (b + 3) 0 + 1 ≤ 40 ∧ τ (b + 3) 1 + 1 ≤ 200 := by omega
    have rF := (adS_r (σ := τ) (r := b + 3) (t := τ (b + 11 + 1) i) (x := τ (b + 11 + 2) (i * 3)) (y := τ (b + 11 + 2) (i * 3 + 1)) (z := τ (b + 11 + 2) (i * 3 + 2))).1
    have r0 := (adS_r (σ := τ) (r := b + 3) (t := τ (b + 11 + 1) i) (x := τ (b + 11 + 2) (i * 3)) (y := τ (b + 11 + 2) (i * 3 + 1)) (z := τ (b + 11 + 2) (i * 3 + 2))).2.1
    have rW := adS_wf (t := τ (b + 11 + 1) i) (x := τ (b + 11 + 2) (i * 3)) (y := τ (b + 11 + 2) (i * 3 + 1)) (z := τ (b + 11 + 2) (i * 3 + 2)) Wr hroom wt ⟨by omega, by omega⟩ ⟨by omega, by omega⟩ ⟨by omega, by omega⟩
    have rR := adS_rs (t := τ (b + 11 + 1) i) (x := τ (b + 11 + 2) (i * 3)) (y := τ (b + 11 + 2) (i * 3 + 1)) (z := τ (b + 11 + 2) (i * 3 + 2)) Wr
    have rN := adS_na (σ := τ) (r := b + 3) (t := τ (b + 11 + 1) i) (x := τ (b + 11 + 2) (i * 3)) (y := τ (b + 11 + 2) (i * 3 + 1)) (z := τ (b + 11 + 2) (i * 3 + 2)) ⟨by omega, by omega⟩ ⟨by omega, by omega⟩ ⟨by omega, by omega⟩
    have ac := fun u Q => s_addC (sc := sc) (σ := τ) (u := u) (Q := Q) (d := d - 1) (r := b + 3) (t := τ (b + 11 + 1) i) (x := τ (b + 11 + 2) (i * 3)) (y := τ (b + 11 + 2) (i * 3 + 1)) (z := τ (b + 11 + 2) (i * 3 + 2)) or ⟨by omega, by omega⟩ ⟨by omega, by omega⟩ ⟨by omega, by omega⟩ Wr (by omega)
    generalize hρ : adS τ (b + 3) (τ (b + 11 + 1) i) (τ (b + 11 + 2) (i * 3)) (τ (b + 11 + 2) (i * 3 + 1)) (τ (b + 11 + 2) (i * 3 + 2)) = ρ at rF r0 rW rR rN ac
    have r00 : ρ (b + 3) 0 = τ (b + 3) 0 + 1 := by rw [r0, if_neg (by omega), if_pos rfl]
    have r01 : ρ (b + 3) 1 = τ (b + 3) 1 + 1 := by rw [r0, if_pos rfl]
    have rl : ∀ c, c < b + 3 ∨ b + 8 ≤ c → ρ c = τ c := fun c hc => rF c (by omega)
    -- the maker
    generalize hκ : su ρ (b + 8 + 2) (τ (b + 3) 1) (τ (b + 8) 1) = κ
    have κF : FrB (b + 3) 8 τ κ := fun c hc => by rw [← hκ, su_ne (by omega), rl c (by omega)]
    have κo : ∀ c, c ≠ b + 10 → κ c = ρ c := fun c hc => by rw [← hκ, su_ne (by omega)]
    have κm : ∀ j, κ (b + 8 + 2) j = if j = τ (b + 3) 1 then τ (b + 8) 1 else τ (b + 8 + 2) j := fun j => by rw [← hκ, su_at, rl (b + 8 + 2) (by omega)]
    have Wl2 : WfLo κ (b + 8) := by
      obtain ⟨w0, w1, w2, w3⟩ := Wl
      refine ⟨by rw [κo _ (by omega), rl _ (by omega)]; exact w0, by rw [κo _ (by omega), rl _ (by omega)]; exact w1, by rw [κo _ (by omega), rl _ (by omega)]; exact w2, fun j j0 j1 => ?_⟩
      rw [κm]
      split
      · omega
      · exact w3 j j0 j1
    have kp : ∀ c, b + 11 ≤ c → κ c = τ c := fun c hc => by rw [κo _ (by omega), rl _ (by omega)]
    obtain ⟨τ', q1, q2, q2b, q3, q4, q5, q6, q7, q8, q9⟩ := ih (i + 1) κ (by omega) (by rw [kp _ (by omega)]; omega) (Wp.c (by rw [kp _ (by omega)]) (kp _ (by omega)) (kp _ (by omega))) (rW.c (fun c c0 c1 => κo c (by omega))) Wl2 (by rw [κo _ (by omega), r00]; omega) (by rw [κo _ (by omega), r01]; omega) (by rw [asC_c (by rw [kp _ (by omega)]) (kp _ (by omega)) (kp _ (by omega))]; exact hg)
    have ek : akF κ (b + 11) k (i + 1) = akF τ (b + 11) k (i + 1) := akF_ext _ _ (fun j _ _ => by unfold atK; rw [kp _ (by omega), kp _ (by omega)])
    refine ⟨τ', κF.trans q1, by rw [q2, κo _ (by omega), rl _ (by omega)], by rw [q2b, κo _ (by omega), rl _ (by omega)], q3, q4, ?_, ?_, ?_, ?_, fun u Q => ?_⟩
    · rw [q5, ek, rsC_c (σ := ρ) (fun c c0 c1 => κo c (by omega)), rR, κo (b + 3) (by omega), r01, akF, addL]
      rfl
    · rw [q6, κo _ (by omega), r01]; omega
    · have : naC κ (b + 3) = naC ρ (b + 3) := by unfold naC; rw [κo _ (by omega)]
      rw [q7, ek, this, rN, akF]
      rfl
    · rw [q8, κo (b + 3) (by omega), r01, show κ (b + 8) 1 = τ (b + 8) 1 by rw [κo _ (by omega), rl _ (by omega)], ← byF_succ]
      congr 1
      funext j
      unfold byC
      by_cases hj : 0 ≤ j ∧ j ≤ 199
      · rw [if_pos hj, if_pos hj, κm]
      · rw [if_neg hj, if_neg hj, if_neg (by omega)]
    · have q10 := q9 u Q
      rw [kp (b + 11) (by omega)] at q10
      have hz : i * 3 + 0 = i * 3 := Int.add_zero _
      have h1 : τ (b + 3) 1 + 1 - 1 = τ (b + 3) 1 := by omega
      have hl8 : ρ (b + 8) 1 = τ (b + 8) 1 := by rw [rl _ (by omega)]
      have nm := fun u Q => s_noteMade (sc := sc) (σ := ρ) (u := u) (Q := Q) (d := d - 1) (l := b + 8) (n := τ (b + 3) 1) ol (by omega) (by omega)
      rw [hl8, hκ] at nm
      rw [x109_79]
      simp (disch := first | assumption | omega | exact notL_I | exact notL_N | exact notL_R | exact catS_le (Nat.le_of_ble_eq_true rfl) | exact Nat.le_of_ble_eq_true rfl | exact ooRo (by assumption) | exact ooAt (by assumption) | exact ooRu (by assumption) | exact ooLo (by assumption) | exact ooHa (by assumption) | exact ooLe (by assumption) | exact ooFn | exact ooAn | exact ooPa | exact ooTo | exact ooWa | exact ooCh | rfl) only [x109_0, x109_1, x109_4, x109_5, x109_6, x109_9, x109_10, x109_11, x109_12, x109_13, x109_16, x109_19, x109_22, x109_23, x109_24, x109_25, x109_28, x109_31, x109_32, x109_34, x109_36, x109_37, x109_40, x109_43, x109_44, x109_45, x109_46, x109_48, x109_51, x109_54, x109_57, x109_58, x109_61, x109_62, x109_65, x109_68, x109_71, x109_74, x109_75, x109_76, x109_77, x109_81, x109_82, x109_85, x109_88, x109_91, x109_92, x109_95, x109_96, x109_99, x109_100, x109_103, x109_106, x109_108, x109_109, x109_110, x109_113, x109_115, x109_116, x109_119, x109_120, x109_123, x109_125, x109_126, x109_129, x109_130, x109_133, x109_135, x109_136, x109_139, x109_142, x109_145, x109_148, x109_152, x109_153, x109_154, x109_155, x109_158, x109_161, x109_162, x109_163, x109_166, x109_167, gHa_planned, gHa_log, gHa_rows, gAt_count, gAt_table, RAt_table, s_placeAt, hz, ac, if_pos hroom, h1, nm, Kc_some, Kc_none, if_pos, if_neg, ↓reduceIte, not_true_eq_false, not_false_eq_true]
      exact q10
end N2
