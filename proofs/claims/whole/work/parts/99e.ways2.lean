/-! ways of the class: rules, rounds -/
section G2
variable {sc : Scr}
theorem FwC.wru {σ τ : St} {a : Nat} (F : FwC σ τ) (o : oRu a) (W : WfRu σ a) : WfRu τ a := W.c (F.ru o)
theorem FwC.eru {σ τ : St} {a : Nat} (F : FwC σ τ) (o : oRu a) : ruC τ a = ruC σ a := ruC_c (F.ru o)
theorem FwC.eat {σ τ : St} {a : Nat} (F : FwC σ τ) (o : oRu a) {i : Int} : atK τ (a + 4) i = atK σ (a + 4) i ∧ atK τ (a + 1) i = atK σ (a + 1) i := by
  unfold atK
  rw [F.ru o (a + 4 + 1) (by omega) (by omega), F.ru o (a + 4 + 2) (by omega) (by omega), F.ru o (a + 1 + 1) (by omega) (by omega), F.ru o (a + 1 + 2) (by omega) (by omega)]
  exact ⟨rfl, rfl⟩
theorem l_fwF {a d : Nat} {v k B : Int} {σ : St} (hd : 2 ≤ d) (o : oRu a) (W : WfRu σ a) (hv : inR v) (k0 : 0 ≤ k) (k1 : k + 1 ≤ B) (B1 : B ≤ 100000) : ∀ (n : Nat) (i : Int) (τ : St) (s : Wy), 0 ≤ i → i + n = σ (a + 4) 0 → FwC σ τ → rkB τ B → WyC τ s →
    ∃ ρ, FwC σ ρ ∧ rkB ρ B ∧ WyC ρ ((akF σ (a + 4) n i).foldl (fwA (ruC σ a) v k) s) ∧ ∀ (u : Bool × Nat × Nat × Int) (Q : Rs → HS → Prop) (l5 l6 : Option V), Ex sc d 167 3 [some (vR 117), some (vR a), some (vI v), some (vI k), some (vI i), l5, l6] [] (wH τ u) Q ↔ Q (.inl none) (wH ρ u) := by
  have w := W.2.2.2.2.1
  have ob := o.behind
  intro n
  induction n with
  | zero =>
    intro i τ s i0 ik F hb H
    refine ⟨τ, F, hb, H, fun u Q l5 l6 => ?_⟩
    have e0 : τ (a + 4) 0 = σ (a + 4) 0 := by rw [F.ru o (a + 4) (by omega) (by omega)]
    rw [x167_3]
    simp (disch := first | assumption | omega | exact notL_I | exact notL_N | exact notL_R | exact catS_le (Nat.le_of_ble_eq_true rfl) | exact Nat.le_of_ble_eq_true rfl | exact ooRo (by assumption) | exact ooAt (by assumption) | exact ooRu (by assumption) | exact ooLo (by assumption) | exact ooHa (by assumption) | exact ooLe (by assumption) | exact ooFn | exact ooAn | exact ooPa | exact ooTo | exact ooWa | exact ooCh | rfl) only [x167_0, x167_1, x167_5, x167_6, x167_9, x167_12, x167_15, x167_16, x167_20, x167_21, x167_24, x167_25, x167_28, x167_30, x167_32, x167_35, x167_37, x167_39, x167_40, x167_43, x167_44, x167_45, x167_48, x167_51, x167_53, x167_54, x167_56, x167_57, x167_60, x167_63, x167_64, x167_66, x167_69, x167_72, x167_73, x167_74, x167_77, x167_80, x167_82, x167_83, x167_85, x167_86, x167_87, x167_88, x167_91, x167_94, x167_97, x167_100, x167_103, gRu_behind, gAt_count ob, e0, if_pos, if_neg, ↓reduceIte, not_true_eq_false, not_false_eq_true]
  | succ n ih =>
    intro i τ s i0 ik F hb H
    have e0 : ∀ τ, FwC σ τ → τ (a + 4) 0 = σ (a + 4) 0 := fun τ F => by rw [F.ru o (a + 4) (by omega) (by omega)]
    obtain ⟨τ1, f1, b1, h1, r1⟩ := l_fwC (sc := sc) (d := d) (c := 0) (i := i) (v := v) (k := k) hd o (F.wru o W) i0 (by rw [e0 τ F]; omega) (by omega) (by omega) hv k0 k1 B1 hb H
    have g1 := F.trans f1
    obtain ⟨τ2, f2, b2, h2, r2⟩ := l_fwC (sc := sc) (d := d) (c := 0 + 1) (i := i) (v := v) (k := k) (σ := τ1) hd o (g1.wru o W) i0 (by rw [e0 τ1 g1]; omega) (by omega) (by omega) hv k0 k1 B1 b1 h1
    have g2 := g1.trans f2
    obtain ⟨τ3, f3, b3, h3, r3⟩ := l_fwC (sc := sc) (d := d) (c := 0 + 1 + 1) (i := i) (v := v) (k := k) (σ := τ2) hd o (g2.wru o W) i0 (by rw [e0 τ2 g2]; omega) (by omega) (by omega) hv k0 k1 B1 b2 h2
    have g3 := g2.trans f3
    rw [g2.eru o, (g2.eat o).1, g1.eru o, (g1.eat o).1, F.eru o, (F.eat o).1] at h3
    obtain ⟨ρ, y1, y2, y3, y4⟩ := ih (i + 1) τ3 _ (by omega) (by omega) g3 b3 h3
    refine ⟨ρ, y1, y2, y3, fun u Q l5 l6 => ?_⟩
    have r1' := r1 u Q l6
    have r2' := r2 u Q (some (vI (τ (a + 6) (i * 3 + 0))))
    have r3' := r3 u Q (some (vI (τ1 (a + 6) (i * 3 + (0 + 1)))))
    rw [x167_3]
    simp (disch := first | assumption | omega | exact notL_I | exact notL_N | exact notL_R | exact catS_le (Nat.le_of_ble_eq_true rfl) | exact Nat.le_of_ble_eq_true rfl | exact ooRo (by assumption) | exact ooAt (by assumption) | exact ooRu (by assumption) | exact ooLo (by assumption) | exact ooHa (by assumption) | exact ooLe (by assumption) | exact ooFn | exact ooAn | exact ooPa | exact ooTo | exact ooWa | exact ooCh | rfl) only [x167_0, x167_1, x167_5, x167_6, x167_9, x167_12, x167_15, x167_16, x167_20, x167_21, x167_24, x167_25, x167_28, x167_30, x167_32, x167_35, x167_37, x167_39, x167_40, x167_43, x167_44, x167_45, x167_48, x167_51, x167_53, x167_54, x167_56, x167_57, x167_60, x167_63, x167_64, x167_66, x167_69, x167_72, x167_73, x167_74, x167_77, x167_80, x167_82, x167_83, x167_85, x167_86, x167_87, x167_88, x167_91, x167_94, x167_97, x167_100, x167_103, gRu_behind, gAt_count ob, e0 τ F, if_pos, if_neg, ↓reduceIte, not_true_eq_false, not_false_eq_true]
    rw [r1', r2', r3', x167_18]
    simp (disch := first | assumption | omega | exact notL_I | exact notL_N | exact notL_R | exact catS_le (Nat.le_of_ble_eq_true rfl) | exact Nat.le_of_ble_eq_true rfl | exact ooRo (by assumption) | exact ooAt (by assumption) | exact ooRu (by assumption) | exact ooLo (by assumption) | exact ooHa (by assumption) | exact ooLe (by assumption) | exact ooFn | exact ooAn | exact ooPa | exact ooTo | exact ooWa | exact ooCh | rfl) only [x167_0, x167_1, x167_5, x167_6, x167_9, x167_12, x167_15, x167_16, x167_20, x167_21, x167_24, x167_25, x167_28, x167_30, x167_32, x167_35, x167_37, x167_39, x167_40, x167_43, x167_44, x167_45, x167_48, x167_51, x167_53, x167_54, x167_56, x167_57, x167_60, x167_63, x167_64, x167_66, x167_69, x167_72, x167_73, x167_74, x167_77, x167_80, x167_82, x167_83, x167_85, x167_86, x167_87, x167_88, x167_91, x167_94, x167_97, x167_100, x167_103, if_pos, if_neg, ↓reduceIte, not_true_eq_false, not_false_eq_true]
    exact y4 u Q _ _
theorem s_fwF {a d : Nat} {v k B : Int} {σ : St} {s : Wy} (hd : 2 ≤ d) (o : oRu a) (W : WfRu σ a) (hv : inR v) (k0 : 0 ≤ k) (k1 : k + 1 ≤ B) (B1 : B ≤ 100000) (hb : rkB σ B) (H : WyC σ s) :
    ∃ ρ, FwC σ ρ ∧ rkB ρ B ∧ WyC ρ (fwF (ruC σ a) v k s) ∧ RnA sc d 167 0 [some (vR 117), some (vR a), some (vI v), some (vI k), none, none, none] σ none ρ := by
  have w := W.2.2.2.2.1
  obtain ⟨ρ, y1, y2, y3, y4⟩ := l_fwF (sc := sc) (d := d) hd o W hv k0 k1 B1 (σ (a + 4) 0).toNat 0 σ s (by omega) (by omega) FwC.refl hb H
  refine ⟨ρ, y1, y2, y3, fun u Q => ?_⟩
  rw [← y4 u Q none none]
  simp (disch := first | assumption | omega | exact notL_I | exact notL_N | exact notL_R | exact catS_le (Nat.le_of_ble_eq_true rfl) | exact Nat.le_of_ble_eq_true rfl | exact ooRo (by assumption) | exact ooAt (by assumption) | exact ooRu (by assumption) | exact ooLo (by assumption) | exact ooHa (by assumption) | exact ooLe (by assumption) | exact ooFn | exact ooAn | exact ooPa | exact ooTo | exact ooWa | exact ooCh | rfl) only [x167_0, x167_1]
/-- a place ahead -/
theorem l_frC {a d : Nat} {B i c : Int} {σ : St} {s : Wy} (hd : 3 ≤ d) (o : oRu a) (W : WfRu σ a) (i0 : 0 ≤ i) (i1 : i < σ (a + 1) 0) (c0 : 0 ≤ c) (c1 : c ≤ 2) (B1 : B + 1 ≤ 100000) (hb : rkB σ B) (H : WyC σ s) :
    ∃ τ, FwC σ τ ∧ rkB τ (B + 1) ∧ WyC τ (frC (ruC σ a) (atK σ (a + 1) i) s c.toNat) ∧ ∀ (u : Bool × Nat × Nat × Int) (Q : Rs → HS → Prop) (l4 : Option V), Ex sc d 165 15 [some (vR 117), some (vR a), some (vI i), some (vI c), l4] [] (wH σ u) Q ↔ Ex sc d 165 15 [some (vR 117), some (vR a), some (vI i), some (vI (c + 1)), some (vI (σ (a + 3) (i * 3 + c)))] [] (wH τ u) Q := by
  have oa := o.ahead
  have ob := o.behind
  have w := W.2.2.2.1.1
  have wp := W.2.2.2.1.2.2 (i * 3 + c) (by omega) (by omega)
  have wt := W.2.2.2.1.2.1 i i0 (by omega)
  have pa := fun u Q => s_placeAt (sc := sc) (σ := σ) (d := d - 1) (u := u) (Q := Q) (a := a + 1) (p := i) (c := c) oa ⟨by omega, by omega⟩ ⟨by omega, by omega⟩ W.2.2.2.1
  have cc : 0 ≤ i ∧ i < σ (a + 1) 0 ∧ 0 ≤ c ∧ c < 3 := by omega
  simp only [if_pos cc] at pa
  have ep : plN (atK σ (a + 1) i) c.toNat = σ (a + 3) (i * 3 + c) := pl_at i0 i1 c0 c1
  have et : (atK σ (a + 1) i).1 = σ (a + 2) i := rfl
  have ec : ((c.toNat : Nat) : Int) = c := by omega
  have ea : (ruC σ a).2.2.1 = asC σ (a + 4) := rfl
  have a6 : a + 1 + 2 = a + 3 := rfl
  have a5 : a + 1 + 1 = a + 2 := rfl
  rw [a6] at pa wp
  rw [a5] at wt
  unfold frC
  rw [ep, et, ec, ea]
  have hb' : rkB σ (B + 1) := fun i i0 i1 => by have := hb i i0 i1; omega
  by_cases h : 2000 ≤ σ (a + 3) (i * 3 + c)
  · have me := fun u Q => s_mentA (sc := sc) (σ := σ) (d := d - 1) (u := u) (Q := Q) (a := a + 4) (v := σ (a + 3) (i * 3 + c)) ob ⟨by omega, by omega⟩ W.2.2.2.2
    cases hm : mentL (asC σ (a + 4)) (σ (a + 3) (i * 3 + c)) with
    | true =>
      rw [if_pos ⟨h, rfl⟩]
      rw [hm, bI_t] at me
      have e3 : σ (a + 2) i * 3 + c = 3 * σ (a + 2) i + c := by omega
      have rk := fun u Q => s_rankOf (sc := sc) (σ := σ) (d := d - 1) (u := u) (Q := Q) wt.1 wt.2 c0 c1
      rw [e3] at rk
      have er : s.1 (3 * σ (a + 2) i + c) = σ 118 (3 * σ (a + 2) i + c) := by rw [← H.1]; exact rkC_in (by omega) (by omega)
      have rb := hb (3 * σ (a + 2) i + c) (by omega) (by omega)
      rw [er]
      obtain ⟨ρ, y1, y2, y3, y4⟩ := s_fwF (sc := sc) (d := d - 1) (v := σ (a + 3) (i * 3 + c)) (k := σ 118 (3 * σ (a + 2) i + c)) (B := B + 1) (by omega) o W ⟨by omega, by omega⟩ rb.1 (by omega) B1 hb' H
      refine ⟨ρ, y1, y2, y3, fun u Q l4 => ?_⟩
      rw [x165_15]
      simp (disch := first | assumption | omega | exact notL_I | exact notL_N | exact notL_R | exact catS_le (Nat.le_of_ble_eq_true rfl) | exact Nat.le_of_ble_eq_true rfl | exact ooRo (by assumption) | exact ooAt (by assumption) | exact ooRu (by assumption) | exact ooLo (by assumption) | exact ooHa (by assumption) | exact ooLe (by assumption) | exact ooFn | exact ooAn | exact ooPa | exact ooTo | exact ooWa | exact ooCh | rfl) only [x165_0, x165_1, x165_3, x165_4, x165_7, x165_10, x165_13, x165_14, x165_16, x165_17, x165_20, x165_21, x165_24, x165_25, x165_26, x165_29, x165_31, x165_33, x165_36, x165_39, x165_40, x165_43, x165_45, x165_48, x165_51, x165_52, x165_53, x165_55, x165_56, x165_57, x165_60, x165_63, x165_64, x165_65, x165_66, x165_69, x165_72, x165_75, x165_78, x165_81, x165_84, gRu_ahead, gRu_behind, gAt_table oa, RAt_table oa, pa, me, rk, y4 u, a5, Kc_some, Kc_none, if_pos, if_neg, ↓reduceIte, not_true_eq_false, not_false_eq_true]
    | false =>
      rw [if_neg (by simp)]
      rw [hm, bI_f] at me
      refine ⟨σ, FwC.refl, hb', H, fun u Q l4 => ?_⟩
      rw [x165_15]
      simp (disch := first | assumption | omega | exact notL_I | exact notL_N | exact notL_R | exact catS_le (Nat.le_of_ble_eq_true rfl) | exact Nat.le_of_ble_eq_true rfl | exact ooRo (by assumption) | exact ooAt (by assumption) | exact ooRu (by assumption) | exact ooLo (by assumption) | exact ooHa (by assumption) | exact ooLe (by assumption) | exact ooFn | exact ooAn | exact ooPa | exact ooTo | exact ooWa | exact ooCh | rfl) only [x165_0, x165_1, x165_3, x165_4, x165_7, x165_10, x165_13, x165_14, x165_16, x165_17, x165_20, x165_21, x165_24, x165_25, x165_26, x165_29, x165_31, x165_33, x165_36, x165_39, x165_40, x165_43, x165_45, x165_48, x165_51, x165_52, x165_53, x165_55, x165_56, x165_57, x165_60, x165_63, x165_64, x165_65, x165_66, x165_69, x165_72, x165_75, x165_78, x165_81, x165_84, gRu_ahead, gRu_behind, pa, me, Kc_some, Kc_none, if_pos, if_neg, ↓reduceIte, not_true_eq_false, not_false_eq_true]
  · rw [if_neg (fun z => h z.1)]
    refine ⟨σ, FwC.refl, hb', H, fun u Q l4 => ?_⟩
    rw [x165_15]
    simp (disch := first | assumption | omega | exact notL_I | exact notL_N | exact notL_R | exact catS_le (Nat.le_of_ble_eq_true rfl) | exact Nat.le_of_ble_eq_true rfl | exact ooRo (by assumption) | exact ooAt (by assumption) | exact ooRu (by assumption) | exact ooLo (by assumption) | exact ooHa (by assumption) | exact ooLe (by assumption) | exact ooFn | exact ooAn | exact ooPa | exact ooTo | exact ooWa | exact ooCh | rfl) only [x165_0, x165_1, x165_3, x165_4, x165_7, x165_10, x165_13, x165_14, x165_16, x165_17, x165_20, x165_21, x165_24, x165_25, x165_26, x165_29, x165_31, x165_33, x165_36, x165_39, x165_40, x165_43, x165_45, x165_48, x165_51, x165_52, x165_53, x165_55, x165_56, x165_57, x165_60, x165_63, x165_64, x165_65, x165_66, x165_69, x165_72, x165_75, x165_78, x165_81, x165_84, gRu_ahead, pa, Kc_some, if_pos, if_neg, ↓reduceIte, not_true_eq_false, not_false_eq_true]
theorem l_frF {a d : Nat} {σ : St} (hd : 3 ≤ d) (o : oRu a) (W : WfRu σ a) : ∀ (n : Nat) (i B : Int) (τ : St) (s : Wy), 0 ≤ i → i + n = σ (a + 1) 0 → B + 3 * n ≤ 100000 → FwC σ τ → rkB τ B → WyC τ s →
    ∃ ρ, FwC σ ρ ∧ rkB ρ (B + 3 * n) ∧ WyC ρ ((akF σ (a + 1) n i).foldl (frA (ruC σ a)) s) ∧ ∀ (u : Bool × Nat × Nat × Int) (Q : Rs → HS → Prop) (l3 l4 : Option V), Ex sc d 165 2 [some (vR 117), some (vR a), some (vI i), l3, l4] [] (wH τ u) Q ↔ Q (.inl none) (wH ρ u) := by
  have w := W.2.2.2.1.1
  have oa := o.ahead
  intro n
  induction n with
  | zero =>
    intro i B τ s i0 ik hB F hb H
    refine ⟨τ, F, by rw [Int.natCast_zero, Int.mul_zero, Int.add_zero]; exact hb, H, fun u Q l3 l4 => ?_⟩
    have e0 : τ (a + 1) 0 = σ (a + 1) 0 := by rw [F.ru o (a + 1) (by omega) (by omega)]
    rw [x165_2]
    simp (disch := first | assumption | omega | exact notL_I | exact notL_N | exact notL_R | exact catS_le (Nat.le_of_ble_eq_true rfl) | exact Nat.le_of_ble_eq_true rfl | exact ooRo (by assumption) | exact ooAt (by assumption) | exact ooRu (by assumption) | exact ooLo (by assumption) | exact ooHa (by assumption) | exact ooLe (by assumption) | exact ooFn | exact ooAn | exact ooPa | exact ooTo | exact ooWa | exact ooCh | rfl) only [x165_0, x165_1, x165_3, x165_4, x165_7, x165_10, x165_13, x165_14, x165_16, x165_17, x165_20, x165_21, x165_24, x165_25, x165_26, x165_29, x165_31, x165_33, x165_36, x165_39, x165_40, x165_43, x165_45, x165_48, x165_51, x165_52, x165_53, x165_55, x165_56, x165_57, x165_60, x165_63, x165_64, x165_65, x165_66, x165_69, x165_72, x165_75, x165_78, x165_81, x165_84, gRu_ahead, gAt_count oa, e0, if_pos, if_neg, ↓reduceIte, not_true_eq_false, not_false_eq_true]
  | succ n ih =>
    intro i B τ s i0 ik hB F hb H
    have e0 : ∀ τ, FwC σ τ → τ (a + 1) 0 = σ (a + 1) 0 := fun τ F => by rw [F.ru o (a + 1) (by omega) (by omega)]
    obtain ⟨τ1, f1, b1, h1, r1⟩ := l_frC (sc := sc) (d := d) (c := 0) (i := i) (B := B) hd o (F.wru o W) i0 (by rw [e0 τ F]; omega) (by omega) (by omega) (by omega) hb H
    have g1 := F.trans f1
    obtain ⟨τ2, f2, b2, h2, r2⟩ := l_frC (sc := sc) (d := d) (c := 0 + 1) (i := i) (B := B + 1) (σ := τ1) hd o (g1.wru o W) i0 (by rw [e0 τ1 g1]; omega) (by omega) (by omega) (by omega) b1 h1
    have g2 := g1.trans f2
    obtain ⟨τ3, f3, b3, h3, r3⟩ := l_frC (sc := sc) (d := d) (c := 0 + 1 + 1) (i := i) (B := B + 1 + 1) (σ := τ2) hd o (g2.wru o W) i0 (by rw [e0 τ2 g2]; omega) (by omega) (by omega) (by omega) b2 h2
    have g3 := g2.trans f3
    rw [g2.eru o, (g2.eat o).2, g1.eru o, (g1.eat o).2, F.eru o, (F.eat o).2] at h3
    obtain ⟨ρ, y1, y2, y3, y4⟩ := ih (i + 1) (B + 1 + 1 + 1) τ3 _ (by omega) (by omega) (by omega) g3 b3 h3
    refine ⟨ρ, y1, by rw [show B + 3 * ((n + 1 : Nat) : Int) = B + 1 + 1 + 1 + 3 * (n : Int) by omega]; exact y2, y3, fun u Q l3 l4 => ?_⟩
    have r1' := r1 u Q l4
    have r2' := r2 u Q (some (vI (τ (a + 3) (i * 3 + 0))))
    have r3' := r3 u Q (some (vI (τ1 (a + 3) (i * 3 + (0 + 1)))))
    rw [x165_2]
    simp (disch := first | assumption | omega | exact notL_I | exact notL_N | exact notL_R | exact catS_le (Nat.le_of_ble_eq_true rfl) | exact Nat.le_of_ble_eq_true rfl | exact ooRo (by assumption) | exact ooAt (by assumption) | exact ooRu (by assumption) | exact ooLo (by assumption) | exact ooHa (by assumption) | exact ooLe (by assumption) | exact ooFn | exact ooAn | exact ooPa | exact ooTo | exact ooWa | exact ooCh | rfl) only [x165_0, x165_1, x165_3, x165_4, x165_7, x165_10, x165_13, x165_14, x165_16, x165_17, x165_20, x165_21, x165_24, x165_25, x165_26, x165_29, x165_31, x165_33, x165_36, x165_39, x165_40, x165_43, x165_45, x165_48, x165_51, x165_52, x165_53, x165_55, x165_56, x165_57, x165_60, x165_63, x165_64, x165_65, x165_66, x165_69, x165_72, x165_75, x165_78, x165_81, x165_84, gRu_ahead, gAt_count oa, e0 τ F, if_pos, if_neg, ↓reduceIte, not_true_eq_false, not_false_eq_true]
    rw [r1', r2', r3', x165_15]
    simp (disch := first | assumption | omega | exact notL_I | exact notL_N | exact notL_R | exact catS_le (Nat.le_of_ble_eq_true rfl) | exact Nat.le_of_ble_eq_true rfl | exact ooRo (by assumption) | exact ooAt (by assumption) | exact ooRu (by assumption) | exact ooLo (by assumption) | exact ooHa (by assumption) | exact ooLe (by assumption) | exact ooFn | exact ooAn | exact ooPa | exact ooTo | exact ooWa | exact ooCh | rfl) only [x165_0, x165_1, x165_3, x165_4, x165_7, x165_10, x165_13, x165_14, x165_16, x165_17, x165_20, x165_21, x165_24, x165_25, x165_26, x165_29, x165_31, x165_33, x165_36, x165_39, x165_40, x165_43, x165_45, x165_48, x165_51, x165_52, x165_53, x165_55, x165_56, x165_57, x165_60, x165_63, x165_64, x165_65, x165_66, x165_69, x165_72, x165_75, x165_78, x165_81, x165_84, if_pos, if_neg, ↓reduceIte, not_true_eq_false, not_false_eq_true]
    exact y4 u Q _ _
theorem s_frF {a d : Nat} {B : Int} {σ : St} {s : Wy} (hd : 3 ≤ d) (o : oRu a) (W : WfRu σ a) (B1 : B + 9 ≤ 100000) (hb : rkB σ B) (H : WyC σ s) :
    ∃ ρ, FwC σ ρ ∧ rkB ρ (B + 9) ∧ WyC ρ (frRu (ruC σ a) s) ∧ RnA sc d 165 0 [some (vR 117), some (vR a), none, none, none] σ none ρ := by
  have w := W.2.2.2.1.1
  obtain ⟨ρ, y1, y2, y3, y4⟩ := l_frF (sc := sc) (d := d) hd o W (σ (a + 1) 0).toNat 0 B σ s (by omega) (by omega) (by omega) FwC.refl hb H
  refine ⟨ρ, y1, fun i i0 i1 => by have := y2 i i0 i1; omega, y3, fun u Q => ?_⟩
  rw [← y4 u Q none none]
  simp (disch := first | assumption | omega | exact notL_I | exact notL_N | exact notL_R | exact catS_le (Nat.le_of_ble_eq_true rfl) | exact Nat.le_of_ble_eq_true rfl | exact ooRo (by assumption) | exact ooAt (by assumption) | exact ooRu (by assumption) | exact ooLo (by assumption) | exact ooHa (by assumption) | exact ooLe (by assumption) | exact ooFn | exact ooAn | exact ooPa | exact ooTo | exact ooWa | exact ooCh | rfl) only [x165_0, x165_1]
/-- a round -/
theorem l_round {b d : Nat} {σ : St} {rd : Int} (hd : 4 ≤ d) (o : oHa b) (W : WfHa σ b) (hb9 : 118 < b ∨ b + 83 < 117) : ∀ (n i : Nat) (B : Int) (τ : St) (s : Wy), i + n = (σ b 1).toNat → B + 9 * n ≤ 100000 → FwC σ τ → rkB τ B → WyC τ s →
    ∃ ρ, FwC σ ρ ∧ rkB ρ (B + 9 * n) ∧ WyC ρ ((rkF σ b n i).foldl rnG s) ∧ ∀ (u : Bool × Nat × Nat × Int) (Q : Rs → HS → Prop), Ex sc d 164 48 [some (vR 117), some (vR b), some (vI rd), some (vI ((i : Int)))] [] (wH τ u) Q ↔ Ex sc d 164 90 [some (vR 117), some (vR b), some (vI rd), some (vI (σ b 1))] [] (wH ρ u) Q := by
  have w := W.2.1
  intro n
  induction n with
  | zero =>
    intro i B τ s ik hB F hb H
    refine ⟨τ, F, by rw [Int.natCast_zero, Int.mul_zero, Int.add_zero]; exact hb, H, fun u Q => ?_⟩
    have e0 : τ b 1 = σ b 1 := by rw [F b (by omega) (by omega)]
    have ei : (i : Int) = σ b 1 := by omega
    rw [x164_48, ei]
    simp (disch := first | assumption | omega | exact notL_I | exact notL_N | exact notL_R | exact catS_le (Nat.le_of_ble_eq_true rfl) | exact Nat.le_of_ble_eq_true rfl | exact ooRo (by assumption) | exact ooAt (by assumption) | exact ooRu (by assumption) | exact ooLo (by assumption) | exact ooHa (by assumption) | exact ooLe (by assumption) | exact ooFn | exact ooAn | exact ooPa | exact ooTo | exact ooWa | exact ooCh | rfl) only [x164_0, x164_1, x164_4, x164_5, x164_8, x164_9, x164_10, x164_13, x164_14, x164_15, x164_18, x164_19, x164_20, x164_21, x164_24, x164_27, x164_28, x164_31, x164_34, x164_35, x164_38, x164_41, x164_42, x164_43, x164_46, x164_47, x164_49, x164_50, x164_53, x164_56, x164_57, x164_59, x164_62, x164_63, x164_66, x164_67, x164_68, x164_71, x164_74, x164_75, x164_76, x164_79, x164_80, x164_81, x164_84, x164_87, x164_93, x164_96, x164_97, x164_100, x164_103, x164_104, x164_107, x164_110, x164_111, x164_114, x164_115, gHa_ruleCount, e0, if_pos, if_neg, ↓reduceIte, not_true_eq_false, not_false_eq_true]
  | succ n ih =>
    intro i B τ s ik hB F hb H
    have hi : i ≤ 9 := by omega
    have e0 : τ b 1 = σ b 1 := by rw [F b (by omega) (by omega)]
    have ou := o.ru hi
    have Wu := W.2.2.2.2.2.2 i hi
    have Wu' := F.wru ou Wu
    have ek : τ (b + 14 + 7 * i) 0 = (ruC σ (b + 14 + 7 * i)).1 := by rw [F (b + 14 + 7 * i) (by omega) (by omega)]; rfl
    have wk := Wu.1
    have rr : ∀ (σ : St) (u : Bool × Nat × Nat × Int) (f : V → Prop), Rr (wH σ u) (b + 2) (i : Int) f = f (vR (b + 14 + 7 * i)) := fun σ u f => by
      have := Rr_rules (σ := σ) (u := u) (f := f) o (i := (i : Int)) (by omega) (by omega)
      rw [Int.toNat_natCast] at this
      exact this
    rw [rkF, List.foldl_cons]
    have wk' : 0 ≤ (ruC σ (b + 14 + 7 * i)).1 ∧ (ruC σ (b + 14 + 7 * i)).1 ≤ 2 := wk
    by_cases h0 : (ruC σ (b + 14 + 7 * i)).1 = 0
    · obtain ⟨ρ1, y1, y2, y3, y4⟩ := s_frF (sc := sc) (d := d - 1) (B := B) (by omega) ou Wu' (by omega) hb H
      rw [F.eru ou] at y3
      have eg : rnG s (ruC σ (b + 14 + 7 * i)) = frRu (ruC σ (b + 14 + 7 * i)) s := if_pos h0
      rw [eg]
      obtain ⟨ρ, z1, z2, z3, z4⟩ := ih (i + 1) (B + 9) ρ1 _ (by omega) (by omega) (F.trans y1) y2 y3
      refine ⟨ρ, z1, by rw [show B + 9 * ((n + 1 : Nat) : Int) = B + 9 + 9 * (n : Int) by omega]; exact z2, z3, fun u Q => ?_⟩
      have z5 := z4 u Q
      rw [show ((i + 1 : Nat) : Int) = (i : Int) + 1 by omega] at z5
      rw [x164_48]
      simp (disch := first | assumption | omega | exact notL_I | exact notL_N | exact notL_R | exact catS_le (Nat.le_of_ble_eq_true rfl) | exact Nat.le_of_ble_eq_true rfl | exact ooRo (by assumption) | exact ooAt (by assumption) | exact ooRu (by assumption) | exact ooLo (by assumption) | exact ooHa (by assumption) | exact ooLe (by assumption) | exact ooFn | exact ooAn | exact ooPa | exact ooTo | exact ooWa | exact ooCh | rfl) only [x164_0, x164_1, x164_4, x164_5, x164_8, x164_9, x164_10, x164_13, x164_14, x164_15, x164_18, x164_19, x164_20, x164_21, x164_24, x164_27, x164_28, x164_31, x164_34, x164_35, x164_38, x164_41, x164_42, x164_43, x164_46, x164_47, x164_49, x164_50, x164_53, x164_56, x164_57, x164_59, x164_62, x164_63, x164_66, x164_67, x164_68, x164_71, x164_74, x164_75, x164_76, x164_79, x164_80, x164_81, x164_84, x164_87, x164_93, x164_96, x164_97, x164_100, x164_103, x164_104, x164_107, x164_110, x164_111, x164_114, x164_115, gHa_ruleCount, gHa_rules, rr, gRu_kind ou, ek, h0, e0, y4 u, Kc_none, if_pos, if_neg, ↓reduceIte, not_true_eq_false, not_false_eq_true]
      exact z5
    · have eg : rnG s (ruC σ (b + 14 + 7 * i)) = s := if_neg h0
      rw [eg]
      obtain ⟨ρ, z1, z2, z3, z4⟩ := ih (i + 1) (B + 9) τ s (by omega) (by omega) F (fun i i0 i1 => by have := hb i i0 i1; omega) H
      refine ⟨ρ, z1, by rw [show B + 9 * ((n + 1 : Nat) : Int) = B + 9 + 9 * (n : Int) by omega]; exact z2, z3, fun u Q => ?_⟩
      have z5 := z4 u Q
      rw [show ((i + 1 : Nat) : Int) = (i : Int) + 1 by omega] at z5
      rw [x164_48]
      simp (disch := first | assumption | omega | exact notL_I | exact notL_N | exact notL_R | exact catS_le (Nat.le_of_ble_eq_true rfl) | exact Nat.le_of_ble_eq_true rfl | exact ooRo (by assumption) | exact ooAt (by assumption) | exact ooRu (by assumption) | exact ooLo (by assumption) | exact ooHa (by assumption) | exact ooLe (by assumption) | exact ooFn | exact ooAn | exact ooPa | exact ooTo | exact ooWa | exact ooCh | rfl) only [x164_0, x164_1, x164_4, x164_5, x164_8, x164_9, x164_10, x164_13, x164_14, x164_15, x164_18, x164_19, x164_20, x164_21, x164_24, x164_27, x164_28, x164_31, x164_34, x164_35, x164_38, x164_41, x164_42, x164_43, x164_46, x164_47, x164_49, x164_50, x164_53, x164_56, x164_57, x164_59, x164_62, x164_63, x164_66, x164_67, x164_68, x164_71, x164_74, x164_75, x164_76, x164_79, x164_80, x164_81, x164_84, x164_87, x164_93, x164_96, x164_97, x164_100, x164_103, x164_104, x164_107, x164_110, x164_111, x164_114, x164_115, gHa_ruleCount, gHa_rules, rr, gRu_kind ou, ek, e0, if_pos, if_neg, ↓reduceIte, not_true_eq_false, not_false_eq_true]
      exact z5
theorem l_meas {b d : Nat} {σ : St} (hd : 4 ≤ d) (o : oHa b) (W : WfHa σ b) (hb9 : 118 < b ∨ b + 83 < 117) : ∀ (n : Nat) (rd : Int) (τ : St) (s : Wy), rd + n = 361 → 0 ≤ rd → FwC σ τ → rkB τ (90 * (361 - n)) → WyC τ s →
    ∃ ρ, FwC σ ρ ∧ rkB ρ 40000 ∧ WyC ρ (msF (rlC σ b) n s) ∧ ∀ (u : Bool × Nat × Nat × Int) (Q : Rs → HS → Prop) (l3 : Option V), Ex sc d 164 20 [some (vR 117), some (vR b), some (vI rd), l3] [] (wH τ u) Q ↔ Q (.inl (some (vI (if (msF (rlC σ b) n s).2.1 = false ∧ (msF (rlC σ b) n s).2.2 = false then 1 else 0)))) (wH ρ u) := by
  have w := W.2.1
  have fin : ∀ (τ : St) (s : Wy) (rd : Int) (u : Bool × Nat × Nat × Int) (Q : Rs → HS → Prop) (l3 : Option V), WyC τ s → (Ex sc d 164 96 [some (vR 117), some (vR b), some (vI rd), l3] [] (wH τ u) Q ↔ Q (.inl (some (vI (if s.2.1 = false ∧ s.2.2 = false then 1 else 0)))) (wH τ u)) := by
    intro τ s rd u Q l3 H
    obtain ⟨h1, h2, h3⟩ := H
    rw [x164_96]
    cases q1 : s.2.1 with
    | true =>
      rw [q1, bI_t] at h2
      rw [if_neg (by simp)]
      simp (disch := first | assumption | omega | exact notL_I | exact notL_N | exact notL_R | exact catS_le (Nat.le_of_ble_eq_true rfl) | exact Nat.le_of_ble_eq_true rfl | exact ooRo (by assumption) | exact ooAt (by assumption) | exact ooRu (by assumption) | exact ooLo (by assumption) | exact ooHa (by assumption) | exact ooLe (by assumption) | exact ooFn | exact ooAn | exact ooPa | exact ooTo | exact ooWa | exact ooCh | rfl) only [x164_0, x164_1, x164_4, x164_5, x164_8, x164_9, x164_10, x164_13, x164_14, x164_15, x164_18, x164_19, x164_21, x164_24, x164_27, x164_28, x164_31, x164_34, x164_35, x164_38, x164_41, x164_42, x164_43, x164_46, x164_47, x164_49, x164_50, x164_53, x164_56, x164_57, x164_59, x164_62, x164_63, x164_66, x164_67, x164_68, x164_71, x164_74, x164_75, x164_76, x164_79, x164_80, x164_81, x164_84, x164_87, x164_93, x164_97, x164_100, x164_103, x164_104, x164_107, x164_110, x164_111, x164_114, x164_115, gWa_raised, h2, if_pos, if_neg, ↓reduceIte, not_true_eq_false, not_false_eq_true]
    | false =>
      rw [q1, bI_f] at h2
      cases q2 : s.2.2 with
      | true =>
        rw [q2, bI_t] at h3
        rw [if_neg (by simp)]
        simp (disch := first | assumption | omega | exact notL_I | exact notL_N | exact notL_R | exact catS_le (Nat.le_of_ble_eq_true rfl) | exact Nat.le_of_ble_eq_true rfl | exact ooRo (by assumption) | exact ooAt (by assumption) | exact ooRu (by assumption) | exact ooLo (by assumption) | exact ooHa (by assumption) | exact ooLe (by assumption) | exact ooFn | exact ooAn | exact ooPa | exact ooTo | exact ooWa | exact ooCh | rfl) only [x164_0, x164_1, x164_4, x164_5, x164_8, x164_9, x164_10, x164_13, x164_14, x164_15, x164_18, x164_19, x164_21, x164_24, x164_27, x164_28, x164_31, x164_34, x164_35, x164_38, x164_41, x164_42, x164_43, x164_46, x164_47, x164_49, x164_50, x164_53, x164_56, x164_57, x164_59, x164_62, x164_63, x164_66, x164_67, x164_68, x164_71, x164_74, x164_75, x164_76, x164_79, x164_80, x164_81, x164_84, x164_87, x164_93, x164_97, x164_100, x164_103, x164_104, x164_107, x164_110, x164_111, x164_114, x164_115, gWa_raised, gWa_ringed, h2, h3, if_pos, if_neg, ↓reduceIte, not_true_eq_false, not_false_eq_true]
      | false =>
        rw [q2, bI_f] at h3
        rw [if_pos ⟨rfl, rfl⟩]
        simp (disch := first | assumption | omega | exact notL_I | exact notL_N | exact notL_R | exact catS_le (Nat.le_of_ble_eq_true rfl) | exact Nat.le_of_ble_eq_true rfl | exact ooRo (by assumption) | exact ooAt (by assumption) | exact ooRu (by assumption) | exact ooLo (by assumption) | exact ooHa (by assumption) | exact ooLe (by assumption) | exact ooFn | exact ooAn | exact ooPa | exact ooTo | exact ooWa | exact ooCh | rfl) only [x164_0, x164_1, x164_4, x164_5, x164_8, x164_9, x164_10, x164_13, x164_14, x164_15, x164_18, x164_19, x164_21, x164_24, x164_27, x164_28, x164_31, x164_34, x164_35, x164_38, x164_41, x164_42, x164_43, x164_46, x164_47, x164_49, x164_50, x164_53, x164_56, x164_57, x164_59, x164_62, x164_63, x164_66, x164_67, x164_68, x164_71, x164_74, x164_75, x164_76, x164_79, x164_80, x164_81, x164_84, x164_87, x164_93, x164_97, x164_100, x164_103, x164_104, x164_107, x164_110, x164_111, x164_114, x164_115, gWa_raised, gWa_ringed, h2, h3, if_pos, if_neg, ↓reduceIte, not_true_eq_false, not_false_eq_true]
  intro n
  induction n with
  | zero =>
    intro rd τ s hr r0 F hb H
    refine ⟨τ, F, fun i i0 i1 => by have := hb i i0 i1; omega, H, fun u Q l3 => ?_⟩
    rw [msF, ← fin τ s rd u Q l3 H, x164_20]
    simp (disch := first | assumption | omega | exact notL_I | exact notL_N | exact notL_R | exact catS_le (Nat.le_of_ble_eq_true rfl) | exact Nat.le_of_ble_eq_true rfl | exact ooRo (by assumption) | exact ooAt (by assumption) | exact ooRu (by assumption) | exact ooLo (by assumption) | exact ooHa (by assumption) | exact ooLe (by assumption) | exact ooFn | exact ooAn | exact ooPa | exact ooTo | exact ooWa | exact ooCh | rfl) only [x164_0, x164_1, x164_4, x164_5, x164_8, x164_9, x164_10, x164_13, x164_14, x164_15, x164_18, x164_19, x164_21, x164_24, x164_27, x164_28, x164_31, x164_34, x164_35, x164_38, x164_41, x164_42, x164_43, x164_46, x164_47, x164_49, x164_50, x164_53, x164_56, x164_57, x164_59, x164_62, x164_63, x164_66, x164_67, x164_68, x164_71, x164_74, x164_75, x164_76, x164_79, x164_80, x164_81, x164_84, x164_87, x164_93, x164_97, x164_100, x164_103, x164_104, x164_107, x164_110, x164_111, x164_114, x164_115, if_pos, if_neg, ↓reduceIte, not_true_eq_false, not_false_eq_true]
  | succ n ih =>
    intro rd τ s hr r0 F hb H
    obtain ⟨h1, h2, h3⟩ := H
    rw [msF]
    by_cases hc : s.2.1 = true ∧ s.2.2 = false
    · rw [if_pos hc]
      rw [hc.1, bI_t] at h2
      rw [hc.2, bI_f] at h3
      have F1 : FwC σ (su τ 117 1 0) := F.trans (fun c a _ => su_ne a)
      have H1 : WyC (su τ 117 1 0) (s.1, false, false) := ⟨by rw [← h1]; unfold rkC; rw [su_ne (by omega)], su_eq, by rw [su_off (by omega), h3]; rfl⟩
      obtain ⟨ρ1, y1, y2, y3, y4⟩ := l_round (sc := sc) (d := d) (rd := rd) hd o W hb9 (σ b 1).toNat 0 (90 * (361 - (n + 1 : Nat))) (su τ 117 1 0) (s.1, false, false) (by omega) (by omega) F1 (fun i i0 i1 => by rw [su_ne (by omega)]; exact hb i i0 i1) H1
      obtain ⟨ρ, z1, z2, z3, z4⟩ := ih (rd + 1) ρ1 _ (by omega) (by omega) y1 (fun i i0 i1 => by have := y2 i i0 i1; omega) y3
      refine ⟨ρ, z1, z2, z3, fun u Q l3 => ?_⟩
      have y5 := y4 u Q
      rw [Int.natCast_zero] at y5
      refine Iff.trans ?_ (z4 u Q (some (vI (σ b 1))))
      rw [x164_20]
      simp (disch := first | assumption | omega | exact notL_I | exact notL_N | exact notL_R | exact catS_le (Nat.le_of_ble_eq_true rfl) | exact Nat.le_of_ble_eq_true rfl | exact ooRo (by assumption) | exact ooAt (by assumption) | exact ooRu (by assumption) | exact ooLo (by assumption) | exact ooHa (by assumption) | exact ooLe (by assumption) | exact ooFn | exact ooAn | exact ooPa | exact ooTo | exact ooWa | exact ooCh | rfl) only [x164_0, x164_1, x164_4, x164_5, x164_8, x164_9, x164_10, x164_13, x164_14, x164_15, x164_18, x164_19, x164_21, x164_24, x164_27, x164_28, x164_31, x164_34, x164_35, x164_38, x164_41, x164_42, x164_43, x164_46, x164_47, x164_49, x164_50, x164_53, x164_56, x164_57, x164_59, x164_62, x164_63, x164_66, x164_67, x164_68, x164_71, x164_74, x164_75, x164_76, x164_79, x164_80, x164_81, x164_84, x164_87, x164_93, x164_97, x164_100, x164_103, x164_104, x164_107, x164_110, x164_111, x164_114, x164_115, gWa_raised, gWa_ringed, pWa_raised, h2, h3, if_pos, if_neg, ↓reduceIte, not_true_eq_false, not_false_eq_true]
      rw [y5, x164_90]
      simp (disch := first | assumption | omega | exact notL_I | exact notL_N | exact notL_R | exact catS_le (Nat.le_of_ble_eq_true rfl) | exact Nat.le_of_ble_eq_true rfl | exact ooRo (by assumption) | exact ooAt (by assumption) | exact ooRu (by assumption) | exact ooLo (by assumption) | exact ooHa (by assumption) | exact ooLe (by assumption) | exact ooFn | exact ooAn | exact ooPa | exact ooTo | exact ooWa | exact ooCh | rfl) only [x164_0, x164_1, x164_4, x164_5, x164_8, x164_9, x164_10, x164_13, x164_14, x164_15, x164_18, x164_19, x164_21, x164_24, x164_27, x164_28, x164_31, x164_34, x164_35, x164_38, x164_41, x164_42, x164_43, x164_46, x164_47, x164_49, x164_50, x164_53, x164_56, x164_57, x164_59, x164_62, x164_63, x164_66, x164_67, x164_68, x164_71, x164_74, x164_75, x164_76, x164_79, x164_80, x164_81, x164_84, x164_87, x164_93, x164_97, x164_100, x164_103, x164_104, x164_107, x164_110, x164_111, x164_114, x164_115]
    · rw [if_neg hc]
      refine ⟨τ, F, fun i i0 i1 => by have := hb i i0 i1; omega, ⟨h1, h2, h3⟩, fun u Q l3 => ?_⟩
      rw [← fin τ s rd u Q l3 ⟨h1, h2, h3⟩, x164_20]
      cases q1 : s.2.1 with
      | false =>
        rw [q1, bI_f] at h2
        simp (disch := first | assumption | omega | exact notL_I | exact notL_N | exact notL_R | exact catS_le (Nat.le_of_ble_eq_true rfl) | exact Nat.le_of_ble_eq_true rfl | exact ooRo (by assumption) | exact ooAt (by assumption) | exact ooRu (by assumption) | exact ooLo (by assumption) | exact ooHa (by assumption) | exact ooLe (by assumption) | exact ooFn | exact ooAn | exact ooPa | exact ooTo | exact ooWa | exact ooCh | rfl) only [x164_0, x164_1, x164_4, x164_5, x164_8, x164_9, x164_10, x164_13, x164_14, x164_15, x164_18, x164_19, x164_21, x164_24, x164_27, x164_28, x164_31, x164_34, x164_35, x164_38, x164_41, x164_42, x164_43, x164_46, x164_47, x164_49, x164_50, x164_53, x164_56, x164_57, x164_59, x164_62, x164_63, x164_66, x164_67, x164_68, x164_71, x164_74, x164_75, x164_76, x164_79, x164_80, x164_81, x164_84, x164_87, x164_93, x164_97, x164_100, x164_103, x164_104, x164_107, x164_110, x164_111, x164_114, x164_115, gWa_raised, h2, if_pos, if_neg, ↓reduceIte, not_true_eq_false, not_false_eq_true]
      | true =>
        cases q2 : s.2.2 with
        | false => exact absurd ⟨q1, q2⟩ hc
        | true =>
          rw [q1, bI_t] at h2
          rw [q2, bI_t] at h3
          simp (disch := first | assumption | omega | exact notL_I | exact notL_N | exact notL_R | exact catS_le (Nat.le_of_ble_eq_true rfl) | exact Nat.le_of_ble_eq_true rfl | exact ooRo (by assumption) | exact ooAt (by assumption) | exact ooRu (by assumption) | exact ooLo (by assumption) | exact ooHa (by assumption) | exact ooLe (by assumption) | exact ooFn | exact ooAn | exact ooPa | exact ooTo | exact ooWa | exact ooCh | rfl) only [x164_0, x164_1, x164_4, x164_5, x164_8, x164_9, x164_10, x164_13, x164_14, x164_15, x164_18, x164_19, x164_21, x164_24, x164_27, x164_28, x164_31, x164_34, x164_35, x164_38, x164_41, x164_42, x164_43, x164_46, x164_47, x164_49, x164_50, x164_53, x164_56, x164_57, x164_59, x164_62, x164_63, x164_66, x164_67, x164_68, x164_71, x164_74, x164_75, x164_76, x164_79, x164_80, x164_81, x164_84, x164_87, x164_93, x164_97, x164_100, x164_103, x164_104, x164_107, x164_110, x164_111, x164_114, x164_115, gWa_raised, gWa_ringed, h2, h3, if_pos, if_neg, ↓reduceIte, not_true_eq_false, not_false_eq_true]
/-- the class measures the ways of a hall -/
theorem s_meas {b d : Nat} {σ : St} (hd : 4 ≤ d) (o : oHa b) (W : WfHa σ b) (hb9 : 118 < b ∨ b + 83 < 117) (h3 : ∀ t, 0 ≤ coC σ b t ∧ coC σ b t ≤ 3) (h6 : tabF (coC σ b) 26 0 ≤ 6) (hr : ∀ r ∈ rlC σ b, okRl (coC σ b) r) :
    ∃ ρ v, FwC σ ρ ∧ rkB ρ 40000 ∧ ((v = 1 ∧ ¬ Ring (EgR (rlC σ b)) ∧ Clo (EgR (rlC σ b)) (rkC ρ) ∧ Rch (EgR (rlC σ b)) (rkC ρ)) ∨ (v = 0 ∧ Ring (EgR (rlC σ b)))) ∧ RnA sc d 164 0 [some (vR 117), some (vR b), none, none] σ (some (vI v)) ρ := by
  have F0 : FwC σ (su (su (fl σ 118 0 78 0) 117 1 1) 117 2 0) := fun c a b => by rw [su_ne a, su_ne a, fl_ne b]
  have e118 : ∀ i, su (su (fl σ 118 0 78 0) 117 1 1) 117 2 0 118 i = if 0 ≤ i ∧ i < 78 then 0 else σ 118 i := fun i => by rw [su_ne (by omega), su_ne (by omega), fl_at]
  have H0 : WyC (su (su (fl σ 118 0 78 0) 117 1 1) 117 2 0) (fun _ => 0, true, false) := by
    refine ⟨?_, by rw [su_off (by omega), su_eq]; rfl, su_eq⟩
    funext i
    unfold rkC
    rw [e118]
    split <;> rfl
  obtain ⟨ρ, y1, y2, y3, y4⟩ := l_meas (sc := sc) (d := d) hd o W hb9 361 0 _ _ (by omega) (by omega) F0 (fun i i0 i1 => by rw [e118, if_pos ⟨i0, i1⟩]; omega) H0
  have mv := ms_v (rs := rlC σ b) (Pl := plcs (coC σ b)) (fun x y k h => EgR_pl hr h) (plcs_nd (fun t => (h3 t).2)) (plcs_len (fun t => (h3 t).1) (fun t => (h3 t).2) h6) 361 (fun _ => 0, true, false) ⟨Rch.zero, (fun h => by cases h), fun _ _ => (by show (0 : Int) < 18; decide), fun _ _ => rfl⟩ rfl (by rw [smP_0]; omega)
  have run : ∀ (u : Bool × Nat × Nat × Int) (Q : Rs → HS → Prop), Ex sc d 164 0 [some (vR 117), some (vR b), none, none] [] (wH σ u) Q ↔ Q (.inl (some (vI (if (msF (rlC σ b) 361 (fun _ => 0, true, false)).2.1 = false ∧ (msF (rlC σ b) 361 (fun _ => 0, true, false)).2.2 = false then 1 else 0)))) (wH ρ u) := by
    intro u Q
    rw [← y4 u Q none]
    have fi := fun u Q => s_fill (sc := sc) (σ := σ) (u := u) (Q := Q) (d := d - 1) (v := 0) sWa_ranks.1 sWa_ranks.2 (by decide)
    have e78 : ((78 : Nat) : Int) = 78 := rfl
    rw [e78] at fi
    simp (disch := first | assumption | omega | exact notL_I | exact notL_N | exact notL_R | exact catS_le (Nat.le_of_ble_eq_true rfl) | exact Nat.le_of_ble_eq_true rfl | exact ooRo (by assumption) | exact ooAt (by assumption) | exact ooRu (by assumption) | exact ooLo (by assumption) | exact ooHa (by assumption) | exact ooLe (by assumption) | exact ooFn | exact ooAn | exact ooPa | exact ooTo | exact ooWa | exact ooCh | rfl) only [x164_0, x164_1, x164_4, x164_5, x164_8, x164_9, x164_10, x164_13, x164_14, x164_15, x164_18, x164_19, x164_21, x164_24, x164_27, x164_28, x164_31, x164_34, x164_35, x164_38, x164_41, x164_42, x164_43, x164_46, x164_47, x164_48, x164_49, x164_50, x164_53, x164_56, x164_57, x164_59, x164_62, x164_63, x164_66, x164_67, x164_68, x164_71, x164_74, x164_75, x164_76, x164_79, x164_80, x164_81, x164_84, x164_87, x164_90, x164_93, x164_96, x164_97, x164_100, x164_103, x164_104, x164_107, x164_110, x164_111, x164_114, x164_115, gWa_ranks, fi, pWa_raised, pWa_ringed, Kc_none]
  by_cases hc : (msF (rlC σ b) 361 (fun _ => 0, true, false)).2.1 = false ∧ (msF (rlC σ b) 361 (fun _ => 0, true, false)).2.2 = false
  · have q := mv.1 hc
    rw [← y3.1] at q
    refine ⟨ρ, 1, y1, y2, Or.inl ⟨rfl, q.1.noring, q.1, q.2⟩, fun u Q => ?_⟩
    rw [run u Q, if_pos hc]
  · refine ⟨ρ, 0, y1, y2, Or.inr ⟨rfl, mv.2 hc⟩, fun u Q => ?_⟩
    rw [run u Q, if_neg hc]
end G2
