/-! ways of the reference: rules -/
def mS (q : Ru) (a : At) (c : Nat) (j : Int) : Prop := 2000 ≤ plN a c ∧ mentL q.2.2.1 (plN a c) = true ∧ ∃ b ∈ q.2.2.1, ∃ e : Nat, e < 3 ∧ j = 78 * (3 * a.1 + c) + (3 * b.1 + e) ∧ 2000 ≤ plN b e ∧ (plN b e = plN a c ∨ mentL q.2.1 (plN b e) = false)
def mT (q : Ru) (a : At) (c : Nat) (j : Int) : Prop := 2000 ≤ plN a c ∧ mentL q.2.2.1 (plN a c) = true ∧ ∃ b ∈ q.2.2.1, ∃ e : Nat, e < 3 ∧ j = 78 * (3 * a.1 + c) + (3 * b.1 + e) ∧ 2000 ≤ plN b e ∧ mentL q.2.1 (plN b e) = false
def rS (rs : List Ru) (j : Int) : Prop := ∃ q ∈ rs, q.1 = 0 ∧ ∃ a ∈ q.2.1, ∃ c : Nat, c < 3 ∧ mS q a c j
def rT (rs : List Ru) (j : Int) : Prop := ∃ q ∈ rs, q.1 = 0 ∧ ∃ a ∈ q.2.1, ∃ c : Nat, c < 3 ∧ mT q a c j
theorem rS_E {C : Int → Int} {rs : List Ru} (hr : ∀ r ∈ rs, okRl C r) {x y : Int} (x0 : 0 ≤ x) (x1 : x < 78) (y0 : 0 ≤ y) (y1 : y < 78) : (rS rs (78 * x + y) ↔ ∃ k, EgR rs x y k) ∧ (rT rs (78 * x + y) ↔ EgR rs x y 1) := by
  have ok : ∀ q ∈ rs, (∀ a ∈ q.2.1, 0 ≤ a.1 ∧ a.1 ≤ 25) ∧ ∀ a ∈ q.2.2.1, 0 ≤ a.1 ∧ a.1 ≤ 25 := fun q hq => ⟨fun a ha => ⟨((hr q hq).2.1 a ha).1, ((hr q hq).2.1 a ha).2.1⟩, fun a ha => ⟨((hr q hq).2.2.1 a ha).1, ((hr q hq).2.2.1 a ha).2.1⟩⟩
  constructor
  · constructor
    · rintro ⟨q, hq, h0, a, ha, c, hc, h1, h2, b, hb, e, he, hj, h3, h4⟩
      have oa := (ok q hq).1 a ha
      have ob := (ok q hq).2 b hb
      have ex : x = 3 * a.1 + c := by omega
      have ey : y = 3 * b.1 + e := by omega
      rcases h4 with h4 | h4
      · exact ⟨0, q, hq, h0, a, ha, c, hc, ex, h1, h2, b, hb, e, he, ey, Or.inl ⟨h4, rfl⟩⟩
      · exact ⟨1, q, hq, h0, a, ha, c, hc, ex, h1, h2, b, hb, e, he, ey, Or.inr ⟨h3, h4, rfl⟩⟩
    · rintro ⟨k, q, hq, h0, a, ha, c, hc, ex, h1, h2, b, hb, e, he, ey, h4⟩
      refine ⟨q, hq, h0, a, ha, c, hc, h1, h2, b, hb, e, he, by rw [ex, ey], ?_⟩
      rcases h4 with ⟨h4, -⟩ | ⟨h3, h4, -⟩
      · exact ⟨by omega, Or.inl h4⟩
      · exact ⟨h3, Or.inr h4⟩
  · constructor
    · rintro ⟨q, hq, h0, a, ha, c, hc, h1, h2, b, hb, e, he, hj, h3, h4⟩
      have oa := (ok q hq).1 a ha
      have ob := (ok q hq).2 b hb
      have ex : x = 3 * a.1 + c := by omega
      have ey : y = 3 * b.1 + e := by omega
      exact ⟨q, hq, h0, a, ha, c, hc, ex, h1, h2, b, hb, e, he, ey, Or.inr ⟨h3, h4, rfl⟩⟩
    · rintro ⟨q, hq, h0, a, ha, c, hc, ex, h1, h2, b, hb, e, he, ey, h4⟩
      refine ⟨q, hq, h0, a, ha, c, hc, h1, h2, b, hb, e, he, by rw [ex, ey], ?_⟩
      rcases h4 with ⟨-, h4⟩ | ⟨h3, h4, -⟩
      · omega
      · exact ⟨h3, h4⟩
section H3
variable {sc : Scr} {h r : Int}
theorem l_wy1 {σ : St} {d : Nat} {i : Int} {c : Nat} (hd : 4 ≤ d) (W : WfM σ) (h1 : 0 ≤ h) (h2 : h ≤ 4) (r1 : 0 ≤ r) (r2 : r ≤ 9) (i0 : 0 ≤ i) (i1 : i ≤ 2) (hcc : 1 ≤ σ 374 (26 * h + σ 376 (30 * (10 * h + r) + (3 + 4 * (3 * 0 + i))))) (hc : (c : Int) < σ 374 (26 * h + σ 376 (30 * (10 * h + r) + (3 + 4 * (3 * 0 + i))))) (ha : atC σ h r 0 (σ 376 (30 * (10 * h + r)))) (hb : atC σ h r 1 (σ 376 (30 * (10 * h + r) + 2))) :
    ∃ ρ, MkR (mS (ruR σ h r) (atR σ h r 0 i) c) (mT (ruR σ h r) (atR σ h r 0 i) c) σ ρ ∧ ∀ (u : Bool × Nat × Nat × Int) (Q : Rs → HS → Prop) (l5 : Option V), ∃ l5', Ex sc d 269 70 [some (vR 373), some (vI h), some (vI r), some (vI i), some (vI ((c : Int))), l5] [] (wH σ u) Q ↔ Ex sc d 269 70 [some (vR 373), some (vI h), some (vI r), some (vI i), some (vI ((c : Int) + 1)), l5'] [] (wH ρ u) Q := by
  obtain ⟨a1, q1, q2, q3⟩ := W.ato (s := 0) (i := i) h1 h2 r1 r2 (by omega) (by omega) i0 i1
  have wc := W.col h1 h2 a1.1 a1.2
  have hc3 : c < 3 := by omega
  have z0 : 3 + 4 * (3 * 0 + i) + 0 = 3 + 4 * (3 * 0 + i) := by omega
  have ep := pl_R (s := 0) (i := i) hc3 hcc
  rw [if_pos hc] at ep
  have et : (atR σ h r 0 i).1 = σ 376 (30 * (10 * h + r) + (3 + 4 * (3 * 0 + i))) := rfl
  have wp : isPl (σ 376 (30 * (10 * h + r) + (3 + 4 * (3 * 0 + i) + (1 + (c : Int))))) := by
    rcases (show c = 0 ∨ c = 1 ∨ c = 2 by omega) with rfl | rfl | rfl
    · exact q1
    · exact q2
    · exact q3
  have wp' := isPl_in wp
  have at0 := fun u Q => s_atom (sc := sc) (σ := σ) (u := u) (Q := Q) (d := d - 1) (h := h) (r := r) (s := 0) (i := i) (f := 0) (by omega) h1 h2 r1 r2 (by omega) (by omega)
  rw [z0] at at0
  have atc := fun u Q => s_atom (sc := sc) (σ := σ) (u := u) (Q := Q) (d := d - 1) (h := h) (r := r) (s := 0) (i := i) (f := 1 + (c : Int)) (by omega) h1 h2 r1 r2 (by omega) (by omega)
  have eqb : (ruR σ h r).2.2.1 = atsF σ h r 1 (σ 376 (30 * (10 * h + r) + 2)).toNat 0 := rfl
  by_cases h20 : 2000 ≤ σ 376 (30 * (10 * h + r) + (3 + 4 * (3 * 0 + i) + (1 + (c : Int))))
  · have be := fun u Q => s_isBe (sc := sc) (σ := σ) (u := u) (Q := Q) (d := d - 1) (v := σ 376 (30 * (10 * h + r) + (3 + 4 * (3 * 0 + i) + (1 + (c : Int))))) (by omega) W h1 h2 r1 r2 ⟨by omega, by omega⟩ (by omega) hb
    cases hm : mentL (atsF σ h r 1 (σ 376 (30 * (10 * h + r) + 2)).toNat 0) (σ 376 (30 * (10 * h + r) + (3 + 4 * (3 * 0 + i) + (1 + (c : Int))))) with
    | true =>
      rw [hm, bI_t] at be
      obtain ⟨ρ, m, x⟩ := s_from (sc := sc) (h := h) (r := r) (σ := σ) (d := d - 1) (pl := 3 * σ 376 (30 * (10 * h + r) + (3 + 4 * (3 * 0 + i))) + (c : Int)) (v := σ 376 (30 * (10 * h + r) + (3 + 4 * (3 * 0 + i) + (1 + (c : Int))))) (by omega) W h1 h2 r1 r2 (by omega) (by omega) ⟨by omega, by omega⟩ ha hb
      refine ⟨ρ, m.c (fun j => ?_) (fun j => ?_), fun u Q l5 => ⟨some (vI (σ 376 (30 * (10 * h + r) + (3 + 4 * (3 * 0 + i) + (1 + (c : Int)))))), ?_⟩⟩
      · unfold mS
        rw [ep, et, eqb]
        exact ⟨fun y => y.2.2, fun y => ⟨h20, hm, y⟩⟩
      · unfold mT
        rw [ep, et, eqb]
        exact ⟨fun y => y.2.2, fun y => ⟨h20, hm, y⟩⟩
      · rw [x269_70]
        simp (disch := first | omega | exact notL_I | exact notL_N | exact notL_R | exact oM | exact catS_le (Nat.le_of_ble_eq_true rfl) | exact Nat.le_of_ble_eq_true rfl | rfl) only [x269_0, x269_1, x269_2, x269_3, x269_6, x269_9, x269_10, x269_13, x269_14, x269_15, x269_16, x269_17, x269_20, x269_21, x269_22, x269_23, x269_26, x269_29, x269_30, x269_32, x269_33, x269_36, x269_37, x269_38, x269_41, x269_42, x269_43, x269_44, x269_45, x269_48, x269_51, x269_54, x269_55, x269_57, x269_58, x269_59, x269_60, x269_61, x269_64, x269_67, x269_68, x269_72, x269_73, x269_74, x269_75, x269_76, x269_77, x269_78, x269_79, x269_80, x269_83, x269_86, x269_89, x269_90, x269_91, x269_92, x269_93, x269_94, x269_95, x269_97, x269_98, x269_101, x269_103, x269_105, x269_108, x269_111, x269_112, x269_113, x269_114, x269_116, x269_119, x269_122, x269_123, x269_124, x269_125, x269_126, x269_127, x269_128, x269_129, x269_130, x269_131, x269_132, x269_135, x269_136, x269_138, x269_139, x269_141, x269_144, x269_147, x269_153, x269_156, x269_159, x269_162, s_colsOf, at0, atc, be, x u, Kc_some, Kc_none, if_pos, if_neg, ↓reduceIte, not_true_eq_false, not_false_eq_true]
    | false =>
      rw [hm, bI_f] at be
      refine ⟨σ, MkR.refl (fun j y => ?_) (fun j y => ?_), fun u Q l5 => ⟨some (vI (σ 376 (30 * (10 * h + r) + (3 + 4 * (3 * 0 + i) + (1 + (c : Int)))))), ?_⟩⟩
      · have := y.2.1
        rw [ep, eqb, hm] at this
        cases this
      · have := y.2.1
        rw [ep, eqb, hm] at this
        cases this
      · rw [x269_70]
        simp (disch := first | omega | exact notL_I | exact notL_N | exact notL_R | exact oM | exact catS_le (Nat.le_of_ble_eq_true rfl) | exact Nat.le_of_ble_eq_true rfl | rfl) only [x269_0, x269_1, x269_2, x269_3, x269_6, x269_9, x269_10, x269_13, x269_14, x269_15, x269_16, x269_17, x269_20, x269_21, x269_22, x269_23, x269_26, x269_29, x269_30, x269_32, x269_33, x269_36, x269_37, x269_38, x269_41, x269_42, x269_43, x269_44, x269_45, x269_48, x269_51, x269_54, x269_55, x269_57, x269_58, x269_59, x269_60, x269_61, x269_64, x269_67, x269_68, x269_72, x269_73, x269_74, x269_75, x269_76, x269_77, x269_78, x269_79, x269_80, x269_83, x269_86, x269_89, x269_90, x269_91, x269_92, x269_93, x269_94, x269_95, x269_97, x269_98, x269_101, x269_103, x269_105, x269_108, x269_111, x269_112, x269_113, x269_114, x269_116, x269_119, x269_122, x269_123, x269_124, x269_125, x269_126, x269_127, x269_128, x269_129, x269_130, x269_131, x269_132, x269_135, x269_136, x269_138, x269_139, x269_141, x269_144, x269_147, x269_153, x269_156, x269_159, x269_162, s_colsOf, at0, atc, be, Kc_some, Kc_none, if_pos, if_neg, ↓reduceIte, not_true_eq_false, not_false_eq_true]
  · refine ⟨σ, MkR.refl (fun j y => ?_) (fun j y => ?_), fun u Q l5 => ⟨some (vI (σ 376 (30 * (10 * h + r) + (3 + 4 * (3 * 0 + i) + (1 + (c : Int)))))), ?_⟩⟩
    · have := y.1
      rw [ep] at this
      exact h20 this
    · have := y.1
      rw [ep] at this
      exact h20 this
    · rw [x269_70]
      simp (disch := first | omega | exact notL_I | exact notL_N | exact notL_R | exact oM | exact catS_le (Nat.le_of_ble_eq_true rfl) | exact Nat.le_of_ble_eq_true rfl | rfl) only [x269_0, x269_1, x269_2, x269_3, x269_6, x269_9, x269_10, x269_13, x269_14, x269_15, x269_16, x269_17, x269_20, x269_21, x269_22, x269_23, x269_26, x269_29, x269_30, x269_32, x269_33, x269_36, x269_37, x269_38, x269_41, x269_42, x269_43, x269_44, x269_45, x269_48, x269_51, x269_54, x269_55, x269_57, x269_58, x269_59, x269_60, x269_61, x269_64, x269_67, x269_68, x269_72, x269_73, x269_74, x269_75, x269_76, x269_77, x269_78, x269_79, x269_80, x269_83, x269_86, x269_89, x269_90, x269_91, x269_92, x269_93, x269_94, x269_95, x269_97, x269_98, x269_101, x269_103, x269_105, x269_108, x269_111, x269_112, x269_113, x269_114, x269_116, x269_119, x269_122, x269_123, x269_124, x269_125, x269_126, x269_127, x269_128, x269_129, x269_130, x269_131, x269_132, x269_135, x269_136, x269_138, x269_139, x269_141, x269_144, x269_147, x269_153, x269_156, x269_159, x269_162, s_colsOf, at0, atc, Kc_some, Kc_none, if_pos, if_neg, ↓reduceIte, not_true_eq_false, not_false_eq_true]
theorem l_wyA {σ : St} {d : Nat} {i : Int} (hd : 4 ≤ d) (W : WfM σ) (h1 : 0 ≤ h) (h2 : h ≤ 4) (r1 : 0 ≤ r) (r2 : r ≤ 9) (i0 : 0 ≤ i) (i1 : i ≤ 2) (hcc : 1 ≤ σ 374 (26 * h + σ 376 (30 * (10 * h + r) + (3 + 4 * (3 * 0 + i))))) (ha : atC σ h r 0 (σ 376 (30 * (10 * h + r)))) (hb : atC σ h r 1 (σ 376 (30 * (10 * h + r) + 2))) : ∀ (k c : Nat) (τ : St), ((c + k : Nat) : Int) = σ 374 (26 * h + σ 376 (30 * (10 * h + r) + (3 + 4 * (3 * 0 + i)))) → Dt σ τ →
    ∃ ρ, MkR (fun j => ∃ e : Nat, c ≤ e ∧ e < 3 ∧ mS (ruR σ h r) (atR σ h r 0 i) e j) (fun j => ∃ e : Nat, c ≤ e ∧ e < 3 ∧ mT (ruR σ h r) (atR σ h r 0 i) e j) τ ρ ∧ ∀ (u : Bool × Nat × Nat × Int) (Q : Rs → HS → Prop) (l5 : Option V), ∃ l4' l5', Ex sc d 269 70 [some (vR 373), some (vI h), some (vI r), some (vI i), some (vI ((c : Int))), l5] [] (wH τ u) Q ↔ Ex sc d 269 150 [some (vR 373), some (vI h), some (vI r), some (vI i), l4', l5'] [] (wH ρ u) Q := by
  obtain ⟨a1, -⟩ := W.ato (s := 0) (i := i) h1 h2 r1 r2 (by omega) (by omega) i0 i1
  have wc := W.col h1 h2 a1.1 a1.2
  have z0 : 3 + 4 * (3 * 0 + i) + 0 = 3 + 4 * (3 * 0 + i) := by omega
  intro k
  induction k with
  | zero =>
    intro c τ ck D
    have e74 : τ 374 = σ 374 := D.1 374 (by omega) (by omega)
    have e76 : τ 376 = σ 376 := D.1 376 (by omega) (by omega)
    have no : ∀ e : Nat, c ≤ e → e < 3 → plN (atR σ h r 0 i) e = -1 := fun e he e3 => by rw [pl_R e3 hcc, if_neg (by omega)]
    have at0 := fun u Q => s_atom (sc := sc) (σ := τ) (u := u) (Q := Q) (d := d - 1) (h := h) (r := r) (s := 0) (i := i) (f := 0) (by omega) h1 h2 r1 r2 (by omega) (by omega)
    rw [z0, e76] at at0
    refine ⟨τ, MkR.refl (fun j ⟨e, a, b, y⟩ => ?_) (fun j ⟨e, a, b, y⟩ => ?_), fun u Q l5 => ⟨some (vI (c : Int)), l5, ?_⟩⟩
    · have := y.1
      rw [no e a b] at this
      omega
    · have := y.1
      rw [no e a b] at this
      omega
    · rw [x269_70]
      simp (disch := first | omega | exact notL_I | exact notL_N | exact notL_R | exact oM | exact catS_le (Nat.le_of_ble_eq_true rfl) | exact Nat.le_of_ble_eq_true rfl | rfl) only [x269_0, x269_1, x269_2, x269_3, x269_6, x269_9, x269_10, x269_13, x269_14, x269_15, x269_16, x269_17, x269_20, x269_21, x269_22, x269_23, x269_26, x269_29, x269_30, x269_32, x269_33, x269_36, x269_37, x269_38, x269_41, x269_42, x269_43, x269_44, x269_45, x269_48, x269_51, x269_54, x269_55, x269_57, x269_58, x269_59, x269_60, x269_61, x269_64, x269_67, x269_68, x269_72, x269_73, x269_74, x269_75, x269_76, x269_77, x269_78, x269_79, x269_80, x269_83, x269_86, x269_89, x269_90, x269_91, x269_92, x269_93, x269_94, x269_95, x269_97, x269_98, x269_101, x269_103, x269_105, x269_108, x269_111, x269_112, x269_113, x269_114, x269_116, x269_119, x269_122, x269_123, x269_124, x269_125, x269_126, x269_127, x269_128, x269_129, x269_130, x269_131, x269_132, x269_135, x269_136, x269_138, x269_139, x269_141, x269_144, x269_147, x269_153, x269_156, x269_159, x269_162, s_colsOf, at0, e74, Kc_some, if_pos, if_neg, ↓reduceIte, not_true_eq_false, not_false_eq_true]
  | succ k ih =>
    intro c τ ck D
    have e74 : τ 374 = σ 374 := D.1 374 (by omega) (by omega)
    have e76 : τ 376 = σ 376 := D.1 376 (by omega) (by omega)
    obtain ⟨ρ1, m1, x1⟩ := l_wy1 (sc := sc) (h := h) (r := r) (σ := τ) (d := d) (i := i) (c := c) hd (D.wf W) h1 h2 r1 r2 i0 i1 (by rw [e74, e76]; exact hcc) (by rw [e74, e76]; omega) (by rw [e76]; exact atC_dt D ha) (by rw [e76]; exact atC_dt D hb)
    rw [D.ru, D.at_] at m1
    obtain ⟨ρ, m2, x2⟩ := ih (c + 1) ρ1 (by omega) (D.trans m1.dt)
    refine ⟨ρ, m1.trans m2 (fun j => ?_) (fun j => ?_), fun u Q l5 => ?_⟩
    · constructor
      · rintro ⟨e, a, b, y⟩
        by_cases hec : e = c
        · subst hec
          exact Or.inl y
        · exact Or.inr ⟨e, by omega, b, y⟩
      · rintro (y | ⟨e, a, b, y⟩)
        · exact ⟨c, by omega, by omega, y⟩
        · exact ⟨e, by omega, b, y⟩
    · constructor
      · rintro ⟨e, a, b, y⟩
        by_cases hec : e = c
        · subst hec
          exact Or.inl y
        · exact Or.inr ⟨e, by omega, b, y⟩
      · rintro (y | ⟨e, a, b, y⟩)
        · exact ⟨c, by omega, by omega, y⟩
        · exact ⟨e, by omega, b, y⟩
    · obtain ⟨l5', y1⟩ := x1 u Q l5
      obtain ⟨l4'', l5'', y2⟩ := x2 u Q l5'
      rw [show ((c + 1 : Nat) : Int) = (c : Int) + 1 by omega] at y2
      exact ⟨l4'', l5'', y1.trans y2⟩
theorem l_wyB {σ : St} {d : Nat} (hd : 4 ≤ d) (W : WfM σ) (h1 : 0 ≤ h) (h2 : h ≤ 4) (r1 : 0 ≤ r) (r2 : r ≤ 9) (ha : atC σ h r 0 (σ 376 (30 * (10 * h + r)))) (hb : atC σ h r 1 (σ 376 (30 * (10 * h + r) + 2))) : ∀ (k : Nat) (i : Int) (τ : St), 0 ≤ i → i + k = σ 376 (30 * (10 * h + r)) → Dt σ τ →
    ∃ ρ, MkR (fun j => ∃ a ∈ atsF σ h r 0 k i, ∃ e : Nat, e < 3 ∧ mS (ruR σ h r) a e j) (fun j => ∃ a ∈ atsF σ h r 0 k i, ∃ e : Nat, e < 3 ∧ mT (ruR σ h r) a e j) τ ρ ∧ ∀ (u : Bool × Nat × Nat × Int) (Q : Rs → HS → Prop) (l4 l5 : Option V), ∃ l3' l4' l5', Ex sc d 269 56 [some (vR 373), some (vI h), some (vI r), some (vI i), l4, l5] [] (wH τ u) Q ↔ Ex sc d 269 156 [some (vR 373), some (vI h), some (vI r), l3', l4', l5'] [] (wH ρ u) Q := by
  have wr := W.rul h1 h2 r1 r2
  intro k
  induction k with
  | zero =>
    intro i τ i0 ik D
    have e76 : τ 376 = σ 376 := D.1 376 (by omega) (by omega)
    refine ⟨τ, MkR.refl (fun j ⟨b, hb, _⟩ => by cases hb) (fun j ⟨b, hb, _⟩ => by cases hb), fun u Q l4 l5 => ⟨some (vI i), l4, l5, ?_⟩⟩
    rw [x269_56]
    simp (disch := first | omega | exact notL_I | exact notL_N | exact notL_R | exact oM | exact catS_le (Nat.le_of_ble_eq_true rfl) | exact Nat.le_of_ble_eq_true rfl | rfl) only [x269_0, x269_1, x269_2, x269_3, x269_6, x269_9, x269_10, x269_13, x269_14, x269_15, x269_16, x269_17, x269_20, x269_21, x269_22, x269_23, x269_26, x269_29, x269_30, x269_32, x269_33, x269_36, x269_37, x269_38, x269_41, x269_42, x269_43, x269_44, x269_45, x269_48, x269_51, x269_54, x269_55, x269_57, x269_58, x269_59, x269_60, x269_61, x269_64, x269_67, x269_68, x269_72, x269_73, x269_74, x269_75, x269_76, x269_77, x269_78, x269_79, x269_80, x269_83, x269_86, x269_89, x269_90, x269_91, x269_92, x269_93, x269_94, x269_95, x269_97, x269_98, x269_101, x269_103, x269_105, x269_108, x269_111, x269_112, x269_113, x269_114, x269_116, x269_119, x269_122, x269_123, x269_124, x269_125, x269_126, x269_127, x269_128, x269_129, x269_130, x269_131, x269_132, x269_135, x269_136, x269_138, x269_139, x269_141, x269_144, x269_147, x269_153, x269_159, x269_162, s_rule, Int.add_zero, e76, Kc_some, if_pos, if_neg, ↓reduceIte, not_true_eq_false, not_false_eq_true]
  | succ k ih =>
    intro i τ i0 ik D
    have e76 : τ 376 = σ 376 := D.1 376 (by omega) (by omega)
    have e74 : τ 374 = σ 374 := D.1 374 (by omega) (by omega)
    have hcc := ha i i0 (by omega)
    obtain ⟨ρ1, m1, x1⟩ := l_wyA (sc := sc) (h := h) (r := r) (σ := τ) (d := d) (i := i) hd (D.wf W) h1 h2 r1 r2 i0 (by omega) (by rw [e74, e76]; exact hcc) (by rw [e76]; exact atC_dt D ha) (by rw [e76]; exact atC_dt D hb) (σ 374 (26 * h + σ 376 (30 * (10 * h + r) + (3 + 4 * (3 * 0 + i))))).toNat 0 τ (by rw [e74, e76]; omega) Dt.rfl'
    rw [D.ru, D.at_] at m1
    obtain ⟨ρ, m2, x2⟩ := ih (i + 1) ρ1 (by omega) (by omega) (D.trans m1.dt)
    refine ⟨ρ, m1.trans m2 (fun j => ?_) (fun j => ?_), fun u Q l4 l5 => ?_⟩
    · rw [atsF]
      constructor
      · rintro ⟨a, hm, e, he, y⟩
        rcases List.mem_cons.mp hm with rfl | hm
        · exact Or.inl ⟨e, by omega, he, y⟩
        · exact Or.inr ⟨a, hm, e, he, y⟩
      · rintro (⟨e, _, he, y⟩ | ⟨a, hm, e, he, y⟩)
        · exact ⟨_, List.mem_cons_self, e, he, y⟩
        · exact ⟨a, List.mem_cons_of_mem _ hm, e, he, y⟩
    · rw [atsF]
      constructor
      · rintro ⟨a, hm, e, he, y⟩
        rcases List.mem_cons.mp hm with rfl | hm
        · exact Or.inl ⟨e, by omega, he, y⟩
        · exact Or.inr ⟨a, hm, e, he, y⟩
      · rintro (⟨e, _, he, y⟩ | ⟨a, hm, e, he, y⟩)
        · exact ⟨_, List.mem_cons_self, e, he, y⟩
        · exact ⟨a, List.mem_cons_of_mem _ hm, e, he, y⟩
    · obtain ⟨l4', l5', y1⟩ := x1 u Q l5
      obtain ⟨l3'', l4'', l5'', y2⟩ := x2 u Q l4' l5'
      refine ⟨l3'', l4'', l5'', Iff.trans ?_ y2⟩
      rw [Int.natCast_zero] at y1
      rw [x269_56]
      simp (disch := first | omega | exact notL_I | exact notL_N | exact notL_R | exact oM | exact catS_le (Nat.le_of_ble_eq_true rfl) | exact Nat.le_of_ble_eq_true rfl | rfl) only [x269_0, x269_1, x269_2, x269_3, x269_6, x269_9, x269_10, x269_13, x269_14, x269_15, x269_16, x269_17, x269_20, x269_21, x269_22, x269_23, x269_26, x269_29, x269_30, x269_32, x269_33, x269_36, x269_37, x269_38, x269_41, x269_42, x269_43, x269_44, x269_45, x269_48, x269_51, x269_54, x269_55, x269_57, x269_58, x269_59, x269_60, x269_61, x269_64, x269_67, x269_68, x269_72, x269_73, x269_74, x269_75, x269_76, x269_77, x269_78, x269_79, x269_80, x269_83, x269_86, x269_89, x269_90, x269_91, x269_92, x269_93, x269_94, x269_95, x269_97, x269_98, x269_101, x269_103, x269_105, x269_108, x269_111, x269_112, x269_113, x269_114, x269_116, x269_119, x269_122, x269_123, x269_124, x269_125, x269_126, x269_127, x269_128, x269_129, x269_130, x269_131, x269_132, x269_135, x269_136, x269_138, x269_139, x269_141, x269_144, x269_147, x269_153, x269_159, x269_162, s_rule, Int.add_zero, e76, Kc_some, if_pos, if_neg, ↓reduceIte, not_true_eq_false, not_false_eq_true]
      rw [y1, x269_150]
      simp (disch := first | omega | exact notL_I | exact notL_N | exact notL_R | exact oM | exact catS_le (Nat.le_of_ble_eq_true rfl) | exact Nat.le_of_ble_eq_true rfl | rfl) only [x269_0, x269_1, x269_2, x269_3, x269_6, x269_9, x269_10, x269_13, x269_14, x269_15, x269_16, x269_17, x269_20, x269_21, x269_22, x269_23, x269_26, x269_29, x269_30, x269_32, x269_33, x269_36, x269_37, x269_38, x269_41, x269_42, x269_43, x269_44, x269_45, x269_48, x269_51, x269_54, x269_55, x269_57, x269_58, x269_59, x269_60, x269_61, x269_64, x269_67, x269_68, x269_72, x269_73, x269_74, x269_75, x269_76, x269_77, x269_78, x269_79, x269_80, x269_83, x269_86, x269_89, x269_90, x269_91, x269_92, x269_93, x269_94, x269_95, x269_97, x269_98, x269_101, x269_103, x269_105, x269_108, x269_111, x269_112, x269_113, x269_114, x269_116, x269_119, x269_122, x269_123, x269_124, x269_125, x269_126, x269_127, x269_128, x269_129, x269_130, x269_131, x269_132, x269_135, x269_136, x269_138, x269_139, x269_141, x269_144, x269_147, x269_153, x269_159, x269_162]
theorem l_wyR {σ : St} {d : Nat} (hd : 4 ≤ d) (W : WfM σ) (h1 : 0 ≤ h) (h2 : h ≤ 4) (hat : ∀ r, 0 ≤ r → r < σ 375 h → atC σ h r 0 (σ 376 (30 * (10 * h + r))) ∧ atC σ h r 1 (σ 376 (30 * (10 * h + r) + 2))) : ∀ (k : Nat) (r : Int) (τ : St), 0 ≤ r → r + k = σ 375 h → Dt σ τ →
    ∃ ρ, MkR (rS (rlF σ h k r)) (rT (rlF σ h k r)) τ ρ ∧ ∀ (u : Bool × Nat × Nat × Int) (Q : Rs → HS → Prop) (l3 l4 l5 : Option V), Ex sc d 269 31 [some (vR 373), some (vI h), some (vI r), l3, l4, l5] [] (wH τ u) Q ↔ Q (.inl none) (wH ρ u) := by
  have wm := W.rm h1 h2
  intro k
  induction k with
  | zero =>
    intro r τ r0 rk D
    have e75 : τ 375 = σ 375 := D.1 375 (by omega) (by omega)
    refine ⟨τ, MkR.refl (fun j ⟨b, hb, _⟩ => by cases hb) (fun j ⟨b, hb, _⟩ => by cases hb), fun u Q l3 l4 l5 => ?_⟩
    rw [x269_31]
    simp (disch := first | omega | exact notL_I | exact notL_N | exact notL_R | exact oM | exact catS_le (Nat.le_of_ble_eq_true rfl) | exact Nat.le_of_ble_eq_true rfl | rfl) only [x269_0, x269_1, x269_2, x269_3, x269_6, x269_9, x269_10, x269_13, x269_14, x269_15, x269_16, x269_17, x269_20, x269_21, x269_22, x269_23, x269_26, x269_29, x269_30, x269_32, x269_33, x269_36, x269_37, x269_38, x269_41, x269_42, x269_43, x269_44, x269_45, x269_48, x269_51, x269_54, x269_55, x269_57, x269_58, x269_59, x269_60, x269_61, x269_64, x269_67, x269_68, x269_72, x269_73, x269_74, x269_75, x269_76, x269_77, x269_78, x269_79, x269_80, x269_83, x269_86, x269_89, x269_90, x269_91, x269_92, x269_93, x269_94, x269_95, x269_97, x269_98, x269_101, x269_103, x269_105, x269_108, x269_111, x269_112, x269_113, x269_114, x269_116, x269_119, x269_122, x269_123, x269_124, x269_125, x269_126, x269_127, x269_128, x269_129, x269_130, x269_131, x269_132, x269_135, x269_136, x269_138, x269_139, x269_141, x269_144, x269_147, x269_153, x269_159, x269_162, gM_ruleMany, RM_ruleMany, e75, if_pos, if_neg, ↓reduceIte, not_true_eq_false, not_false_eq_true]
  | succ k ih =>
    intro r τ r0 rk D
    have e75 : τ 375 = σ 375 := D.1 375 (by omega) (by omega)
    have e76 : τ 376 = σ 376 := D.1 376 (by omega) (by omega)
    have hat' := hat r r0 (by omega)
    have wr := W.rul (r := r) h1 h2 r0 (by omega)
    have ru := fun u Q => s_rule (sc := sc) (σ := τ) (u := u) (Q := Q) (d := d - 1) (h := h) (r := r) (f := 1) h1 h2 r0 (by omega) (by omega) (by omega)
    rw [e76] at ru
    have e1 : (ruR σ h r).1 = σ 376 (30 * (10 * h + r) + 1) := rfl
    by_cases h0 : σ 376 (30 * (10 * h + r) + 1) = 0
    · obtain ⟨ρ1, m1, x1⟩ := l_wyB (sc := sc) (h := h) (r := r) (σ := σ) (d := d) hd W h1 h2 r0 (by omega) hat'.1 hat'.2 (σ 376 (30 * (10 * h + r))).toNat 0 τ (by omega) (by omega) D
      obtain ⟨ρ, m2, x2⟩ := ih (r + 1) ρ1 (by omega) (by omega) (D.trans m1.dt)
      refine ⟨ρ, m1.trans m2 (fun j => ?_) (fun j => ?_), fun u Q l3 l4 l5 => ?_⟩
      · rw [rlF]
        constructor
        · rintro ⟨q, hq, q0, y⟩
          rcases List.mem_cons.mp hq with rfl | hq
          · exact Or.inl y
          · exact Or.inr ⟨q, hq, q0, y⟩
        · rintro (y | ⟨q, hq, y⟩)
          · exact ⟨_, List.mem_cons_self, by rw [e1]; exact h0, y⟩
          · exact ⟨q, List.mem_cons_of_mem _ hq, y⟩
      · rw [rlF]
        constructor
        · rintro ⟨q, hq, q0, y⟩
          rcases List.mem_cons.mp hq with rfl | hq
          · exact Or.inl y
          · exact Or.inr ⟨q, hq, q0, y⟩
        · rintro (y | ⟨q, hq, y⟩)
          · exact ⟨_, List.mem_cons_self, by rw [e1]; exact h0, y⟩
          · exact ⟨q, List.mem_cons_of_mem _ hq, y⟩
      · obtain ⟨l3', l4', l5', y1⟩ := x1 u Q l4 l5
        rw [x269_31]
        simp (disch := first | omega | exact notL_I | exact notL_N | exact notL_R | exact oM | exact catS_le (Nat.le_of_ble_eq_true rfl) | exact Nat.le_of_ble_eq_true rfl | rfl) only [x269_0, x269_1, x269_2, x269_3, x269_6, x269_9, x269_10, x269_13, x269_14, x269_15, x269_16, x269_17, x269_20, x269_21, x269_22, x269_23, x269_26, x269_29, x269_30, x269_32, x269_33, x269_36, x269_37, x269_38, x269_41, x269_42, x269_43, x269_44, x269_45, x269_48, x269_51, x269_54, x269_55, x269_57, x269_58, x269_59, x269_60, x269_61, x269_64, x269_67, x269_68, x269_72, x269_73, x269_74, x269_75, x269_76, x269_77, x269_78, x269_79, x269_80, x269_83, x269_86, x269_89, x269_90, x269_91, x269_92, x269_93, x269_94, x269_95, x269_97, x269_98, x269_101, x269_103, x269_105, x269_108, x269_111, x269_112, x269_113, x269_114, x269_116, x269_119, x269_122, x269_123, x269_124, x269_125, x269_126, x269_127, x269_128, x269_129, x269_130, x269_131, x269_132, x269_135, x269_136, x269_138, x269_139, x269_141, x269_144, x269_147, x269_153, x269_159, x269_162, gM_ruleMany, RM_ruleMany, e75, ru, h0, Kc_some, if_pos, if_neg, ↓reduceIte, not_true_eq_false, not_false_eq_true]
        rw [y1, x269_156]
        simp (disch := first | omega | exact notL_I | exact notL_N | exact notL_R | exact oM | exact catS_le (Nat.le_of_ble_eq_true rfl) | exact Nat.le_of_ble_eq_true rfl | rfl) only [x269_0, x269_1, x269_2, x269_3, x269_6, x269_9, x269_10, x269_13, x269_14, x269_15, x269_16, x269_17, x269_20, x269_21, x269_22, x269_23, x269_26, x269_29, x269_30, x269_32, x269_33, x269_36, x269_37, x269_38, x269_41, x269_42, x269_43, x269_44, x269_45, x269_48, x269_51, x269_54, x269_55, x269_57, x269_58, x269_59, x269_60, x269_61, x269_64, x269_67, x269_68, x269_72, x269_73, x269_74, x269_75, x269_76, x269_77, x269_78, x269_79, x269_80, x269_83, x269_86, x269_89, x269_90, x269_91, x269_92, x269_93, x269_94, x269_95, x269_97, x269_98, x269_101, x269_103, x269_105, x269_108, x269_111, x269_112, x269_113, x269_114, x269_116, x269_119, x269_122, x269_123, x269_124, x269_125, x269_126, x269_127, x269_128, x269_129, x269_130, x269_131, x269_132, x269_135, x269_136, x269_138, x269_139, x269_141, x269_144, x269_147, x269_153, x269_159, x269_162]
        exact x2 u Q _ _ _
    · obtain ⟨ρ, m2, x2⟩ := ih (r + 1) τ (by omega) (by omega) D
      refine ⟨ρ, m2.c (fun j => ?_) (fun j => ?_), fun u Q l3 l4 l5 => ?_⟩
      · rw [rlF]
        constructor
        · rintro ⟨q, hq, q0, y⟩
          rcases List.mem_cons.mp hq with rfl | hq
          · rw [e1] at q0
            exact absurd q0 h0
          · exact ⟨q, hq, q0, y⟩
        · rintro ⟨q, hq, y⟩
          exact ⟨q, List.mem_cons_of_mem _ hq, y⟩
      · rw [rlF]
        constructor
        · rintro ⟨q, hq, q0, y⟩
          rcases List.mem_cons.mp hq with rfl | hq
          · rw [e1] at q0
            exact absurd q0 h0
          · exact ⟨q, hq, q0, y⟩
        · rintro ⟨q, hq, y⟩
          exact ⟨q, List.mem_cons_of_mem _ hq, y⟩
      · rw [x269_31]
        simp (disch := first | omega | exact notL_I | exact notL_N | exact notL_R | exact oM | exact catS_le (Nat.le_of_ble_eq_true rfl) | exact Nat.le_of_ble_eq_true rfl | rfl) only [x269_0, x269_1, x269_2, x269_3, x269_6, x269_9, x269_10, x269_13, x269_14, x269_15, x269_16, x269_17, x269_20, x269_21, x269_22, x269_23, x269_26, x269_29, x269_30, x269_32, x269_33, x269_36, x269_37, x269_38, x269_41, x269_42, x269_43, x269_44, x269_45, x269_48, x269_51, x269_54, x269_55, x269_57, x269_58, x269_59, x269_60, x269_61, x269_64, x269_67, x269_68, x269_72, x269_73, x269_74, x269_75, x269_76, x269_77, x269_78, x269_79, x269_80, x269_83, x269_86, x269_89, x269_90, x269_91, x269_92, x269_93, x269_94, x269_95, x269_97, x269_98, x269_101, x269_103, x269_105, x269_108, x269_111, x269_112, x269_113, x269_114, x269_116, x269_119, x269_122, x269_123, x269_124, x269_125, x269_126, x269_127, x269_128, x269_129, x269_130, x269_131, x269_132, x269_135, x269_136, x269_138, x269_139, x269_141, x269_144, x269_147, x269_153, x269_156, x269_159, x269_162, gM_ruleMany, RM_ruleMany, e75, ru, Kc_some, if_pos, if_neg, ↓reduceIte, not_true_eq_false, not_false_eq_true]
        exact x2 u Q _ _ _
theorem l_wy0 {σ : St} {d : Nat} {u : Bool × Nat × Nat × Int} {Q : Rs → HS → Prop} {l3 l4 l5 : Option V} : ∀ (k : Nat) (i : Int), 0 ≤ i → i + k = 6084 → (Ex sc d 269 2 [some (vR 373), some (vI h), some (vI i), l3, l4, l5] [] (wH (fl (fl σ 400 0 i 0) 401 0 i 0) u) Q ↔ Ex sc d 269 31 [some (vR 373), some (vI h), some (vI 0), l3, l4, l5] [] (wH (fl (fl σ 400 0 6084 0) 401 0 6084 0) u) Q) := by
  intro k
  induction k with
  | zero =>
    intro i i0 ik
    obtain rfl : i = 6084 := by omega
    rw [x269_2]
    simp (disch := first | omega | exact notL_I | exact notL_N | exact notL_R | exact oM | exact catS_le (Nat.le_of_ble_eq_true rfl) | exact Nat.le_of_ble_eq_true rfl | rfl) only [x269_0, x269_1, x269_3, x269_6, x269_9, x269_10, x269_13, x269_14, x269_15, x269_16, x269_17, x269_20, x269_21, x269_22, x269_23, x269_26, x269_29, x269_30, x269_32, x269_33, x269_36, x269_37, x269_38, x269_41, x269_42, x269_43, x269_44, x269_45, x269_48, x269_51, x269_54, x269_55, x269_57, x269_58, x269_59, x269_60, x269_61, x269_64, x269_67, x269_68, x269_72, x269_73, x269_74, x269_75, x269_76, x269_77, x269_78, x269_79, x269_80, x269_83, x269_86, x269_89, x269_90, x269_91, x269_92, x269_93, x269_94, x269_95, x269_97, x269_98, x269_101, x269_103, x269_105, x269_108, x269_111, x269_112, x269_113, x269_114, x269_116, x269_119, x269_122, x269_123, x269_124, x269_125, x269_126, x269_127, x269_128, x269_129, x269_130, x269_131, x269_132, x269_135, x269_136, x269_138, x269_139, x269_141, x269_144, x269_147, x269_153, x269_159, x269_162, if_pos, if_neg, ↓reduceIte, not_true_eq_false, not_false_eq_true]
  | succ k ih =>
    intro i i0 ik
    rw [x269_2, ← ih (i + 1) (by omega) (by omega), ← fl_su i0, ← fl_su i0, ← su_fl (by omega)]
    simp (disch := first | omega | exact notL_I | exact notL_N | exact notL_R | exact oM | exact catS_le (Nat.le_of_ble_eq_true rfl) | exact Nat.le_of_ble_eq_true rfl | rfl) only [x269_0, x269_1, x269_3, x269_6, x269_9, x269_10, x269_13, x269_14, x269_15, x269_16, x269_17, x269_20, x269_21, x269_22, x269_23, x269_26, x269_29, x269_30, x269_32, x269_33, x269_36, x269_37, x269_38, x269_41, x269_42, x269_43, x269_44, x269_45, x269_48, x269_51, x269_54, x269_55, x269_57, x269_58, x269_59, x269_60, x269_61, x269_64, x269_67, x269_68, x269_72, x269_73, x269_74, x269_75, x269_76, x269_77, x269_78, x269_79, x269_80, x269_83, x269_86, x269_89, x269_90, x269_91, x269_92, x269_93, x269_94, x269_95, x269_97, x269_98, x269_101, x269_103, x269_105, x269_108, x269_111, x269_112, x269_113, x269_114, x269_116, x269_119, x269_122, x269_123, x269_124, x269_125, x269_126, x269_127, x269_128, x269_129, x269_130, x269_131, x269_132, x269_135, x269_136, x269_138, x269_139, x269_141, x269_144, x269_147, x269_153, x269_159, x269_162, gM_leadsTo, WM_leadsTo, gM_isNew, WM_isNew, if_pos, if_neg, ↓reduceIte, not_true_eq_false, not_false_eq_true]
/-- ways: two rows of marks -/
def WysI (E : Eg) (τ : St) : Prop := ∀ x y, 0 ≤ x → x < 78 → 0 ≤ y → y < 78 → ((τ 400 (78 * x + y) = 0 ∨ τ 400 (78 * x + y) = 1) ∧ (τ 400 (78 * x + y) = 1 ↔ ∃ k, E x y k)) ∧ (τ 401 (78 * x + y) = 0 ∨ τ 401 (78 * x + y) = 1) ∧ (τ 401 (78 * x + y) = 1 ↔ E x y 1)
theorem s_ways {σ : St} {d : Nat} (hd : 4 ≤ d) (W : WfM σ) (h1 : 0 ≤ h) (h2 : h ≤ 4) (hok : ∀ r ∈ rlR σ h, okRl (coR σ h) r) (hat : ∀ r, 0 ≤ r → r < σ 375 h → atC σ h r 0 (σ 376 (30 * (10 * h + r))) ∧ atC σ h r 1 (σ 376 (30 * (10 * h + r) + 2))) :
    ∃ ρ, (∀ c, c ≠ 400 → c ≠ 401 → ρ c = σ c) ∧ WysI (EgR (rlR σ h)) ρ ∧ RnA sc d 269 0 [some (vR 373), some (vI h), none, none, none, none] σ none ρ := by
  have wm := W.rm h1 h2
  have D : Dt σ (fl (fl σ 400 0 6084 0) 401 0 6084 0) := ⟨fun c _ _ => by rw [fl_ne (by omega), fl_ne (by omega)], by rw [fl_ne (by omega), fl_ne (by omega)]⟩
  obtain ⟨ρ, m, x⟩ := l_wyR (sc := sc) (h := h) (d := d) hd W h1 h2 hat (σ 375 h).toNat 0 _ (by omega) (by omega) D
  have e0 : ∀ j, 0 ≤ j → j < 6084 → fl (fl σ 400 0 6084 0) 401 0 6084 0 400 j = 0 := fun j a b => by rw [fl_ne (by omega), fl_at, if_pos ⟨a, b⟩]
  have e1 : ∀ j, 0 ≤ j → j < 6084 → fl (fl σ 400 0 6084 0) 401 0 6084 0 401 j = 0 := fun j a b => by rw [fl_at, if_pos ⟨a, b⟩]
  refine ⟨ρ, fun c a b => by rw [m.1 c a b, fl_ne b, fl_ne a], fun x y x0 x1 y0 y1 => ?_, fun u Q => ?_⟩
  · have E := rS_E (rs := rlR σ h) hok x0 x1 y0 y1
    have ms := m.2.1 (78 * x + y) (by omega) (by omega) (Or.inl (e0 _ (by omega) (by omega)))
    have mt := m.2.2 (78 * x + y) (by omega) (by omega) (Or.inl (e1 _ (by omega) (by omega)))
    rw [e0 _ (by omega) (by omega)] at ms
    rw [e1 _ (by omega) (by omega)] at mt
    refine ⟨⟨ms.1, ?_⟩, mt.1, ?_⟩
    · rw [ms.2, ← E.1]
      exact ⟨fun z => z.resolve_left (by decide), Or.inr⟩
    · rw [mt.2, ← E.2]
      exact ⟨fun z => z.resolve_left (by decide), Or.inr⟩
  · have w0 := l_wy0 (sc := sc) (h := h) (σ := σ) (d := d) (u := u) (Q := Q) (l3 := none) (l4 := none) (l5 := none) 6084 0 (by omega) (by omega)
    rw [fl_0, fl_0] at w0
    rw [← x u Q none none none, ← w0]
    simp (disch := first | omega | exact notL_I | exact notL_N | exact notL_R | exact oM | exact catS_le (Nat.le_of_ble_eq_true rfl) | exact Nat.le_of_ble_eq_true rfl | rfl) only [x269_0, x269_1]
end H3
