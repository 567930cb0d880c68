/-! a row is put, both -/
section Oe
variable {sc : Scr} {d : Nat} {σ τ X : St} {A : AS}
/-- rows have changed, and the state is none -/
theorem hl_rows {b : Nat} (W : WfHa σ b) (fr : FrR (b + 3) σ X) (wr : WfRo X (b + 3)) : WfHa (su X (b + 8) 0 0) b ∧ hlC (su X (b + 8) 0 0) b = (coC σ b, rlC σ b, 0, rsC X (b + 3), X (b + 3) 1, naC X (b + 3), stC σ (b + 8), byC σ (b + 8)) ∧ FrB b 84 σ (su X (b + 8) 0 0) ∧ su X (b + 8) 0 0 b 0 = σ b 0 := by
  have frb := fr.b
  have ne : ∀ c, c < b + 3 ∨ b + 8 ≤ c → X c = σ c := fun c hc => frb c (by omega)
  have ne2 : ∀ c, c < b + 3 ∨ b + 8 < c → su X (b + 8) 0 0 c = σ c := fun c hc => by rw [su_ne (by omega), ne c (by omega)]
  have nX : ∀ c, c < b + 8 → su X (b + 8) 0 0 c = X c := fun c hc => su_ne (by omega)
  have g80 : su X (b + 8) 0 0 (b + 8) 0 = 0 := su_eq
  have g8 : ∀ j, j ≠ 0 → su X (b + 8) 0 0 (b + 8) j = σ (b + 8) j := fun j hj => by rw [su_off hj, ne _ (by omega)]
  obtain ⟨w0, w1, w2, w3, w4, w5, w6⟩ := W
  refine ⟨⟨by rw [ne2 _ (by omega)]; exact w0, by rw [ne2 _ (by omega)]; exact w1, by rw [ne2 _ (by omega)]; exact w2, wr.c (fun c c0 c1 => nX c (by omega)), ⟨by rw [g80]; omega, by rw [g8 1 (by omega)]; exact w4.2.1, by rw [ne2 _ (by omega)]; exact w4.2.2.1, by rw [ne2 _ (by omega)]; exact w4.2.2.2⟩, w5.c (by rw [ne2 _ (by omega)]) (ne2 _ (by omega)) (ne2 _ (by omega)), fun j hj => (w6 j hj).c (fun c c0 c1 => ne2 c (by omega))⟩, ?_, fun c hc => ne2 c (by omega), by rw [ne2 _ (by omega)]⟩
  have q1 : coC (su X (b + 8) 0 0) b = coC σ b := coC_eq (ne2 (b + 1) (by omega))
  have q2 : rlC (su X (b + 8) 0 0) b = rlC σ b := by
    unfold rlC
    rw [ne2 b (by omega)]
    exact rkF_c _ _ (fun j j0 j1 => ruC_c (fun c c0 c1 => ne2 c (by omega)))
  have q3 : rsC (su X (b + 8) 0 0) (b + 3) = rsC X (b + 3) := rsC_c (fun c c0 c1 => nX c (by omega))
  have q4 : naC (su X (b + 8) 0 0) (b + 3) = naC X (b + 3) := by unfold naC; rw [nX _ (by omega)]
  have q5 : stC (su X (b + 8) 0 0) (b + 8) = stC σ (b + 8) := by
    unfold stC
    rw [g8 1 (by omega)]
    exact skF_c (ne2 (b + 8 + 1) (by omega)) _ _
  have q6 : byC (su X (b + 8) 0 0) (b + 8) = byC σ (b + 8) := by unfold byC; rw [ne2 (b + 8 + 2) (by omega)]
  unfold hlC rnC
  rw [q1, q2, q3, q4, q5, q6, g80, nX (b + 3) (by omega)]
theorem s_isTmC {t : Int} (hd : 1 ≤ d) (ht : inR t) {u : Bool × Nat × Nat × Int} {Q : Rs → HS → Prop} {c : Bool} (hc : c = true ↔ isTm t) : Ex sc d 85 0 [some (vI t)] [] (wH σ u) Q ↔ Q (.inl (some (vI (bI c)))) (wH σ u) := by
  have nl := fun u Q => s_isNl (sc := sc) (σ := σ) (d := d - 1) (u := u) (Q := Q) (t := t) ht
  obtain ⟨t1, t2⟩ := ht
  unfold isTm at hc
  by_cases hn : 1000 ≤ t ∧ t ≤ 1099
  · simp only [if_pos hn] at nl
    have : c = true := hc.mpr (Or.inr hn)
    rw [this, bI_t]
    simp (disch := first | assumption | omega | exact notL_I | exact notL_N | exact notL_R | exact catS_le (Nat.le_of_ble_eq_true rfl) | exact Nat.le_of_ble_eq_true rfl | exact ooRo (by assumption) | exact ooAt (by assumption) | exact ooRu (by assumption) | exact ooLo (by assumption) | exact ooHa (by assumption) | exact ooLe (by assumption) | exact ooFn | exact ooAn | exact ooPa | exact ooTo | exact ooWa | exact ooCh | rfl) only [x85_0, x85_1, x85_4, x85_5, x85_7, x85_10, x85_11, x85_14, x85_17, x85_18, x85_21, x85_22, nl, Kc_some, if_pos, if_neg, ↓reduceIte, not_true_eq_false, not_false_eq_true]
  · simp only [if_neg hn] at nl
    by_cases h0 : 0 ≤ t ∧ t ≤ 99
    · have : c = true := hc.mpr (Or.inl h0)
      rw [this, bI_t]
      simp (disch := first | assumption | omega | exact notL_I | exact notL_N | exact notL_R | exact catS_le (Nat.le_of_ble_eq_true rfl) | exact Nat.le_of_ble_eq_true rfl | exact ooRo (by assumption) | exact ooAt (by assumption) | exact ooRu (by assumption) | exact ooLo (by assumption) | exact ooHa (by assumption) | exact ooLe (by assumption) | exact ooFn | exact ooAn | exact ooPa | exact ooTo | exact ooWa | exact ooCh | rfl) only [x85_0, x85_1, x85_4, x85_5, x85_7, x85_10, x85_11, x85_14, x85_17, x85_18, x85_21, x85_22, if_pos, if_neg, ↓reduceIte, not_true_eq_false, not_false_eq_true]
    · have : c = false := by
        cases c with
        | false => rfl
        | true => exact absurd (hc.mp rfl) (by omega)
      rw [this, bI_f]
      by_cases ht0 : t < 0
      · simp (disch := first | assumption | omega | exact notL_I | exact notL_N | exact notL_R | exact catS_le (Nat.le_of_ble_eq_true rfl) | exact Nat.le_of_ble_eq_true rfl | exact ooRo (by assumption) | exact ooAt (by assumption) | exact ooRu (by assumption) | exact ooLo (by assumption) | exact ooHa (by assumption) | exact ooLe (by assumption) | exact ooFn | exact ooAn | exact ooPa | exact ooTo | exact ooWa | exact ooCh | rfl) only [x85_0, x85_1, x85_4, x85_5, x85_7, x85_10, x85_11, x85_14, x85_17, x85_18, x85_21, x85_22, nl, Kc_some, if_pos, if_neg, ↓reduceIte, not_true_eq_false, not_false_eq_true]
      · simp (disch := first | assumption | omega | exact notL_I | exact notL_N | exact notL_R | exact catS_le (Nat.le_of_ble_eq_true rfl) | exact Nat.le_of_ble_eq_true rfl | exact ooRo (by assumption) | exact ooAt (by assumption) | exact ooRu (by assumption) | exact ooLo (by assumption) | exact ooHa (by assumption) | exact ooLe (by assumption) | exact ooFn | exact ooAn | exact ooPa | exact ooTo | exact ooWa | exact ooCh | rfl) only [x85_0, x85_1, x85_4, x85_5, x85_7, x85_10, x85_11, x85_14, x85_17, x85_18, x85_21, x85_22, nl, Kc_some, if_pos, if_neg, ↓reduceIte, not_true_eq_false, not_false_eq_true]
/-- terms for that many columns -/
def tmOk (m x y z : Int) : Prop := isTm x ∧ (2 ≤ m → isTm y) ∧ (3 ≤ m → isTm z)
theorem c_chk {h t x y z m : Int} (hd : 10 ≤ d) (h0 : 0 ≤ h) (h2 : h ≤ 2) (ht : inR t) (hx : inR x) (hy : inR y) (hz : inR z) (hm : coC σ (hpb h) t = m) (m1 : 1 ≤ m) (m3 : m ≤ 3) (u : Bool × Nat × Nat × Int) (Q : Rs → HS → Prop) :
    (tmOk m x y z → (Ex sc d 84 0 [some (vR 0), some (vI h), some (vI t), some (vI x), some (vI y), some (vI z), none, none, none, none, none, none] [] (wH σ u) Q ↔ Ex sc d 84 87 [some (vR 0), some (vI h), some (vI t), some (vI x), some (vI y), some (vI z), some (vR ((hpb h))), some (vI m), some (vI ((nrm m x y z).2.1)), some (vI ((nrm m x y z).2.2)), none, none] [] (wH σ u) Q)) ∧ (¬ tmOk m x y z → (Ex sc d 84 0 [some (vR 0), some (vI h), some (vI t), some (vI x), some (vI y), some (vI z), none, none, none, none, none, none] [] (wH σ u) Q ↔ Q (.inl (some (vI (-1)))) (wH σ u))) := by
  have ha := fun u Q => s_hallAt (sc := sc) (σ := σ) (d := d - 1) (u := u) (Q := Q) h0 h2
  have ob := hpb_o h0 h2
  have co := fun u Q => s_colsC (sc := sc) (σ := σ) (d := d - 1) (u := u) (Q := Q) (b := hpb h) (t := t) ob ht
  rw [hm] at co
  have tm : ∀ w : Int, inR w → ∃ c : Bool, (c = true ↔ isTm w) ∧ ∀ u Q, Ex sc (d - 1) 85 0 [some (vI w)] [] (wH σ u) Q ↔ Q (.inl (some (vI (bI c)))) (wH σ u) := fun w hw => by
    by_cases e : isTm w
    · exact ⟨true, ⟨fun _ => e, fun _ => rfl⟩, fun u Q => s_isTmC (sc := sc) (d := d - 1) (by omega) hw ⟨fun _ => e, fun _ => rfl⟩⟩
    · exact ⟨false, ⟨(fun z => by cases z), fun z => absurd z e⟩, fun u Q => s_isTmC (sc := sc) (d := d - 1) (by omega) hw ⟨(fun z => by cases z), fun z => absurd z e⟩⟩
  obtain ⟨cx, ex, tx⟩ := tm x hx
  obtain ⟨cy, ey, ty⟩ := tm y hy
  obtain ⟨cz, ez, tz⟩ := tm z hz
  unfold tmOk nrm
  rw [← ex, ← ey, ← ez]
  clear ex ey ez tm
  rcases (show m = 1 ∨ m = 2 ∨ m = 3 by omega) with rfl | rfl | rfl
  · cases cx
    · rw [bI_f] at tx
      refine ⟨(fun q => by cases q.1), fun _ => ?_⟩
      simp (disch := first | assumption | omega | exact notL_I | exact notL_N | exact notL_R | exact catS_le (Nat.le_of_ble_eq_true rfl) | exact Nat.le_of_ble_eq_true rfl | exact ooRo (by assumption) | exact ooAt (by assumption) | exact ooRu (by assumption) | exact ooLo (by assumption) | exact ooHa (by assumption) | exact ooLe (by assumption) | exact ooFn | exact ooAn | exact ooPa | exact ooTo | exact ooWa | exact ooCh | rfl) only [x84_0, x84_1, x84_2, x84_5, x84_7, x84_9, x84_10, x84_13, x84_15, x84_17, x84_20, x84_21, x84_22, x84_24, x84_25, x84_28, x84_30, x84_33, x84_34, x84_36, x84_38, x84_39, x84_42, x84_44, x84_47, x84_48, x84_50, x84_51, x84_54, x84_57, x84_59, x84_60, x84_63, x84_65, x84_68, x84_71, x84_73, x84_74, x84_77, x84_79, x84_82, x84_85, x84_86, x84_89, x84_92, x84_93, x84_94, x84_96, x84_98, x84_101, x84_103, x84_105, x84_106, x84_109, x84_111, x84_114, x84_116, x84_119, x84_120, x84_122, x84_125, x84_126, x84_127, x84_129, x84_131, x84_134, x84_136, x84_138, x84_139, x84_142, x84_144, x84_147, x84_148, x84_151, x84_153, ha, co, tx, Kc_some, if_pos, if_neg, ↓reduceIte, not_true_eq_false, not_false_eq_true]
    · rw [bI_t] at tx
      refine ⟨fun _ => ?_, fun q => absurd ⟨rfl, (fun w => by omega), (fun w => by omega)⟩ q⟩
      simp (disch := first | assumption | omega | exact notL_I | exact notL_N | exact notL_R | exact catS_le (Nat.le_of_ble_eq_true rfl) | exact Nat.le_of_ble_eq_true rfl | exact ooRo (by assumption) | exact ooAt (by assumption) | exact ooRu (by assumption) | exact ooLo (by assumption) | exact ooHa (by assumption) | exact ooLe (by assumption) | exact ooFn | exact ooAn | exact ooPa | exact ooTo | exact ooWa | exact ooCh | rfl) only [x84_0, x84_1, x84_2, x84_5, x84_7, x84_9, x84_10, x84_13, x84_15, x84_17, x84_20, x84_21, x84_22, x84_24, x84_25, x84_28, x84_30, x84_33, x84_34, x84_36, x84_38, x84_39, x84_42, x84_44, x84_47, x84_48, x84_50, x84_51, x84_54, x84_57, x84_59, x84_60, x84_63, x84_65, x84_68, x84_71, x84_73, x84_74, x84_77, x84_79, x84_82, x84_85, x84_86, x84_89, x84_92, x84_93, x84_94, x84_96, x84_98, x84_101, x84_103, x84_105, x84_106, x84_109, x84_111, x84_114, x84_116, x84_119, x84_120, x84_122, x84_125, x84_126, x84_127, x84_129, x84_131, x84_134, x84_136, x84_138, x84_139, x84_142, x84_144, x84_147, x84_148, x84_151, x84_153, ha, co, tx, Kc_some, if_pos, if_neg, ↓reduceIte, not_true_eq_false, not_false_eq_true]
  · cases cx
    · rw [bI_f] at tx
      refine ⟨(fun q => by cases q.1), fun _ => ?_⟩
      simp (disch := first | assumption | omega | exact notL_I | exact notL_N | exact notL_R | exact catS_le (Nat.le_of_ble_eq_true rfl) | exact Nat.le_of_ble_eq_true rfl | exact ooRo (by assumption) | exact ooAt (by assumption) | exact ooRu (by assumption) | exact ooLo (by assumption) | exact ooHa (by assumption) | exact ooLe (by assumption) | exact ooFn | exact ooAn | exact ooPa | exact ooTo | exact ooWa | exact ooCh | rfl) only [x84_0, x84_1, x84_2, x84_5, x84_7, x84_9, x84_10, x84_13, x84_15, x84_17, x84_20, x84_21, x84_22, x84_24, x84_25, x84_28, x84_30, x84_33, x84_34, x84_36, x84_38, x84_39, x84_42, x84_44, x84_47, x84_48, x84_50, x84_51, x84_54, x84_57, x84_59, x84_60, x84_63, x84_65, x84_68, x84_71, x84_73, x84_74, x84_77, x84_79, x84_82, x84_85, x84_86, x84_89, x84_92, x84_93, x84_94, x84_96, x84_98, x84_101, x84_103, x84_105, x84_106, x84_109, x84_111, x84_114, x84_116, x84_119, x84_120, x84_122, x84_125, x84_126, x84_127, x84_129, x84_131, x84_134, x84_136, x84_138, x84_139, x84_142, x84_144, x84_147, x84_148, x84_151, x84_153, ha, co, tx, Kc_some, if_pos, if_neg, ↓reduceIte, not_true_eq_false, not_false_eq_true]
    · rw [bI_t] at tx
      cases cy
      · rw [bI_f] at ty
        refine ⟨(fun q => by cases q.2.1 (by omega)), fun _ => ?_⟩
        simp (disch := first | assumption | omega | exact notL_I | exact notL_N | exact notL_R | exact catS_le (Nat.le_of_ble_eq_true rfl) | exact Nat.le_of_ble_eq_true rfl | exact ooRo (by assumption) | exact ooAt (by assumption) | exact ooRu (by assumption) | exact ooLo (by assumption) | exact ooHa (by assumption) | exact ooLe (by assumption) | exact ooFn | exact ooAn | exact ooPa | exact ooTo | exact ooWa | exact ooCh | rfl) only [x84_0, x84_1, x84_2, x84_5, x84_7, x84_9, x84_10, x84_13, x84_15, x84_17, x84_20, x84_21, x84_22, x84_24, x84_25, x84_28, x84_30, x84_33, x84_34, x84_36, x84_38, x84_39, x84_42, x84_44, x84_47, x84_48, x84_50, x84_51, x84_54, x84_57, x84_59, x84_60, x84_63, x84_65, x84_68, x84_71, x84_73, x84_74, x84_77, x84_79, x84_82, x84_85, x84_86, x84_89, x84_92, x84_93, x84_94, x84_96, x84_98, x84_101, x84_103, x84_105, x84_106, x84_109, x84_111, x84_114, x84_116, x84_119, x84_120, x84_122, x84_125, x84_126, x84_127, x84_129, x84_131, x84_134, x84_136, x84_138, x84_139, x84_142, x84_144, x84_147, x84_148, x84_151, x84_153, ha, co, tx, ty, Kc_some, if_pos, if_neg, ↓reduceIte, not_true_eq_false, not_false_eq_true]
      · rw [bI_t] at ty
        refine ⟨fun _ => ?_, fun q => absurd ⟨rfl, (fun _ => rfl), (fun w => by omega)⟩ q⟩
        simp (disch := first | assumption | omega | exact notL_I | exact notL_N | exact notL_R | exact catS_le (Nat.le_of_ble_eq_true rfl) | exact Nat.le_of_ble_eq_true rfl | exact ooRo (by assumption) | exact ooAt (by assumption) | exact ooRu (by assumption) | exact ooLo (by assumption) | exact ooHa (by assumption) | exact ooLe (by assumption) | exact ooFn | exact ooAn | exact ooPa | exact ooTo | exact ooWa | exact ooCh | rfl) only [x84_0, x84_1, x84_2, x84_5, x84_7, x84_9, x84_10, x84_13, x84_15, x84_17, x84_20, x84_21, x84_22, x84_24, x84_25, x84_28, x84_30, x84_33, x84_34, x84_36, x84_38, x84_39, x84_42, x84_44, x84_47, x84_48, x84_50, x84_51, x84_54, x84_57, x84_59, x84_60, x84_63, x84_65, x84_68, x84_71, x84_73, x84_74, x84_77, x84_79, x84_82, x84_85, x84_86, x84_89, x84_92, x84_93, x84_94, x84_96, x84_98, x84_101, x84_103, x84_105, x84_106, x84_109, x84_111, x84_114, x84_116, x84_119, x84_120, x84_122, x84_125, x84_126, x84_127, x84_129, x84_131, x84_134, x84_136, x84_138, x84_139, x84_142, x84_144, x84_147, x84_148, x84_151, x84_153, ha, co, tx, ty, Kc_some, if_pos, if_neg, ↓reduceIte, not_true_eq_false, not_false_eq_true]
  · cases cx
    · rw [bI_f] at tx
      refine ⟨(fun q => by cases q.1), fun _ => ?_⟩
      simp (disch := first | assumption | omega | exact notL_I | exact notL_N | exact notL_R | exact catS_le (Nat.le_of_ble_eq_true rfl) | exact Nat.le_of_ble_eq_true rfl | exact ooRo (by assumption) | exact ooAt (by assumption) | exact ooRu (by assumption) | exact ooLo (by assumption) | exact ooHa (by assumption) | exact ooLe (by assumption) | exact ooFn | exact ooAn | exact ooPa | exact ooTo | exact ooWa | exact ooCh | rfl) only [x84_0, x84_1, x84_2, x84_5, x84_7, x84_9, x84_10, x84_13, x84_15, x84_17, x84_20, x84_21, x84_22, x84_24, x84_25, x84_28, x84_30, x84_33, x84_34, x84_36, x84_38, x84_39, x84_42, x84_44, x84_47, x84_48, x84_50, x84_51, x84_54, x84_57, x84_59, x84_60, x84_63, x84_65, x84_68, x84_71, x84_73, x84_74, x84_77, x84_79, x84_82, x84_85, x84_86, x84_89, x84_92, x84_93, x84_94, x84_96, x84_98, x84_101, x84_103, x84_105, x84_106, x84_109, x84_111, x84_114, x84_116, x84_119, x84_120, x84_122, x84_125, x84_126, x84_127, x84_129, x84_131, x84_134, x84_136, x84_138, x84_139, x84_142, x84_144, x84_147, x84_148, x84_151, x84_153, ha, co, tx, Kc_some, if_pos, if_neg, ↓reduceIte, not_true_eq_false, not_false_eq_true]
    · rw [bI_t] at tx
      cases cy
      · rw [bI_f] at ty
        refine ⟨(fun q => by cases q.2.1 (by omega)), fun _ => ?_⟩
        simp (disch := first | assumption | omega | exact notL_I | exact notL_N | exact notL_R | exact catS_le (Nat.le_of_ble_eq_true rfl) | exact Nat.le_of_ble_eq_true rfl | exact ooRo (by assumption) | exact ooAt (by assumption) | exact ooRu (by assumption) | exact ooLo (by assumption) | exact ooHa (by assumption) | exact ooLe (by assumption) | exact ooFn | exact ooAn | exact ooPa | exact ooTo | exact ooWa | exact ooCh | rfl) only [x84_0, x84_1, x84_2, x84_5, x84_7, x84_9, x84_10, x84_13, x84_15, x84_17, x84_20, x84_21, x84_22, x84_24, x84_25, x84_28, x84_30, x84_33, x84_34, x84_36, x84_38, x84_39, x84_42, x84_44, x84_47, x84_48, x84_50, x84_51, x84_54, x84_57, x84_59, x84_60, x84_63, x84_65, x84_68, x84_71, x84_73, x84_74, x84_77, x84_79, x84_82, x84_85, x84_86, x84_89, x84_92, x84_93, x84_94, x84_96, x84_98, x84_101, x84_103, x84_105, x84_106, x84_109, x84_111, x84_114, x84_116, x84_119, x84_120, x84_122, x84_125, x84_126, x84_127, x84_129, x84_131, x84_134, x84_136, x84_138, x84_139, x84_142, x84_144, x84_147, x84_148, x84_151, x84_153, ha, co, tx, ty, Kc_some, if_pos, if_neg, ↓reduceIte, not_true_eq_false, not_false_eq_true]
      · rw [bI_t] at ty
        cases cz
        · rw [bI_f] at tz
          refine ⟨(fun q => by cases q.2.2 (by omega)), fun _ => ?_⟩
          simp (disch := first | assumption | omega | exact notL_I | exact notL_N | exact notL_R | exact catS_le (Nat.le_of_ble_eq_true rfl) | exact Nat.le_of_ble_eq_true rfl | exact ooRo (by assumption) | exact ooAt (by assumption) | exact ooRu (by assumption) | exact ooLo (by assumption) | exact ooHa (by assumption) | exact ooLe (by assumption) | exact ooFn | exact ooAn | exact ooPa | exact ooTo | exact ooWa | exact ooCh | rfl) only [x84_0, x84_1, x84_2, x84_5, x84_7, x84_9, x84_10, x84_13, x84_15, x84_17, x84_20, x84_21, x84_22, x84_24, x84_25, x84_28, x84_30, x84_33, x84_34, x84_36, x84_38, x84_39, x84_42, x84_44, x84_47, x84_48, x84_50, x84_51, x84_54, x84_57, x84_59, x84_60, x84_63, x84_65, x84_68, x84_71, x84_73, x84_74, x84_77, x84_79, x84_82, x84_85, x84_86, x84_89, x84_92, x84_93, x84_94, x84_96, x84_98, x84_101, x84_103, x84_105, x84_106, x84_109, x84_111, x84_114, x84_116, x84_119, x84_120, x84_122, x84_125, x84_126, x84_127, x84_129, x84_131, x84_134, x84_136, x84_138, x84_139, x84_142, x84_144, x84_147, x84_148, x84_151, x84_153, ha, co, tx, ty, tz, Kc_some, if_pos, if_neg, ↓reduceIte, not_true_eq_false, not_false_eq_true]
        · rw [bI_t] at tz
          refine ⟨fun _ => ?_, fun q => absurd ⟨rfl, (fun _ => rfl), (fun _ => rfl)⟩ q⟩
          simp (disch := first | assumption | omega | exact notL_I | exact notL_N | exact notL_R | exact catS_le (Nat.le_of_ble_eq_true rfl) | exact Nat.le_of_ble_eq_true rfl | exact ooRo (by assumption) | exact ooAt (by assumption) | exact ooRu (by assumption) | exact ooLo (by assumption) | exact ooHa (by assumption) | exact ooLe (by assumption) | exact ooFn | exact ooAn | exact ooPa | exact ooTo | exact ooWa | exact ooCh | rfl) only [x84_0, x84_1, x84_2, x84_5, x84_7, x84_9, x84_10, x84_13, x84_15, x84_17, x84_20, x84_21, x84_22, x84_24, x84_25, x84_28, x84_30, x84_33, x84_34, x84_36, x84_38, x84_39, x84_42, x84_44, x84_47, x84_48, x84_50, x84_51, x84_54, x84_57, x84_59, x84_60, x84_63, x84_65, x84_68, x84_71, x84_73, x84_74, x84_77, x84_79, x84_82, x84_85, x84_86, x84_89, x84_92, x84_93, x84_94, x84_96, x84_98, x84_101, x84_103, x84_105, x84_106, x84_109, x84_111, x84_114, x84_116, x84_119, x84_120, x84_122, x84_125, x84_126, x84_127, x84_129, x84_131, x84_134, x84_136, x84_138, x84_139, x84_142, x84_144, x84_147, x84_148, x84_151, x84_153, ha, co, tx, ty, tz, Kc_some, if_pos, if_neg, ↓reduceIte, not_true_eq_false, not_false_eq_true]
end Oe
