/-! questions to the class: all hits -/
theorem if3_eq {p q r : Prop} [Decidable p] [Decidable q] [Decidable r] : (if (if (if (1 : Int) = 1 ∧ p then (1 : Int) else 0) = 1 ∧ q then (1 : Int) else 0) = 1 ∧ r then (1 : Int) else 0) = if p ∧ q ∧ r then 1 else 0 := by
  by_cases c0 : p <;> by_cases c1 : q <;> by_cases c2 : r <;> simp [c0, c1, c2]
/-- the letters asked for, as the parser keeps them -/
def AsI (A : List Int) (σ : St) : Prop := A.length ≤ 3 ∧ σ 87 3 = (A.length : Int) ∧ ∀ (k : Nat) (v : Int), A[k]? = some v → σ 88 k = 2000 + v ∧ 0 ≤ v ∧ v ≤ 25
section Y2
variable {sc : Scr}
theorem l_code1 {σ : St} {A : List Int} {d n k : Nat} {β : Bd} {c b : Int} {u : Bool × Nat × Nat × Int} {Q : Rs → HS → Prop} (hd : 1 ≤ d) (T : TrF σ n) (hβ : bF σ n = β) (hA : AsI A σ) (hk : k < 3) (hb : b = 0 ∨ b = 1) {l1 l2 l3 l7 : Option V} (n3 : notL l3 = true) :
    Ex sc d 152 52 [some (vR 0), l1, l2, l3, some (vI c), some (vI b), some (vI ((k : Int))), l7] [] (wH σ u) Q ↔ Ex sc d 152 52 [some (vR 0), l1, l2, l3, some (vI (c * 100 + trm A β k)), some (vI ((if b = 1 ∧ vOk (trm A β k) then 1 else 0))), some (vI ((k : Int) + 1)), some (vI (trm A β k))] [] (wH σ u) Q := by
  obtain ⟨a3, h3, h8⟩ := hA
  have hk3 : (k : Int) < 3 := by omega
  -- what is left once the term is known
  have rest : ∀ t : Int, -1 ≤ t → t ≤ 1099 → (Ex sc d 152 91 [some (vR 0), l1, l2, l3, some (vI c), some (vI b), some (vI (k : Int)), l7] [vI t] (wH σ u) Q ↔ Ex sc d 152 52 [some (vR 0), l1, l2, l3, some (vI (c * 100 + t)), some (vI ((if b = 1 ∧ vOk t then 1 else 0))), some (vI ((k : Int) + 1)), some (vI t)] [] (wH σ u) Q) := by
    intro t t0 t1
    unfold vOk
    rcases hb with rfl | rfl
    · rw [if_neg (by omega)]
      simp (disch := first | assumption | omega | exact notL_I | exact notL_N | exact notL_R | exact catS_le (Nat.le_of_ble_eq_true rfl) | exact Nat.le_of_ble_eq_true rfl | exact ooRo (by assumption) | exact ooAt (by assumption) | exact ooRu (by assumption) | exact ooLo (by assumption) | exact ooHa (by assumption) | exact ooLe (by assumption) | exact ooFn | exact ooAn | exact ooPa | exact ooTo | exact ooWa | exact ooCh | rfl) only [x152_0, x152_1, x152_4, x152_5, x152_8, x152_11, x152_14, x152_15, x152_18, x152_19, x152_22, x152_23, x152_25, x152_28, x152_31, x152_32, x152_35, x152_36, x152_37, x152_40, x152_43, x152_44, x152_46, x152_47, x152_49, x152_50, x152_54, x152_55, x152_58, x152_60, x152_61, x152_64, x152_67, x152_70, x152_71, x152_74, x152_75, x152_78, x152_81, x152_83, x152_84, x152_87, x152_90, x152_91, x152_93, x152_95, x152_98, x152_100, x152_103, x152_105, x152_107, x152_110, x152_111, x152_114, x152_115, x152_117, x152_119, x152_121, x152_122, x152_124, x152_125, x152_127, x152_130, x152_135, x152_138, x152_139, x152_142, x152_144, x152_147, x152_150, x152_153, if_pos, if_neg, ↓reduceIte, not_true_eq_false, not_false_eq_true]
    · by_cases c0 : t < 0
      · rw [if_neg (by omega)]
        simp (disch := first | assumption | omega | exact notL_I | exact notL_N | exact notL_R | exact catS_le (Nat.le_of_ble_eq_true rfl) | exact Nat.le_of_ble_eq_true rfl | exact ooRo (by assumption) | exact ooAt (by assumption) | exact ooRu (by assumption) | exact ooLo (by assumption) | exact ooHa (by assumption) | exact ooLe (by assumption) | exact ooFn | exact ooAn | exact ooPa | exact ooTo | exact ooWa | exact ooCh | rfl) only [x152_0, x152_1, x152_4, x152_5, x152_8, x152_11, x152_14, x152_15, x152_18, x152_19, x152_22, x152_23, x152_25, x152_28, x152_31, x152_32, x152_35, x152_36, x152_37, x152_40, x152_43, x152_44, x152_46, x152_47, x152_49, x152_50, x152_54, x152_55, x152_58, x152_60, x152_61, x152_64, x152_67, x152_70, x152_71, x152_74, x152_75, x152_78, x152_81, x152_83, x152_84, x152_87, x152_90, x152_91, x152_93, x152_95, x152_98, x152_100, x152_103, x152_105, x152_107, x152_110, x152_111, x152_114, x152_115, x152_117, x152_119, x152_121, x152_122, x152_124, x152_125, x152_127, x152_130, x152_135, x152_138, x152_139, x152_142, x152_144, x152_147, x152_150, x152_153, if_pos, if_neg, ↓reduceIte, not_true_eq_false, not_false_eq_true]
      · by_cases c1 : t < 100
        · rw [if_pos (by omega)]
          simp (disch := first | assumption | omega | exact notL_I | exact notL_N | exact notL_R | exact catS_le (Nat.le_of_ble_eq_true rfl) | exact Nat.le_of_ble_eq_true rfl | exact ooRo (by assumption) | exact ooAt (by assumption) | exact ooRu (by assumption) | exact ooLo (by assumption) | exact ooHa (by assumption) | exact ooLe (by assumption) | exact ooFn | exact ooAn | exact ooPa | exact ooTo | exact ooWa | exact ooCh | rfl) only [x152_0, x152_1, x152_4, x152_5, x152_8, x152_11, x152_14, x152_15, x152_18, x152_19, x152_22, x152_23, x152_25, x152_28, x152_31, x152_32, x152_35, x152_36, x152_37, x152_40, x152_43, x152_44, x152_46, x152_47, x152_49, x152_50, x152_54, x152_55, x152_58, x152_60, x152_61, x152_64, x152_67, x152_70, x152_71, x152_74, x152_75, x152_78, x152_81, x152_83, x152_84, x152_87, x152_90, x152_91, x152_93, x152_95, x152_98, x152_100, x152_103, x152_105, x152_107, x152_110, x152_111, x152_114, x152_115, x152_117, x152_119, x152_121, x152_122, x152_124, x152_125, x152_127, x152_130, x152_135, x152_138, x152_139, x152_142, x152_144, x152_147, x152_150, x152_153, if_pos, if_neg, ↓reduceIte, not_true_eq_false, not_false_eq_true]
        · rw [if_neg (by omega)]
          simp (disch := first | assumption | omega | exact notL_I | exact notL_N | exact notL_R | exact catS_le (Nat.le_of_ble_eq_true rfl) | exact Nat.le_of_ble_eq_true rfl | exact ooRo (by assumption) | exact ooAt (by assumption) | exact ooRu (by assumption) | exact ooLo (by assumption) | exact ooHa (by assumption) | exact ooLe (by assumption) | exact ooFn | exact ooAn | exact ooPa | exact ooTo | exact ooWa | exact ooCh | rfl) only [x152_0, x152_1, x152_4, x152_5, x152_8, x152_11, x152_14, x152_15, x152_18, x152_19, x152_22, x152_23, x152_25, x152_28, x152_31, x152_32, x152_35, x152_36, x152_37, x152_40, x152_43, x152_44, x152_46, x152_47, x152_49, x152_50, x152_54, x152_55, x152_58, x152_60, x152_61, x152_64, x152_67, x152_70, x152_71, x152_74, x152_75, x152_78, x152_81, x152_83, x152_84, x152_87, x152_90, x152_91, x152_93, x152_95, x152_98, x152_100, x152_103, x152_105, x152_107, x152_110, x152_111, x152_114, x152_115, x152_117, x152_119, x152_121, x152_122, x152_124, x152_125, x152_127, x152_130, x152_135, x152_138, x152_139, x152_142, x152_144, x152_147, x152_150, x152_153, if_pos, if_neg, ↓reduceIte, not_true_eq_false, not_false_eq_true]
  rw [x152_52]
  by_cases hkA : k < A.length
  · have g : A[k]? = some A[k] := List.getElem?_eq_getElem hkA
    have h := h8 k _ g
    have et : trm A β k = β A[k] := by unfold trm; rw [g]
    generalize A[k] = v at *
    have ev : β v = σ 102 v := by rw [← hβ]; exact T.2.1.at_ (by omega) (by omega)
    have er := T.2.2 v h.2.1 h.2.2
    have tm := fun u Q => s_termOf (sc := sc) (d := d - 1) (σ := σ) (u := u) (Q := Q) (p := 2000 + v) (by omega) (by omega)
    have ew : worthB (σ 102) (2000 + v) = σ 102 v := by
      unfold worthB
      rw [if_pos (by omega)]
      congr 1
      omega
    rw [ew] at tm
    rw [et, ev, ← rest _ er.1 er.2]
    have hkA2 : (k : Int) < (A.length : Int) := by omega
    simp (disch := first | assumption | omega | exact notL_I | exact notL_N | exact notL_R | exact catS_le (Nat.le_of_ble_eq_true rfl) | exact Nat.le_of_ble_eq_true rfl | exact ooRo (by assumption) | exact ooAt (by assumption) | exact ooRu (by assumption) | exact ooLo (by assumption) | exact ooHa (by assumption) | exact ooLe (by assumption) | exact ooFn | exact ooAn | exact ooPa | exact ooTo | exact ooWa | exact ooCh | rfl) only [x152_0, x152_1, x152_4, x152_5, x152_8, x152_11, x152_14, x152_15, x152_18, x152_19, x152_22, x152_23, x152_25, x152_28, x152_31, x152_32, x152_35, x152_36, x152_37, x152_40, x152_43, x152_44, x152_46, x152_47, x152_49, x152_50, x152_54, x152_55, x152_58, x152_60, x152_61, x152_64, x152_67, x152_70, x152_71, x152_74, x152_75, x152_78, x152_81, x152_83, x152_84, x152_87, x152_90, x152_93, x152_95, x152_98, x152_100, x152_103, x152_105, x152_107, x152_110, x152_111, x152_114, x152_115, x152_117, x152_119, x152_121, x152_122, x152_124, x152_125, x152_127, x152_130, x152_135, x152_138, x152_139, x152_142, x152_144, x152_147, x152_150, x152_153, gCh_parser, gCh_finder, gPa_askedCount, gPa_asked, RPa_asked, h3, h.1, tm, Kc_some, if_pos, if_neg, ↓reduceIte, not_true_eq_false, not_false_eq_true]
  · have g : A[k]? = none := List.getElem?_eq_none (by omega)
    have et : trm A β k = 0 := by unfold trm; rw [g]
    rw [et, ← rest 0 (by omega) (by omega)]
    have hkA2 : ¬ (k : Int) < (A.length : Int) := by omega
    simp (disch := first | assumption | omega | exact notL_I | exact notL_N | exact notL_R | exact catS_le (Nat.le_of_ble_eq_true rfl) | exact Nat.le_of_ble_eq_true rfl | exact ooRo (by assumption) | exact ooAt (by assumption) | exact ooRu (by assumption) | exact ooLo (by assumption) | exact ooHa (by assumption) | exact ooLe (by assumption) | exact ooFn | exact ooAn | exact ooPa | exact ooTo | exact ooWa | exact ooCh | rfl) only [x152_0, x152_1, x152_4, x152_5, x152_8, x152_11, x152_14, x152_15, x152_18, x152_19, x152_22, x152_23, x152_25, x152_28, x152_31, x152_32, x152_35, x152_36, x152_37, x152_40, x152_43, x152_44, x152_46, x152_47, x152_49, x152_50, x152_54, x152_55, x152_58, x152_60, x152_61, x152_64, x152_67, x152_70, x152_71, x152_74, x152_75, x152_78, x152_81, x152_83, x152_84, x152_87, x152_90, x152_93, x152_95, x152_98, x152_100, x152_103, x152_105, x152_107, x152_110, x152_111, x152_114, x152_115, x152_117, x152_119, x152_121, x152_122, x152_124, x152_125, x152_127, x152_130, x152_135, x152_138, x152_139, x152_142, x152_144, x152_147, x152_150, x152_153, gCh_parser, gPa_askedCount, h3, if_pos, if_neg, ↓reduceIte, not_true_eq_false, not_false_eq_true]
theorem l_code {σ : St} {A : List Int} {d n : Nat} {β : Bd} {u : Bool × Nat × Nat × Int} {Q : Rs → HS → Prop} (hd : 1 ≤ d) (T : TrF σ n) (hβ : bF σ n = β) (hA : AsI A σ) {l1 l2 l3 l7 : Option V} (n3 : notL l3 = true) : ∃ l7', Ex sc d 152 52 [some (vR 0), l1, l2, l3, some (vI 0), some (vI 1), some (vI 0), l7] [] (wH σ u) Q ↔ Ex sc d 152 133 [some (vR 0), l1, l2, l3, some (vI ((trm A β 0 * 100 + trm A β 1) * 100 + trm A β 2)), some (vI ((if vOk (trm A β 0) ∧ vOk (trm A β 1) ∧ vOk (trm A β 2) then 1 else 0))), some (vI 3), l7'] [] (wH σ u) Q := by
  refine ⟨some (vI (trm A β 2)), ?_⟩
  have s0 := l_code1 (sc := sc) (σ := σ) (d := d) (u := u) (Q := Q) (c := 0) (b := 1) (k := 0) hd T hβ hA (by omega) (Or.inr rfl) (n3 := n3) (l1 := l1) (l2 := l2) (l3 := l3) (l7 := l7)
  have s1 := fun c b (hb : b = 0 ∨ b = 1) l7 => l_code1 (sc := sc) (σ := σ) (d := d) (u := u) (Q := Q) (c := c) (b := b) (k := 1) hd T hβ hA (by omega) hb (n3 := n3) (l1 := l1) (l2 := l2) (l3 := l3) (l7 := l7)
  have s2 := fun c b (hb : b = 0 ∨ b = 1) l7 => l_code1 (sc := sc) (σ := σ) (d := d) (u := u) (Q := Q) (c := c) (b := b) (k := 2) hd T hβ hA (by omega) hb (n3 := n3) (l1 := l1) (l2 := l2) (l3 := l3) (l7 := l7)
  have q01 : ∀ (p : Prop) [Decidable p], (if p then (1 : Int) else 0) = 0 ∨ (if p then (1 : Int) else 0) = 1 := fun p _ => by split <;> omega
  have e0 : ((0 : Nat) : Int) = 0 := rfl
  rw [e0] at s0
  rw [s0]
  have t1 := s1 (0 * 100 + trm A β 0) (if (1 : Int) = 1 ∧ vOk (trm A β 0) then 1 else 0) (q01 _) (some (vI (trm A β 0)))
  rw [show ((1 : Nat) : Int) = 0 + 1 from rfl] at t1
  rw [t1]
  have t2 := s2 ((0 * 100 + trm A β 0) * 100 + trm A β 1) (if (if (1 : Int) = 1 ∧ vOk (trm A β 0) then (1 : Int) else 0) = 1 ∧ vOk (trm A β 1) then 1 else 0) (q01 _) (some (vI (trm A β 1)))
  rw [show ((2 : Nat) : Int) = 0 + 1 + 1 from rfl] at t2
  rw [t2, x152_52]
  have ec : ((0 * 100 + trm A β 0) * 100 + trm A β 1) * 100 + trm A β 2 = (trm A β 0 * 100 + trm A β 1) * 100 + trm A β 2 := by omega
  have eb : (if (if (if (1 : Int) = 1 ∧ vOk (trm A β 0) then (1 : Int) else 0) = 1 ∧ vOk (trm A β 1) then (1 : Int) else 0) = 1 ∧ vOk (trm A β 2) then (1 : Int) else 0) = if vOk (trm A β 0) ∧ vOk (trm A β 1) ∧ vOk (trm A β 2) then 1 else 0 := by
    exact if3_eq
  rw [ec, eb]
  simp (disch := first | assumption | omega | exact notL_I | exact notL_N | exact notL_R | exact catS_le (Nat.le_of_ble_eq_true rfl) | exact Nat.le_of_ble_eq_true rfl | exact ooRo (by assumption) | exact ooAt (by assumption) | exact ooRu (by assumption) | exact ooLo (by assumption) | exact ooHa (by assumption) | exact ooLe (by assumption) | exact ooFn | exact ooAn | exact ooPa | exact ooTo | exact ooWa | exact ooCh | rfl) only [x152_0, x152_1, x152_4, x152_5, x152_8, x152_11, x152_14, x152_15, x152_18, x152_19, x152_22, x152_23, x152_25, x152_28, x152_31, x152_32, x152_35, x152_36, x152_37, x152_40, x152_43, x152_44, x152_46, x152_47, x152_49, x152_50, x152_54, x152_55, x152_58, x152_60, x152_61, x152_64, x152_67, x152_70, x152_71, x152_74, x152_75, x152_78, x152_81, x152_83, x152_84, x152_87, x152_90, x152_91, x152_93, x152_95, x152_98, x152_100, x152_103, x152_105, x152_107, x152_110, x152_111, x152_114, x152_115, x152_117, x152_119, x152_121, x152_122, x152_124, x152_125, x152_127, x152_130, x152_135, x152_138, x152_139, x152_142, x152_144, x152_147, x152_150, x152_153, if_pos, if_neg, ↓reduceIte, not_true_eq_false, not_false_eq_true]
  exact Iff.rfl
/-- what asking changes: finder, answers -/
def FqC (σ τ : St) : Prop := ∀ c, c < 101 ∨ 106 < c → c ≠ 119 → c ≠ 120 → τ c = σ c
theorem FqC.refl {σ : St} : FqC σ σ := fun _ _ _ _ => rfl
theorem FqC.trans {σ τ ρ : St} (h1 : FqC σ τ) (h2 : FqC τ ρ) : FqC σ ρ := fun c a b e => (h2 c a b e).trans (h1 c a b e)
theorem FqC.at_ {σ τ : St} {a : Nat} (F : FqC σ τ) (h : a + 2 < 101 ∨ 120 < a) : τ a = σ a ∧ τ (a + 1) = σ (a + 1) ∧ τ (a + 2) = σ (a + 2) := ⟨F _ (by omega) (by omega) (by omega), F _ (by omega) (by omega) (by omega), F _ (by omega) (by omega) (by omega)⟩
set_option maxHeartbeats 1000000 in
theorem l_collect {r d lim : Nat} {A : List Int} (or : oRo r) (hr : 120 < r) (hd : 6 ≤ d) : ∀ (H : Hts) (σ : St) (n : Int) (l : List Int), WfAt σ 95 → WfRo σ r → 1 ≤ σ 95 0 → Sch (asC σ 95) (rsC σ r) lim σ H → (∀ b ∈ asC σ 95, ∀ w ∈ rsC σ r, fitT b w.2) → 0 ≤ n → n + H.length ≤ 64000 → AsI A σ → CdI l σ → l.length + H.length ≤ 1600 →
    ∃ τ, FqC σ τ ∧ τ 119 1 = σ 119 1 ∧ CdI (H.foldl (ansF A) l) τ ∧ ∀ (u : Bool × Nat × Nat × Int) (Q : Rs → HS → Prop) (l4 l5 l6 l7 : Option V), Ex sc d 152 24 [some (vR 0), some (vR 95), some (vR r), some (vI n), l4, l5, l6, l7] [] (wH σ u) Q ↔ Q (.inl none) (wH τ u) := by
  have oa : oAt 95 := oRu_94.ahead
  have oF : ∀ (σ : St) (u : Bool × Nat × Nat × Int), isObj (wH σ u) 2 (vR 101) = true := fun _ _ => ooFn
  intro H
  induction H with
  | nil =>
    intro σ n l Wa Wr ha hS hT n0 nH hA hC hl
    rw [List.length_nil] at nH
    rcases s_next (sc := sc) (d := d - 1) oa or (by omega) Wa Wr ha hS hT with ⟨_, τ, z2, z3⟩ | ⟨pre, β, rest, τ, z1, _⟩
    · by_cases hn : n < 64000
      · refine ⟨τ, fun c a _ _ => z2.h c a, by rw [z2.h 119 (by omega)], hC.c (by rw [z2.h 119 (by omega)]) (z2.h 120 (by omega)), fun u Q l4 l5 l6 l7 => ?_⟩
        rw [x152_24]
        simp (disch := first | assumption | omega | exact notL_I | exact notL_N | exact notL_R | exact catS_le (Nat.le_of_ble_eq_true rfl) | exact Nat.le_of_ble_eq_true rfl | exact ooRo (by assumption) | exact ooAt (by assumption) | exact ooRu (by assumption) | exact ooLo (by assumption) | exact ooHa (by assumption) | exact ooLe (by assumption) | exact ooFn | exact ooAn | exact ooPa | exact ooTo | exact ooWa | exact ooCh | rfl) only [x152_0, x152_1, x152_4, x152_5, x152_8, x152_11, x152_14, x152_15, x152_18, x152_19, x152_22, x152_23, x152_25, x152_28, x152_31, x152_32, x152_35, x152_36, x152_37, x152_40, x152_43, x152_44, x152_46, x152_47, x152_49, x152_50, x152_54, x152_55, x152_58, x152_60, x152_61, x152_64, x152_67, x152_70, x152_71, x152_74, x152_75, x152_78, x152_81, x152_83, x152_84, x152_87, x152_90, x152_91, x152_93, x152_95, x152_98, x152_100, x152_103, x152_105, x152_107, x152_110, x152_111, x152_114, x152_115, x152_117, x152_119, x152_121, x152_122, x152_124, x152_125, x152_127, x152_130, x152_135, x152_138, x152_139, x152_142, x152_144, x152_147, x152_150, x152_153, gCh_finder, z3 u, Kc_some, if_pos, if_neg, ↓reduceIte, not_true_eq_false, not_false_eq_true]
      · refine ⟨σ, FqC.refl, rfl, hC, fun u Q l4 l5 l6 l7 => ?_⟩
        rw [x152_24]
        simp (disch := first | assumption | omega | exact notL_I | exact notL_N | exact notL_R | exact catS_le (Nat.le_of_ble_eq_true rfl) | exact Nat.le_of_ble_eq_true rfl | exact ooRo (by assumption) | exact ooAt (by assumption) | exact ooRu (by assumption) | exact ooLo (by assumption) | exact ooHa (by assumption) | exact ooLe (by assumption) | exact ooFn | exact ooAn | exact ooPa | exact ooTo | exact ooWa | exact ooCh | rfl) only [x152_0, x152_1, x152_4, x152_5, x152_8, x152_11, x152_14, x152_15, x152_18, x152_19, x152_22, x152_23, x152_25, x152_28, x152_31, x152_32, x152_35, x152_36, x152_37, x152_40, x152_43, x152_44, x152_46, x152_47, x152_49, x152_50, x152_54, x152_55, x152_58, x152_60, x152_61, x152_64, x152_67, x152_70, x152_71, x152_74, x152_75, x152_78, x152_81, x152_83, x152_84, x152_87, x152_90, x152_91, x152_93, x152_95, x152_98, x152_100, x152_103, x152_105, x152_107, x152_110, x152_111, x152_114, x152_115, x152_117, x152_119, x152_121, x152_122, x152_124, x152_125, x152_127, x152_130, x152_135, x152_138, x152_139, x152_142, x152_144, x152_147, x152_150, x152_153, if_pos, if_neg, ↓reduceIte, not_true_eq_false, not_false_eq_true]
    · cases z1
  | cons z H ih =>
    intro σ n l Wa Wr ha hS hT n0 nH hA hC hl
    rw [List.length_cons] at nH hl
    have h7 : σ 101 7 = (lim : Int) := by obtain ⟨_, _, _, _, q, _⟩ := hS; exact q
    have hlm : lim ≤ (rsC σ r).length := by obtain ⟨_, _, _, _, _, q, _⟩ := hS; exact q
    have wa := Wa.1
    have la := asC_len (σ := σ) (r := 95) wa.1
    rcases s_next (sc := sc) (d := d - 1) oa or (by omega) Wa Wr ha hS hT with ⟨z1, _⟩ | ⟨pre, β, rest, τ, z1, z2, z3, z4⟩
    · cases z1
    · cases z1
      have z2h : FqC σ τ := fun c a _ _ => z2.h c a
      have hA2 : AsI A τ := by
        obtain ⟨q1, q2, q3⟩ := hA
        exact ⟨q1, by rw [z2.h 87 (by omega)]; exact q2, fun k v hk => by rw [z2.h 88 (by omega)]; exact q3 k v hk⟩
      have hC2 : CdI l τ := hC.c (by rw [z2.h 119 (by omega)]) (z2.h 120 (by omega))
      have Ha := z3
      obtain ⟨n9, fs9, T9, b9, -⟩ := Ha
      -- the code and what becomes of it
      have step : ∃ ρ, (∀ c, c ≠ 119 → c ≠ 120 → ρ c = τ c) ∧ ρ 119 1 = τ 119 1 ∧ CdI (ansF A l (pre, β)) ρ ∧ ∀ (u : Bool × Nat × Nat × Int) (Q : Rs → HS → Prop) (l4 l5 l6 l7 : Option V), ∃ l4' l5' l6' l7', Ex sc d 152 24 [some (vR 0), some (vR 95), some (vR r), some (vI n), l4, l5, l6, l7] [] (wH σ u) Q ↔ Ex sc d 152 24 [some (vR 0), some (vR 95), some (vR r), some (vI (n + 1)), l4', l5', l6', l7'] [] (wH ρ u) Q := by
        have hd9 : ∀ (u : Bool × Nat × Nat × Int) (Q : Rs → HS → Prop) (l4 l5 l6 l7 : Option V), ∃ l7', Ex sc d 152 24 [some (vR 0), some (vR 95), some (vR r), some (vI n), l4, l5, l6, l7] [] (wH σ u) Q ↔ Ex sc d 152 133 [some (vR 0), some (vR 95), some (vR r), some (vI n), some (vI ((trm A β 0 * 100 + trm A β 1) * 100 + trm A β 2)), some (vI ((if vOk (trm A β 0) ∧ vOk (trm A β 1) ∧ vOk (trm A β 2) then 1 else 0))), some (vI 3), l7'] [] (wH τ u) Q := by
          intro u Q l4 l5 l6 l7
          obtain ⟨l7', k1⟩ := l_code (sc := sc) (σ := τ) (A := A) (d := d) (u := u) (Q := Q) (by omega) T9 b9 hA2 (l1 := some (vR 95)) (l2 := some (vR r)) (l3 := some (vI n)) (l7 := l7) notL_I
          refine ⟨l7', ?_⟩
          rw [← k1, x152_24]
          simp (disch := first | assumption | omega | exact notL_I | exact notL_N | exact notL_R | exact catS_le (Nat.le_of_ble_eq_true rfl) | exact Nat.le_of_ble_eq_true rfl | exact ooRo (by assumption) | exact ooAt (by assumption) | exact ooRu (by assumption) | exact ooLo (by assumption) | exact ooHa (by assumption) | exact ooLe (by assumption) | exact ooFn | exact ooAn | exact ooPa | exact ooTo | exact ooWa | exact ooCh | rfl) only [x152_0, x152_1, x152_4, x152_5, x152_8, x152_11, x152_14, x152_15, x152_18, x152_19, x152_22, x152_23, x152_25, x152_28, x152_31, x152_32, x152_35, x152_36, x152_37, x152_40, x152_43, x152_44, x152_46, x152_47, x152_49, x152_50, x152_54, x152_55, x152_58, x152_60, x152_61, x152_64, x152_67, x152_70, x152_71, x152_74, x152_75, x152_78, x152_81, x152_83, x152_84, x152_87, x152_90, x152_91, x152_93, x152_95, x152_98, x152_100, x152_103, x152_105, x152_107, x152_110, x152_111, x152_114, x152_115, x152_117, x152_119, x152_121, x152_122, x152_124, x152_125, x152_127, x152_130, x152_135, x152_138, x152_139, x152_142, x152_144, x152_147, x152_150, x152_153, gCh_finder, z4 u, Kc_some, if_pos, if_neg, ↓reduceIte, not_true_eq_false, not_false_eq_true]
        unfold ansF ansC
        dsimp only
        by_cases hv : vOk (trm A β 0) ∧ vOk (trm A β 1) ∧ vOk (trm A β 2)
        · rw [if_pos hv]
          dsimp only
          simp only [if_pos hv] at hd9
          have hv' := hv
          unfold vOk at hv'
          obtain ⟨ρ, w1, w2, w3, w4⟩ := s_insC (sc := sc) (d := d - 1) (e := (trm A β 0 * 100 + trm A β 1) * 100 + trm A β 2) hC2 (by omega) (by omega)
          refine ⟨ρ, w1, w2, w3, fun u Q l4 l5 l6 l7 => ?_⟩
          obtain ⟨l7', k1⟩ := hd9 u Q l4 l5 l6 l7
          refine ⟨some (vI ((trm A β 0 * 100 + trm A β 1) * 100 + trm A β 2)), some (vI 1), some (vI 3), l7', ?_⟩
          rw [k1, x152_133]
          simp (disch := first | assumption | omega | exact notL_I | exact notL_N | exact notL_R | exact catS_le (Nat.le_of_ble_eq_true rfl) | exact Nat.le_of_ble_eq_true rfl | exact ooRo (by assumption) | exact ooAt (by assumption) | exact ooRu (by assumption) | exact ooLo (by assumption) | exact ooHa (by assumption) | exact ooLe (by assumption) | exact ooFn | exact ooAn | exact ooPa | exact ooTo | exact ooWa | exact ooCh | rfl) only [x152_0, x152_1, x152_4, x152_5, x152_8, x152_11, x152_14, x152_15, x152_18, x152_19, x152_22, x152_23, x152_25, x152_28, x152_31, x152_32, x152_35, x152_36, x152_37, x152_40, x152_43, x152_44, x152_46, x152_47, x152_49, x152_50, x152_54, x152_55, x152_58, x152_60, x152_61, x152_64, x152_67, x152_70, x152_71, x152_74, x152_75, x152_78, x152_81, x152_83, x152_84, x152_87, x152_90, x152_91, x152_93, x152_95, x152_98, x152_100, x152_103, x152_105, x152_107, x152_110, x152_111, x152_114, x152_115, x152_117, x152_119, x152_121, x152_122, x152_124, x152_125, x152_127, x152_130, x152_135, x152_138, x152_139, x152_142, x152_144, x152_147, x152_150, x152_153, gCh_answers, w4 u, Kc_none, if_pos, if_neg, ↓reduceIte, not_true_eq_false, not_false_eq_true]
        · rw [if_neg hv]
          dsimp only
          simp only [if_neg hv] at hd9
          refine ⟨τ, fun _ _ _ => rfl, rfl, hC2, fun u Q l4 l5 l6 l7 => ?_⟩
          obtain ⟨l7', k1⟩ := hd9 u Q l4 l5 l6 l7
          refine ⟨some (vI ((trm A β 0 * 100 + trm A β 1) * 100 + trm A β 2)), some (vI 0), some (vI 3), l7', ?_⟩
          rw [k1, x152_133]
          simp (disch := first | assumption | omega | exact notL_I | exact notL_N | exact notL_R | exact catS_le (Nat.le_of_ble_eq_true rfl) | exact Nat.le_of_ble_eq_true rfl | exact ooRo (by assumption) | exact ooAt (by assumption) | exact ooRu (by assumption) | exact ooLo (by assumption) | exact ooHa (by assumption) | exact ooLe (by assumption) | exact ooFn | exact ooAn | exact ooPa | exact ooTo | exact ooWa | exact ooCh | rfl) only [x152_0, x152_1, x152_4, x152_5, x152_8, x152_11, x152_14, x152_15, x152_18, x152_19, x152_22, x152_23, x152_25, x152_28, x152_31, x152_32, x152_35, x152_36, x152_37, x152_40, x152_43, x152_44, x152_46, x152_47, x152_49, x152_50, x152_54, x152_55, x152_58, x152_60, x152_61, x152_64, x152_67, x152_70, x152_71, x152_74, x152_75, x152_78, x152_81, x152_83, x152_84, x152_87, x152_90, x152_91, x152_93, x152_95, x152_98, x152_100, x152_103, x152_105, x152_107, x152_110, x152_111, x152_114, x152_115, x152_117, x152_119, x152_121, x152_122, x152_124, x152_125, x152_127, x152_130, x152_135, x152_138, x152_139, x152_142, x152_144, x152_147, x152_150, x152_153, if_pos, if_neg, ↓reduceIte, not_true_eq_false, not_false_eq_true]
      obtain ⟨ρ, s1, s2, s3, s4⟩ := step
      have Fρ : FqC τ ρ := fun c _ a b => s1 c a b
      have F2 := z2h.trans Fρ
      have at2 := F2.at_ (a := 95) (by omega)
      have eas : asC ρ 95 = asC σ 95 := asC_c (by rw [at2.1]) at2.2.1 at2.2.2
      have ers : rsC ρ r = rsC σ r := rsC_c (fun c c0 c1 => F2 c (by omega) (by omega) (by omega))
      have hS2 : Sch (asC σ 95) (rsC σ r) lim ρ H := (z3.sch (by rw [z2.2 7 (by omega) (by omega)]; exact h7) hlm (by omega)).c (fun j _ => by rw [s1 101 (by omega) (by omega)]) (fun c c0 c1 => s1 c (by omega) (by omega))
      have hal := ansF_ok (ask := A) (l := l) (q := (pre, β)) hC.2.2.1 hC.2.2.2
      obtain ⟨ρ2, w1, w2, w3, w4⟩ := ih ρ (n + 1) (ansF A l (pre, β)) (Wa.c (by rw [at2.1]) at2.2.1 at2.2.2) (Wr.c (fun c c0 c1 => F2 c (by omega) (by omega) (by omega))) (by rw [at2.1]; exact ha) (by rw [eas, ers]; exact hS2) (by rw [eas, ers]; exact hT) (by omega) (by omega) (by
          obtain ⟨q1, q2, q3⟩ := hA2
          exact ⟨q1, by rw [s1 87 (by omega) (by omega)]; exact q2, fun k v hk => by rw [s1 88 (by omega) (by omega)]; exact q3 k v hk⟩) s3 (by omega)
      refine ⟨ρ2, F2.trans w1, by rw [w2, s2, z2.h 119 (by omega)], w3, fun u Q l4 l5 l6 l7 => ?_⟩
      obtain ⟨l4', l5', l6', l7', k1⟩ := s4 u Q l4 l5 l6 l7
      exact k1.trans (w4 u Q l4' l5' l6' l7')
theorem s_collect {r d : Nat} {σ : St} {A : List Int} (or : oRo r) (hr : 120 < r) (hd : 6 ≤ d) (Wa : WfAt σ 95) (Wr : WfRo σ r) (ha : 1 ≤ σ 95 0) (ha2 : σ 95 0 ≤ 2) (hT : ∀ b ∈ asC σ 95, ∀ w ∈ rsC σ r, fitT b w.2) (hA : AsI A σ) :
    ∃ τ, FqC σ τ ∧ τ 119 1 = (A.length : Int) ∧ CdI (ansL A (hitsL (rsC σ r) (asC σ 95) bd0)) τ ∧ RnA sc d 152 0 [some (vR 0), some (vR 95), some (vR r), none, none, none, none, none] σ none τ := by
  have oa : oAt 95 := oRu_94.ahead
  have wa := Wa.1
  have wr := Wr.1
  have la := asC_len (σ := σ) (r := 95) wa.1
  have lr := rsC_len (σ := σ) (r := r) wr.1
  have hc : (hitsL (rsC σ r) (asC σ 95) bd0).length ≤ 1600 := by
    have h1 := hits_len (R := rsC σ r) (asC σ 95) bd0
    have h2 : (rsC σ r).length ^ (asC σ 95).length ≤ 40 ^ (asC σ 95).length := Nat.pow_le_pow_left (by omega) _
    have h3 : 40 ^ (asC σ 95).length ≤ 40 ^ 2 := Nat.pow_le_pow_right (by omega) (by omega)
    have h4 : (40 : Nat) ^ 2 = 1600 := by decide
    omega
  -- begin: answers, finder
  have F0 : FqC σ (su (su σ 119 0 0) 119 1 (A.length : Int)) := fun c _ a _ => by rw [su_ne a, su_ne a]
  have c0 : su (su σ 119 0 0) 119 1 (A.length : Int) 119 0 = 0 := by rw [su_off (by omega), su_eq]
  have c1 : su (su σ 119 0 0) 119 1 (A.length : Int) 119 1 = (A.length : Int) := su_eq
  have ent0 : ∀ (u : Bool × Nat × Nat × Int) (Q : Rs → HS → Prop), Ex sc d 152 0 [some (vR 0), some (vR 95), some (vR r), none, none, none, none, none] [] (wH σ u) Q ↔ Ex sc d 152 14 [some (vR 0), some (vR 95), some (vR r), none, none, none, none, none] [] (wH (su (su σ 119 0 0) 119 1 (A.length : Int)) u) Q := by
    intro u Q
    have bg : ∀ (u : Bool × Nat × Nat × Int) (Q : Rs → HS → Prop) (x : Int), Ex sc (d - 1) 153 0 [some (vR 119), some (vI x)] [] (wH σ u) Q ↔ Q (.inl none) (wH (su (su σ 119 0 0) 119 1 x) u) := fun u Q x => by
      simp (disch := first | assumption | omega | exact notL_I | exact notL_N | exact notL_R | exact catS_le (Nat.le_of_ble_eq_true rfl) | exact Nat.le_of_ble_eq_true rfl | exact ooRo (by assumption) | exact ooAt (by assumption) | exact ooRu (by assumption) | exact ooLo (by assumption) | exact ooHa (by assumption) | exact ooLe (by assumption) | exact ooFn | exact ooAn | exact ooPa | exact ooTo | exact ooWa | exact ooCh | rfl) only [x153_0, x153_1, x153_2, x153_5, x153_6, x153_7, x153_10, pAn_count, pAn_width]
    simp (disch := first | assumption | omega | exact notL_I | exact notL_N | exact notL_R | exact catS_le (Nat.le_of_ble_eq_true rfl) | exact Nat.le_of_ble_eq_true rfl | exact ooRo (by assumption) | exact ooAt (by assumption) | exact ooRu (by assumption) | exact ooLo (by assumption) | exact ooHa (by assumption) | exact ooLe (by assumption) | exact ooFn | exact ooAn | exact ooPa | exact ooTo | exact ooWa | exact ooCh | rfl) only [x152_0, x152_1, x152_4, x152_5, x152_8, x152_11, x152_15, x152_18, x152_19, x152_22, x152_23, x152_25, x152_28, x152_31, x152_32, x152_35, x152_36, x152_37, x152_40, x152_43, x152_44, x152_46, x152_47, x152_49, x152_50, x152_54, x152_55, x152_58, x152_60, x152_61, x152_64, x152_67, x152_70, x152_71, x152_74, x152_75, x152_78, x152_81, x152_83, x152_84, x152_87, x152_90, x152_91, x152_93, x152_95, x152_98, x152_100, x152_103, x152_105, x152_107, x152_110, x152_111, x152_114, x152_115, x152_117, x152_119, x152_121, x152_122, x152_124, x152_125, x152_127, x152_130, x152_135, x152_138, x152_139, x152_142, x152_144, x152_147, x152_150, x152_153, gCh_answers, gCh_parser, gPa_askedCount, hA.2.1, bg, Kc_none]
  generalize su (su σ 119 0 0) 119 1 (A.length : Int) = σ1 at *
  have at1 := F0.at_ (a := 95) (by omega)
  have Wa1 : WfAt σ1 95 := Wa.c (by rw [at1.1]) at1.2.1 at1.2.2
  have Wr1 : WfRo σ1 r := Wr.c (fun c c0 c1 => F0 c (by omega) (by omega) (by omega))
  have eas : asC σ1 95 = asC σ 95 := asC_c (by rw [at1.1]) at1.2.1 at1.2.2
  have ers : rsC σ1 r = rsC σ r := rsC_c (fun c c0 c1 => F0 c (by omega) (by omega) (by omega))
  have ha1 : 1 ≤ σ1 95 0 := by rw [at1.1]; exact ha
  obtain ⟨-, F, S⟩ := bgS_v (σ := σ1) oa or Wa1 Wr1 ha1
  rw [eas, ers] at S
  have FB : FqC σ1 (bgS σ1 r) := fun c a _ _ => F c a
  have F2 := F0.trans FB
  obtain ⟨τ, q1, q2, q3, q4⟩ := l_collect (sc := sc) (d := d) (A := A) or hr hd _ (bgS σ1 r) 0 [] (F.wa oa Wa1) (F.wr or Wr1) (by rw [(F.at_ oa).1]; exact ha1) (by rw [F.as_ oa, F.rs or, eas, ers]; exact S) (by rw [F.as_ oa, F.rs or, eas, ers]; exact hT) (by omega) (by omega) (by
      obtain ⟨q1, q2, q3⟩ := hA
      exact ⟨q1, by rw [F2 87 (by omega) (by omega) (by omega)]; exact q2, fun k v hk => by rw [F2 88 (by omega) (by omega) (by omega)]; exact q3 k v hk⟩) ⟨by rw [F 119 (by omega), c0]; rfl, (fun i c hc => by cases hc), List.Pairwise.nil, (fun c hc => by cases hc)⟩ (by rw [List.length_nil]; omega)
  refine ⟨τ, F2.trans q1, by rw [q2, F 119 (by omega), c1], q3, fun u Q => ?_⟩
  rw [ent0 u Q]
  have bg := s_begin (sc := sc) (d := d - 1) (σ := σ1) or (by omega)
  refine Iff.trans ?_ (q4 u Q none none none none)
  rw [x152_14]
  simp (disch := first | assumption | omega | exact notL_I | exact notL_N | exact notL_R | exact catS_le (Nat.le_of_ble_eq_true rfl) | exact Nat.le_of_ble_eq_true rfl | exact ooRo (by assumption) | exact ooAt (by assumption) | exact ooRu (by assumption) | exact ooLo (by assumption) | exact ooHa (by assumption) | exact ooLe (by assumption) | exact ooFn | exact ooAn | exact ooPa | exact ooTo | exact ooWa | exact ooCh | rfl) only [x152_0, x152_1, x152_4, x152_5, x152_8, x152_11, x152_15, x152_18, x152_19, x152_22, x152_23, x152_25, x152_28, x152_31, x152_32, x152_35, x152_36, x152_37, x152_40, x152_43, x152_44, x152_46, x152_47, x152_49, x152_50, x152_54, x152_55, x152_58, x152_60, x152_61, x152_64, x152_67, x152_70, x152_71, x152_74, x152_75, x152_78, x152_81, x152_83, x152_84, x152_87, x152_90, x152_91, x152_93, x152_95, x152_98, x152_100, x152_103, x152_105, x152_107, x152_110, x152_111, x152_114, x152_115, x152_117, x152_119, x152_121, x152_122, x152_124, x152_125, x152_127, x152_130, x152_135, x152_138, x152_139, x152_142, x152_144, x152_147, x152_150, x152_153, gCh_finder, bg u, Kc_none]
end Y2
