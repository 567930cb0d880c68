/-! tokens of the class: words and numbers -/
theorem all3 {g : Nat → Prop} : (∀ i : Nat, i < 3 → g i) ↔ g 0 ∧ g 1 ∧ g 2 := ⟨fun h => ⟨h 0 (by omega), h 1 (by omega), h 2 (by omega)⟩, fun h i hi => by
  rcases (show i = 0 ∨ i = 1 ∨ i = 2 by omega) with rfl | rfl | rfl
  · exact h.1
  · exact h.2.1
  · exact h.2.2⟩
theorem all4 {g : Nat → Prop} : (∀ i : Nat, i < 4 → g i) ↔ g 0 ∧ g 1 ∧ g 2 ∧ g 3 := ⟨fun h => ⟨h 0 (by omega), h 1 (by omega), h 2 (by omega), h 3 (by omega)⟩, fun h i hi => by
  rcases (show i = 0 ∨ i = 1 ∨ i = 2 ∨ i = 3 by omega) with rfl | rfl | rfl | rfl
  · exact h.1
  · exact h.2.1
  · exact h.2.2.1
  · exact h.2.2.2⟩
theorem all5 {g : Nat → Prop} : (∀ i : Nat, i < 5 → g i) ↔ g 0 ∧ g 1 ∧ g 2 ∧ g 3 ∧ g 4 := ⟨fun h => ⟨h 0 (by omega), h 1 (by omega), h 2 (by omega), h 3 (by omega), h 4 (by omega)⟩, fun h i hi => by
  rcases (show i = 0 ∨ i = 1 ∨ i = 2 ∨ i = 3 ∨ i = 4 by omega) with rfl | rfl | rfl | rfl | rfl
  · exact h.1
  · exact h.2.1
  · exact h.2.2.1
  · exact h.2.2.2.1
  · exact h.2.2.2.2⟩
theorem wrd_is {f : Int → Int} {p : Int} {b0 b1 b2 b3 : Bool} {m : Int} (m1 : 1 < m) (h0 : b0 = true ↔ m = (txLen 0 : Nat) ∧ ∀ i : Nat, i < txLen 0 → f (p + i) = txAt 0 i) (h1 : b1 = true ↔ m = (txLen 1 : Nat) ∧ ∀ i : Nat, i < txLen 1 → f (p + i) = txAt 1 i) (h2 : b2 = true ↔ m = (txLen 2 : Nat) ∧ ∀ i : Nat, i < txLen 2 → f (p + i) = txAt 2 i) (h3 : b3 = true ↔ m = (txLen 3 : Nat) ∧ ∀ i : Nat, i < txLen 3 → f (p + i) = txAt 3 i) :
    wrdK f p m = if b0 = true then 2 else if b1 = true then 3 else if b2 = true then 4 else if b3 = true then 5 else 1 := by
  have z : p + ((0 : Nat) : Int) = p := by omega
  have k0 : (∀ i : Nat, i < txLen 0 → f (p + i) = txAt 0 i) ↔ f p = 116 ∧ f (p + 1) = 97 ∧ f (p + 2) = 98 ∧ f (p + 3) = 108 ∧ f (p + 4) = 101 := by
    rw [show txLen 0 = 5 from rfl, all5, z]
    exact Iff.rfl
  have k1 : (∀ i : Nat, i < txLen 1 → f (p + i) = txAt 1 i) ↔ f p = 114 ∧ f (p + 1) = 111 ∧ f (p + 2) = 119 := by
    rw [show txLen 1 = 3 from rfl, all3, z]
    exact Iff.rfl
  have k2 : (∀ i : Nat, i < txLen 2 → f (p + i) = txAt 2 i) ↔ f p = 114 ∧ f (p + 1) = 117 ∧ f (p + 2) = 108 ∧ f (p + 3) = 101 := by
    rw [show txLen 2 = 4 from rfl, all4, z]
    exact Iff.rfl
  have k3 : (∀ i : Nat, i < txLen 3 → f (p + i) = txAt 3 i) ↔ f p = 102 ∧ f (p + 1) = 97 ∧ f (p + 2) = 108 ∧ f (p + 3) = 115 ∧ f (p + 4) = 101 := by
    rw [show txLen 3 = 5 from rfl, all5, z]
    exact Iff.rfl
  rw [k0, show ((txLen 0 : Nat) : Int) = 5 from rfl] at h0
  rw [k1, show ((txLen 1 : Nat) : Int) = 3 from rfl] at h1
  rw [k2, show ((txLen 2 : Nat) : Int) = 4 from rfl] at h2
  rw [k3, show ((txLen 3 : Nat) : Int) = 5 from rfl] at h3
  unfold wrdK
  rw [if_neg (by omega)]
  simp only [h0, h1, h2, h3]
section U6
variable {sc : Scr} {d : Nat} {σ : St}
theorem s_spells {n p q : Int} {w : Nat} (T : TpC σ n) (hw : w < 4) (p0 : 0 ≤ p) (pq : p ≤ q) (qn : q ≤ n) :
    ∃ b : Bool, (b = true ↔ q - p = (txLen w : Nat) ∧ ∀ i : Nat, i < txLen w → σ 86 (p + i) = txAt w i) ∧ ∀ (u : Bool × Nat × Nat × Int) (Q : Rs → HS → Prop), Ex sc d 30 0 [some (vR 86), some (vI p), some (vI q), some (vS w), none] [] (wH σ u) Q ↔ Q (.inl (some (vI (bI b)))) (wH σ u) := by
  have t0 := T.1
  have hm5 : txLen w ≤ 5 := by unfold txLen; split <;> omega
  by_cases h : q - p = (txLen w : Nat)
  · obtain ⟨b, b1, b2⟩ := l_spells (sc := sc) (d := d) (σ := σ) (q := q) (p := p) T hw rfl p0 (by omega) (txLen w) 0 (by omega)
    refine ⟨b, ⟨fun z => ⟨h, fun i hi => b1.mp z i (by omega) hi⟩, fun z => b1.mpr (fun i _ hi => z.2 i hi)⟩, fun u Q => ?_⟩
    have := b2 u Q
    rw [Int.natCast_zero] at this
    rw [← this]
    simp (disch := first | assumption | omega | exact notL_I | exact notL_N | exact notL_R | exact catS_le (Nat.le_of_ble_eq_true rfl) | exact Nat.le_of_ble_eq_true rfl | exact ooRo (by assumption) | exact ooAt (by assumption) | exact ooRu (by assumption) | exact ooLo (by assumption) | exact ooHa (by assumption) | exact ooLe (by assumption) | exact ooFn | exact ooAn | exact ooPa | exact ooTo | exact ooWa | exact ooCh | rfl) only [x30_0, x30_1, x30_2, x30_3, x30_4, x30_7, x30_10, x30_11, x30_12, x30_13, x30_17, x30_18, x30_21, x30_24, x30_25, x30_26, x30_28, x30_29, x30_30, x30_31, x30_33, x30_36, x30_39, x30_40, x30_41, x30_44, x30_47, x30_48, if_pos, if_neg, ↓reduceIte, not_true_eq_false, not_false_eq_true]
    exact x30_13 rfl
  · refine ⟨false, ⟨(fun z => by cases z), fun z => absurd z.1 h⟩, fun u Q => ?_⟩
    rw [bI_f]
    simp (disch := first | assumption | omega | exact notL_I | exact notL_N | exact notL_R | exact catS_le (Nat.le_of_ble_eq_true rfl) | exact Nat.le_of_ble_eq_true rfl | exact ooRo (by assumption) | exact ooAt (by assumption) | exact ooRu (by assumption) | exact ooLo (by assumption) | exact ooHa (by assumption) | exact ooLe (by assumption) | exact ooFn | exact ooAn | exact ooPa | exact ooTo | exact ooWa | exact ooCh | rfl) only [x30_0, x30_1, x30_2, x30_3, x30_4, x30_7, x30_10, x30_11, x30_12, x30_13, x30_17, x30_18, x30_21, x30_24, x30_25, x30_26, x30_28, x30_29, x30_30, x30_31, x30_33, x30_36, x30_39, x30_40, x30_41, x30_44, x30_47, x30_48, if_pos, if_neg, ↓reduceIte, not_true_eq_false, not_false_eq_true]
theorem s_wordK {n p q : Int} (hd : 1 ≤ d) (T : TpC σ n) (p0 : 0 ≤ p) (pq : p + 1 < q) (qn : q ≤ n) {u : Bool × Nat × Nat × Int} {Q : Rs → HS → Prop} : Ex sc d 29 0 [some (vR 86), some (vI p), some (vI q)] [] (wH σ u) Q ↔ Q (.inl (some (vI (kdT (wrdK (σ 86) p (q - p)))))) (wH σ u) := by
  obtain ⟨b0, a0, c0⟩ := s_spells (sc := sc) (d := d - 1) (σ := σ) (w := 0) (p := p) (q := q) T (by omega) p0 (by omega) qn
  obtain ⟨b1, a1, c1⟩ := s_spells (sc := sc) (d := d - 1) (σ := σ) (w := 1) (p := p) (q := q) T (by omega) p0 (by omega) qn
  obtain ⟨b2, a2, c2⟩ := s_spells (sc := sc) (d := d - 1) (σ := σ) (w := 2) (p := p) (q := q) T (by omega) p0 (by omega) qn
  obtain ⟨b3, a3, c3⟩ := s_spells (sc := sc) (d := d - 1) (σ := σ) (w := 3) (p := p) (q := q) T (by omega) p0 (by omega) qn
  rw [wrd_is (by omega) a0 a1 a2 a3]
  clear a0 a1 a2 a3
  cases b0 with
  | true =>
    rw [bI_t] at c0
    rw [if_pos rfl, show kdT 2 = 2 by decide]
    simp (disch := first | assumption | omega | exact notL_I | exact notL_N | exact notL_R | exact catS_le (Nat.le_of_ble_eq_true rfl) | exact Nat.le_of_ble_eq_true rfl | exact ooRo (by assumption) | exact ooAt (by assumption) | exact ooRu (by assumption) | exact ooLo (by assumption) | exact ooHa (by assumption) | exact ooLe (by assumption) | exact ooFn | exact ooAn | exact ooPa | exact ooTo | exact ooWa | exact ooCh | rfl) only [x29_0, x29_1, x29_2, x29_3, x29_5, x29_8, x29_11, x29_12, x29_13, x29_14, x29_15, x29_16, x29_18, x29_21, x29_24, x29_25, x29_26, x29_27, x29_28, x29_29, x29_31, x29_34, x29_37, x29_38, x29_39, x29_40, x29_41, x29_42, x29_44, x29_47, x29_50, x29_51, x29_54, x29_55, c0, Kc_some, if_pos, if_neg, ↓reduceIte, not_true_eq_false, not_false_eq_true]
  | false =>
    rw [bI_f] at c0
    rw [if_neg (by simp)]
    cases b1 with
    | true =>
      rw [bI_t] at c1
      rw [if_pos rfl, show kdT 3 = 3 by decide]
      simp (disch := first | assumption | omega | exact notL_I | exact notL_N | exact notL_R | exact catS_le (Nat.le_of_ble_eq_true rfl) | exact Nat.le_of_ble_eq_true rfl | exact ooRo (by assumption) | exact ooAt (by assumption) | exact ooRu (by assumption) | exact ooLo (by assumption) | exact ooHa (by assumption) | exact ooLe (by assumption) | exact ooFn | exact ooAn | exact ooPa | exact ooTo | exact ooWa | exact ooCh | rfl) only [x29_0, x29_1, x29_2, x29_3, x29_5, x29_8, x29_11, x29_12, x29_13, x29_14, x29_15, x29_16, x29_18, x29_21, x29_24, x29_25, x29_26, x29_27, x29_28, x29_29, x29_31, x29_34, x29_37, x29_38, x29_39, x29_40, x29_41, x29_42, x29_44, x29_47, x29_50, x29_51, x29_54, x29_55, c0, c1, Kc_some, if_pos, if_neg, ↓reduceIte, not_true_eq_false, not_false_eq_true]
    | false =>
      rw [bI_f] at c1
      rw [if_neg (by simp)]
      cases b2 with
      | true =>
        rw [bI_t] at c2
        rw [if_pos rfl, show kdT 4 = 4 by decide]
        simp (disch := first | assumption | omega | exact notL_I | exact notL_N | exact notL_R | exact catS_le (Nat.le_of_ble_eq_true rfl) | exact Nat.le_of_ble_eq_true rfl | exact ooRo (by assumption) | exact ooAt (by assumption) | exact ooRu (by assumption) | exact ooLo (by assumption) | exact ooHa (by assumption) | exact ooLe (by assumption) | exact ooFn | exact ooAn | exact ooPa | exact ooTo | exact ooWa | exact ooCh | rfl) only [x29_0, x29_1, x29_2, x29_3, x29_5, x29_8, x29_11, x29_12, x29_13, x29_14, x29_15, x29_16, x29_18, x29_21, x29_24, x29_25, x29_26, x29_27, x29_28, x29_29, x29_31, x29_34, x29_37, x29_38, x29_39, x29_40, x29_41, x29_42, x29_44, x29_47, x29_50, x29_51, x29_54, x29_55, c0, c1, c2, Kc_some, if_pos, if_neg, ↓reduceIte, not_true_eq_false, not_false_eq_true]
      | false =>
        rw [bI_f] at c2
        rw [if_neg (by simp)]
        cases b3 with
        | true =>
          rw [bI_t] at c3
          rw [if_pos rfl, show kdT 5 = 5 by decide]
          simp (disch := first | assumption | omega | exact notL_I | exact notL_N | exact notL_R | exact catS_le (Nat.le_of_ble_eq_true rfl) | exact Nat.le_of_ble_eq_true rfl | exact ooRo (by assumption) | exact ooAt (by assumption) | exact ooRu (by assumption) | exact ooLo (by assumption) | exact ooHa (by assumption) | exact ooLe (by assumption) | exact ooFn | exact ooAn | exact ooPa | exact ooTo | exact ooWa | exact ooCh | rfl) only [x29_0, x29_1, x29_2, x29_3, x29_5, x29_8, x29_11, x29_12, x29_13, x29_14, x29_15, x29_16, x29_18, x29_21, x29_24, x29_25, x29_26, x29_27, x29_28, x29_29, x29_31, x29_34, x29_37, x29_38, x29_39, x29_40, x29_41, x29_42, x29_44, x29_47, x29_50, x29_51, x29_54, x29_55, c0, c1, c2, c3, Kc_some, if_pos, if_neg, ↓reduceIte, not_true_eq_false, not_false_eq_true]
        | false =>
          rw [bI_f] at c3
          rw [if_neg (by simp), show kdT 1 = 1 by decide]
          simp (disch := first | assumption | omega | exact notL_I | exact notL_N | exact notL_R | exact catS_le (Nat.le_of_ble_eq_true rfl) | exact Nat.le_of_ble_eq_true rfl | exact ooRo (by assumption) | exact ooAt (by assumption) | exact ooRu (by assumption) | exact ooLo (by assumption) | exact ooHa (by assumption) | exact ooLe (by assumption) | exact ooFn | exact ooAn | exact ooPa | exact ooTo | exact ooWa | exact ooCh | rfl) only [x29_0, x29_1, x29_2, x29_3, x29_5, x29_8, x29_11, x29_12, x29_13, x29_14, x29_15, x29_16, x29_18, x29_21, x29_24, x29_25, x29_26, x29_27, x29_28, x29_29, x29_31, x29_34, x29_37, x29_38, x29_39, x29_40, x29_41, x29_42, x29_44, x29_47, x29_50, x29_51, x29_54, x29_55, c0, c1, c2, c3, Kc_some, if_pos, if_neg, ↓reduceIte, not_true_eq_false, not_false_eq_true]
theorem l_scL {n q : Int} (hd : 1 ≤ d) (T : TpC σ n) : ∀ (k : Nat) (e : Int), 0 ≤ e → e + k = n →
    ∀ (u : Bool × Nat × Nat × Int) (Q : Rs → HS → Prop), Ex sc d 28 3 [some (vR 89), some (vR 86), some (vI n), some (vI q), some (vI e), none] [] (wH σ u) Q ↔ Ex sc d 28 25 [some (vR 89), some (vR 86), some (vI n), some (vI q), some (vI (spanF (fun k => isLt (chT (σ 86) n k)) k e)), none] [] (wH σ u) Q := by
  intro k
  have t0 := T.1
  induction k with
  | zero =>
    intro e e0 he u Q
    rw [x28_3, spanF]
    simp (disch := first | assumption | omega | exact notL_I | exact notL_N | exact notL_R | exact catS_le (Nat.le_of_ble_eq_true rfl) | exact Nat.le_of_ble_eq_true rfl | exact ooRo (by assumption) | exact ooAt (by assumption) | exact ooRu (by assumption) | exact ooLo (by assumption) | exact ooHa (by assumption) | exact ooLe (by assumption) | exact ooFn | exact ooAn | exact ooPa | exact ooTo | exact ooWa | exact ooCh | rfl) only [x28_0, x28_1, x28_5, x28_6, x28_9, x28_10, x28_12, x28_13, x28_16, x28_19, x28_22, x28_26, x28_27, x28_28, x28_30, x28_32, x28_33, x28_34, x28_35, x28_38, x28_39, x28_40, x28_41, x28_43, x28_46, x28_47, x28_48, x28_51, x28_54, x28_56, x28_58, x28_61, x28_62, x28_64, x28_66, x28_68, x28_69, x28_70, x28_73, x28_76, x28_77, x28_79, x28_81, x28_83, x28_84, x28_85, x28_88, x28_90, if_pos, if_neg, ↓reduceIte, not_true_eq_false, not_false_eq_true]
  | succ k ih =>
    intro e e0 he u Q
    have t := T.2 e e0 (by omega)
    have il := fun u Q => s_letC (sc := sc) (σ := σ) (d := d - 1) (u := u) (Q := Q) (c := σ 86 e) t
    have ec : chT (σ 86) n e = σ 86 e := by unfold chT; rw [if_pos (by omega)]
    rw [x28_3, spanF, ec]
    cases h : isLt (σ 86 e) with
    | true =>
      rw [if_pos rfl, ← ih (e + 1) (by omega) (by omega) u Q]
      rw [h, bI_t] at il
      simp (disch := first | assumption | omega | exact notL_I | exact notL_N | exact notL_R | exact catS_le (Nat.le_of_ble_eq_true rfl) | exact Nat.le_of_ble_eq_true rfl | exact ooRo (by assumption) | exact ooAt (by assumption) | exact ooRu (by assumption) | exact ooLo (by assumption) | exact ooHa (by assumption) | exact ooLe (by assumption) | exact ooFn | exact ooAn | exact ooPa | exact ooTo | exact ooWa | exact ooCh | rfl) only [x28_0, x28_1, x28_5, x28_6, x28_9, x28_10, x28_12, x28_13, x28_16, x28_19, x28_22, x28_26, x28_27, x28_28, x28_30, x28_32, x28_33, x28_34, x28_35, x28_38, x28_39, x28_40, x28_41, x28_43, x28_46, x28_47, x28_48, x28_51, x28_54, x28_56, x28_58, x28_61, x28_62, x28_64, x28_66, x28_68, x28_69, x28_70, x28_73, x28_76, x28_77, x28_79, x28_81, x28_83, x28_84, x28_85, x28_88, x28_90, RCh_tape, il, Kc_some, if_pos, if_neg, ↓reduceIte, not_true_eq_false, not_false_eq_true]
    | false =>
      rw [if_neg (by simp)]
      rw [h, bI_f] at il
      simp (disch := first | assumption | omega | exact notL_I | exact notL_N | exact notL_R | exact catS_le (Nat.le_of_ble_eq_true rfl) | exact Nat.le_of_ble_eq_true rfl | exact ooRo (by assumption) | exact ooAt (by assumption) | exact ooRu (by assumption) | exact ooLo (by assumption) | exact ooHa (by assumption) | exact ooLe (by assumption) | exact ooFn | exact ooAn | exact ooPa | exact ooTo | exact ooWa | exact ooCh | rfl) only [x28_0, x28_1, x28_5, x28_6, x28_9, x28_10, x28_12, x28_13, x28_16, x28_19, x28_22, x28_26, x28_27, x28_28, x28_30, x28_32, x28_33, x28_34, x28_35, x28_38, x28_39, x28_40, x28_41, x28_43, x28_46, x28_47, x28_48, x28_51, x28_54, x28_56, x28_58, x28_61, x28_62, x28_64, x28_66, x28_68, x28_69, x28_70, x28_73, x28_76, x28_77, x28_79, x28_81, x28_83, x28_84, x28_85, x28_88, x28_90, RCh_tape, il, Kc_some, if_pos, if_neg, ↓reduceIte, not_true_eq_false, not_false_eq_true]
theorem s_scanL {n q : Int} {L : List Ps} (hd : 2 ≤ d) (T : TpC σ n) (q0 : 0 ≤ q) (q1 : q < n) (hq : isLt (σ 86 q) = true) (H : TkI L σ) (hl : L.length < 1001) :
    ∃ τ, FtC σ τ ∧ τ 89 1 = σ 89 1 ∧ TkI (L ++ [tokA (σ 86) n q]) τ ∧ RnA sc d 28 0 [some (vR 89), some (vR 86), some (vI n), some (vI q), none, none] σ (some (vI (tokA (σ 86) n q).2.2)) τ := by
  have t0 := T.1
  have t := T.2 q q0 (by omega)
  have lp := l_scL (sc := sc) (d := d) (σ := σ) (q := q) (by omega) T (n - q).toNat q q0 (by omega)
  have es : spanF (fun k => isLt (chT (σ 86) n k)) (n - q).toNat q = spn (σ 86) n isLt q := rfl
  rw [es] at lp
  have sv := spn_v (f := σ 86) (n := n) (p := q) (q := isLt) (by omega)
  have t1 : q < spn (σ 86) n isLt q := by
    by_cases e : spn (σ 86) n isLt q = q
    · have := sv.2.2.2 (by omega)
      rw [e, hq] at this
      cases this
    · omega
  have et : tokA (σ 86) n q = (wrdK (σ 86) q (spn (σ 86) n isLt q - q), q, spn (σ 86) n isLt q) := by
    unfold tokA
    rw [if_neg (by omega), if_pos hq]
  rw [et]
  generalize spn (σ 86) n isLt q = e at *
  have ent : ∀ (u : Bool × Nat × Nat × Int) (Q : Rs → HS → Prop), Ex sc d 28 0 [some (vR 89), some (vR 86), some (vI n), some (vI q), none, none] [] (wH σ u) Q ↔ Ex sc d 28 25 [some (vR 89), some (vR 86), some (vI n), some (vI q), some (vI e), none] [] (wH σ u) Q := by
    intro u Q
    rw [← lp u Q]
    simp (disch := first | assumption | omega | exact notL_I | exact notL_N | exact notL_R | exact catS_le (Nat.le_of_ble_eq_true rfl) | exact Nat.le_of_ble_eq_true rfl | exact ooRo (by assumption) | exact ooAt (by assumption) | exact ooRu (by assumption) | exact ooLo (by assumption) | exact ooHa (by assumption) | exact ooLe (by assumption) | exact ooFn | exact ooAn | exact ooPa | exact ooTo | exact ooWa | exact ooCh | rfl) only [x28_0, x28_1, x28_5, x28_6, x28_9, x28_10, x28_12, x28_13, x28_16, x28_19, x28_22, x28_26, x28_27, x28_28, x28_30, x28_32, x28_33, x28_34, x28_35, x28_38, x28_39, x28_40, x28_41, x28_43, x28_46, x28_47, x28_48, x28_51, x28_54, x28_56, x28_58, x28_61, x28_62, x28_64, x28_66, x28_68, x28_69, x28_70, x28_73, x28_76, x28_77, x28_79, x28_81, x28_83, x28_84, x28_85, x28_88, x28_90]
  rw [isLt_n] at hq
  by_cases h1 : e - q ≤ 1
  · have e1 : e - q = 1 := by omega
    have ew : wrdK (σ 86) q (e - q) = if 97 ≤ σ 86 q then 200 + σ 86 q - 97 else 100 + σ 86 q - 65 := by
      unfold wrdK
      rw [if_pos e1]
    rw [ew]
    by_cases h2 : 97 ≤ σ 86 q
    · rw [if_pos h2]
      obtain ⟨τ, a1, a2, a3, a4⟩ := s_append (sc := sc) (d := d - 1) (σ := σ) (s := ((200 + σ 86 q - 97, q, e) : Ps)) (k := 7) (v := σ 86 q - 97) (p := q) H hl (by dsimp only; unfold kdT; repeat' split; all_goals omega) (by dsimp only; unfold vlT; repeat' split; all_goals omega) rfl
      refine ⟨τ, a1, a2, a3, fun u Q => ?_⟩
      rw [ent u Q, x28_25]
      unfold RnA at a4
      simp (disch := first | assumption | omega | exact notL_I | exact notL_N | exact notL_R | exact catS_le (Nat.le_of_ble_eq_true rfl) | exact Nat.le_of_ble_eq_true rfl | exact ooRo (by assumption) | exact ooAt (by assumption) | exact ooRu (by assumption) | exact ooLo (by assumption) | exact ooHa (by assumption) | exact ooLe (by assumption) | exact ooFn | exact ooAn | exact ooPa | exact ooTo | exact ooWa | exact ooCh | rfl) only [x28_0, x28_1, x28_5, x28_6, x28_9, x28_10, x28_12, x28_13, x28_16, x28_19, x28_22, x28_26, x28_27, x28_28, x28_30, x28_32, x28_33, x28_34, x28_35, x28_38, x28_39, x28_40, x28_41, x28_43, x28_46, x28_47, x28_48, x28_51, x28_54, x28_56, x28_58, x28_61, x28_62, x28_64, x28_66, x28_68, x28_69, x28_70, x28_73, x28_76, x28_77, x28_79, x28_81, x28_83, x28_84, x28_85, x28_88, x28_90, RCh_tape, a4, Kc_none, if_pos, if_neg, ↓reduceIte, not_true_eq_false, not_false_eq_true]
    · rw [if_neg h2]
      obtain ⟨τ, a1, a2, a3, a4⟩ := s_append (sc := sc) (d := d - 1) (σ := σ) (s := ((100 + σ 86 q - 65, q, e) : Ps)) (k := 6) (v := σ 86 q - 65) (p := q) H hl (by dsimp only; unfold kdT; repeat' split; all_goals omega) (by dsimp only; unfold vlT; repeat' split; all_goals omega) rfl
      refine ⟨τ, a1, a2, a3, fun u Q => ?_⟩
      rw [ent u Q, x28_25]
      unfold RnA at a4
      simp (disch := first | assumption | omega | exact notL_I | exact notL_N | exact notL_R | exact catS_le (Nat.le_of_ble_eq_true rfl) | exact Nat.le_of_ble_eq_true rfl | exact ooRo (by assumption) | exact ooAt (by assumption) | exact ooRu (by assumption) | exact ooLo (by assumption) | exact ooHa (by assumption) | exact ooLe (by assumption) | exact ooFn | exact ooAn | exact ooPa | exact ooTo | exact ooWa | exact ooCh | rfl) only [x28_0, x28_1, x28_5, x28_6, x28_9, x28_10, x28_12, x28_13, x28_16, x28_19, x28_22, x28_26, x28_27, x28_28, x28_30, x28_32, x28_33, x28_34, x28_35, x28_38, x28_39, x28_40, x28_41, x28_43, x28_46, x28_47, x28_48, x28_51, x28_54, x28_56, x28_58, x28_61, x28_62, x28_64, x28_66, x28_68, x28_69, x28_70, x28_73, x28_76, x28_77, x28_79, x28_81, x28_83, x28_84, x28_85, x28_88, x28_90, RCh_tape, a4, Kc_none, if_pos, if_neg, ↓reduceIte, not_true_eq_false, not_false_eq_true]
  · have wk := fun u Q => s_wordK (sc := sc) (d := d - 1) (σ := σ) (u := u) (Q := Q) (p := q) (q := e) (by omega) T q0 (by omega) (by omega)
    have ev : vlT (wrdK (σ 86) q (e - q)) = 0 := by
      unfold wrdK
      rw [if_neg (by omega)]
      repeat' split
      all_goals decide
    obtain ⟨τ, a1, a2, a3, a4⟩ := s_append (sc := sc) (d := d - 1) (σ := σ) (s := ((wrdK (σ 86) q (e - q), q, e) : Ps)) (k := kdT (wrdK (σ 86) q (e - q))) (v := 0) (p := q) H hl rfl ev.symm rfl
    refine ⟨τ, a1, a2, a3, fun u Q => ?_⟩
    rw [ent u Q, x28_25]
    unfold RnA at a4
    simp (disch := first | assumption | omega | exact notL_I | exact notL_N | exact notL_R | exact catS_le (Nat.le_of_ble_eq_true rfl) | exact Nat.le_of_ble_eq_true rfl | exact ooRo (by assumption) | exact ooAt (by assumption) | exact ooRu (by assumption) | exact ooLo (by assumption) | exact ooHa (by assumption) | exact ooLe (by assumption) | exact ooFn | exact ooAn | exact ooPa | exact ooTo | exact ooWa | exact ooCh | rfl) only [x28_0, x28_1, x28_5, x28_6, x28_9, x28_10, x28_12, x28_13, x28_16, x28_19, x28_22, x28_26, x28_27, x28_28, x28_30, x28_32, x28_33, x28_34, x28_35, x28_38, x28_39, x28_40, x28_41, x28_43, x28_46, x28_47, x28_48, x28_51, x28_54, x28_56, x28_58, x28_61, x28_62, x28_64, x28_66, x28_68, x28_69, x28_70, x28_73, x28_76, x28_77, x28_79, x28_81, x28_83, x28_84, x28_85, x28_88, x28_90, RCh_tape, wk, a4, Kc_some, Kc_none, if_pos, if_neg, ↓reduceIte, not_true_eq_false, not_false_eq_true]
end U6
