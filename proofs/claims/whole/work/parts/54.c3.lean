/-! atoms, rules, logs, halls of the class: small methods -/
/-- an atom added -/
def adA (σ : St) (a : Nat) (t x y z : Int) : St := su (su (su (su (su σ (a + 1) (σ a 0) t) (a + 2) (σ a 0 * 3) x) (a + 2) (σ a 0 * 3 + 1) y) (a + 2) (σ a 0 * 3 + 2) z) a 0 (σ a 0 + 1)
def clU (σ : St) (a : Nat) : St := su (su (su (su (su σ a 0 2) (a + 1) 0 0) (a + 4) 0 0) a 3 (-1)) a 4 (-1)
def clR (σ : St) (r : Nat) : St := fl (su (su σ r 0 0) r 1 0) (r + 4) 0 100 0
def clL (σ : St) (l : Nat) : St := fl (su (su σ l 0 0) l 1 0) (l + 2) 0 200 (-1)
def clH (σ : St) (b : Nat) : St := clL (clR (fl (su (su σ b 0 0) b 1 0) (b + 1) 0 26 0) (b + 3)) (b + 8)
/-- a step noted -/
def ntS (σ : St) (l : Nat) (r m w b : Int) : St := su (su (su (su (su (su (su (su σ (l + 1) (σ l 1 * 7 + 0) r) (l + 1) (σ l 1 * 7 + 1) m) (l + 1) (σ l 1 * 7 + 2 + 0) (-1)) (l + 1) (σ l 1 * 7 + 2 + (0 + 1)) (-1)) (l + 1) (σ l 1 * 7 + 2 + (0 + 1 + 1)) (-1)) (l + 1) (σ l 1 * 7 + 5) w) (l + 1) (σ l 1 * 7 + 6) b) l 1 (σ l 1 + 1)
section C3
variable {sc : Scr} {σ : St} {u : Bool × Nat × Nat × Int} {Q : Rs → HS → Prop} {d : Nat} {a q r l b : Nat}
theorem s_clrA (o : oAt a) : Ex sc d 61 0 [some (vR a)] [] (wH σ u) Q ↔ Q (.inl none) (wH (su σ a 0 0) u) := by
  simp (disch := first | assumption | omega | exact notL_I | exact notL_N | exact notL_R | exact catS_le (Nat.le_of_ble_eq_true rfl) | exact ooRo (by assumption) | exact ooAt (by assumption) | exact ooRu (by assumption) | exact ooLo (by assumption) | exact ooHa (by assumption) | exact ooLe (by assumption) | exact ooFn | exact ooAn | exact ooPa | exact ooTo | exact ooWa | exact ooCh | rfl) only [x61_0, x61_1, x61_2, x61_5, pAt_count]
theorem s_addA {t x y z : Int} (o : oAt a) (W : WfAt σ a) (h : σ a 0 < 3) : Ex sc d 63 0 [some (vR a), some (vI t), some (vI x), some (vI y), some (vI z)] [] (wH σ u) Q ↔ Q (.inl none) (wH (adA σ a t x y z) u) := by
  have w := W.1
  unfold adA
  simp (disch := first | assumption | omega | exact notL_I | exact notL_N | exact notL_R | exact catS_le (Nat.le_of_ble_eq_true rfl) | exact ooRo (by assumption) | exact ooAt (by assumption) | exact ooRu (by assumption) | exact ooLo (by assumption) | exact ooHa (by assumption) | exact ooLe (by assumption) | exact ooFn | exact ooAn | exact ooPa | exact ooTo | exact ooWa | exact ooCh | rfl) only [x63_0, x63_1, x63_4, x63_5, x63_8, x63_9, x63_10, x63_13, x63_14, x63_17, x63_18, x63_19, x63_20, x63_23, x63_24, x63_27, x63_28, x63_29, x63_30, x63_31, x63_32, x63_35, x63_36, x63_39, x63_40, x63_41, x63_42, x63_43, x63_44, x63_45, x63_46, x63_49, x63_50, x63_53, x63_54, x63_55, x63_56, x63_57, x63_59, x63_60, x63_61I, x63_61, x63_62, x63_65, x63_66, x63_67, x63_70, gAt_count, gAt_table, gAt_place, WAt_table, WAt_place, pAt_count, su_ne, if_pos, if_neg, ↓reduceIte, not_true_eq_false, not_false_eq_true]
theorem s_fullA {t x y z : Int} (o : oAt a) (h : σ a 0 = 3) : Ex sc d 63 0 [some (vR a), some (vI t), some (vI x), some (vI y), some (vI z)] [] (wH σ u) Q ↔ Q (.inl none) (wH σ u) := by
  simp (disch := first | assumption | omega | exact notL_I | exact notL_N | exact notL_R | exact catS_le (Nat.le_of_ble_eq_true rfl) | exact ooRo (by assumption) | exact ooAt (by assumption) | exact ooRu (by assumption) | exact ooLo (by assumption) | exact ooHa (by assumption) | exact ooLe (by assumption) | exact ooFn | exact ooAn | exact ooPa | exact ooTo | exact ooWa | exact ooCh | rfl) only [x63_0, x63_1, x63_4, x63_5, x63_8, x63_9, x63_10, x63_13, x63_14, x63_17, x63_18, x63_19, x63_20, x63_23, x63_24, x63_27, x63_28, x63_29, x63_30, x63_31, x63_32, x63_35, x63_36, x63_39, x63_40, x63_41, x63_42, x63_43, x63_44, x63_45, x63_46, x63_49, x63_50, x63_53, x63_54, x63_55, x63_56, x63_57, x63_59, x63_60, x63_61I, x63_61, x63_62, x63_65, x63_66, x63_67, x63_70, gAt_count, h, if_pos, if_neg, ↓reduceIte, not_true_eq_false, not_false_eq_true]
theorem l_mentA {v : Int} (o : oAt a) (hv : inR v) (W : WfAt σ a) : ∀ (k : Nat) (i : Int), 0 ≤ i → i + k = σ a 0 * 3 → (Ex sc d 66 2 [some (vR a), some (vI v), some (vI i)] [] (wH σ u) Q ↔ Q (.inl (some (vI (bI (anyF (σ (a + 2)) v k i))))) (wH σ u)) := by
  obtain ⟨v1, v2⟩ := hv
  have w := W.1
  intro k
  induction k with
  | zero =>
    intro i h0 hk
    rw [x66_2]
    simp (disch := first | assumption | omega | exact notL_I | exact notL_N | exact notL_R | exact catS_le (Nat.le_of_ble_eq_true rfl) | exact ooRo (by assumption) | exact ooAt (by assumption) | exact ooRu (by assumption) | exact ooLo (by assumption) | exact ooHa (by assumption) | exact ooLe (by assumption) | exact ooFn | exact ooAn | exact ooPa | exact ooTo | exact ooWa | exact ooCh | rfl) only [x66_0, x66_1, x66_3, x66_4, x66_7, x66_8, x66_9, x66_12, x66_13, x66_16, x66_17, x66_18, x66_19, x66_22, x66_23, x66_24, x66_27, x66_30, x66_31, gAt_count, if_pos, if_neg, ↓reduceIte, not_true_eq_false, not_false_eq_true]
    rfl
  | succ k ih =>
    intro i h0 hk
    have w2 := W.2.2 i h0 (by omega)
    rw [x66_2, anyF]
    by_cases h : σ (a + 2) i = v
    · rw [if_pos h, bI_t]
      simp (disch := first | assumption | omega | exact notL_I | exact notL_N | exact notL_R | exact catS_le (Nat.le_of_ble_eq_true rfl) | exact ooRo (by assumption) | exact ooAt (by assumption) | exact ooRu (by assumption) | exact ooLo (by assumption) | exact ooHa (by assumption) | exact ooLe (by assumption) | exact ooFn | exact ooAn | exact ooPa | exact ooTo | exact ooWa | exact ooCh | rfl) only [x66_0, x66_1, x66_3, x66_4, x66_7, x66_8, x66_9, x66_12, x66_13, x66_16, x66_17, x66_18, x66_19, x66_22, x66_23, x66_24, x66_27, x66_30, x66_31, gAt_count, gAt_place, RAt_place, if_pos, if_neg, ↓reduceIte, not_true_eq_false, not_false_eq_true]
    · rw [if_neg h]
      simp (disch := first | assumption | omega | exact notL_I | exact notL_N | exact notL_R | exact catS_le (Nat.le_of_ble_eq_true rfl) | exact ooRo (by assumption) | exact ooAt (by assumption) | exact ooRu (by assumption) | exact ooLo (by assumption) | exact ooHa (by assumption) | exact ooLe (by assumption) | exact ooFn | exact ooAn | exact ooPa | exact ooTo | exact ooWa | exact ooCh | rfl) only [x66_0, x66_1, x66_3, x66_4, x66_7, x66_8, x66_9, x66_12, x66_13, x66_16, x66_17, x66_18, x66_19, x66_22, x66_23, x66_24, x66_27, x66_30, x66_31, gAt_count, gAt_place, RAt_place, if_pos, if_neg, ↓reduceIte, not_true_eq_false, not_false_eq_true]
      exact ih (i + 1) (by omega) (by omega)
theorem s_mentA {v : Int} (o : oAt a) (hv : inR v) (W : WfAt σ a) : Ex sc d 66 0 [some (vR a), some (vI v), none] [] (wH σ u) Q ↔ Q (.inl (some (vI (bI (mentL (asC σ a) v))))) (wH σ u) := by
  have w := W.1
  have e := l_mentA (sc := sc) (u := u) (Q := Q) (d := d) o hv W ((σ a 0).toNat * 3) 0 (by omega) (by omega)
  have e2 := any_atoms (σ := σ) (r := a) (v := v) (σ a 0).toNat 0
  rw [show (0 : Int) * 3 = 0 from rfl] at e2
  rw [e2] at e
  refine Iff.trans ?_ e
  simp (disch := first | assumption | omega | exact notL_I | exact notL_N | exact notL_R | exact catS_le (Nat.le_of_ble_eq_true rfl) | exact ooRo (by assumption) | exact ooAt (by assumption) | exact ooRu (by assumption) | exact ooLo (by assumption) | exact ooHa (by assumption) | exact ooLe (by assumption) | exact ooFn | exact ooAn | exact ooPa | exact ooTo | exact ooWa | exact ooCh | rfl) only [x66_0, x66_1]
theorem s_takeA (oq : oAt q) (o : oAt a) (h : apt q a 3) : Ex sc d 70 0 [some (vR a), some (vR q)] [] (wH σ u) Q ↔ Q (.inl none) (wH (cpAt σ q a) u) := by
  have n1 : q ≠ a := fun e => apt_ne (i := 0) (j := 0) h (by omega) (by omega) e
  unfold cpAt
  simp (disch := first | assumption | omega | exact notL_I | exact notL_N | exact notL_R | exact catS_le (Nat.le_of_ble_eq_true rfl) | exact ooRo (by assumption) | exact ooAt (by assumption) | exact ooRu (by assumption) | exact ooLo (by assumption) | exact ooHa (by assumption) | exact ooLe (by assumption) | exact ooFn | exact ooAn | exact ooPa | exact ooTo | exact ooWa | exact ooCh | rfl) only [x70_0, x70_1, x70_2, x70_5, x70_8, x70_9, x70_12, x70_13, x70_14, x70_17, x70_18, x70_19, x70_22, x70_23, x70_26, x70_27, x70_28, x70_31, x70_32, x70_34, x70_37, gAt_count, gAt_table, gAt_place, pAt_count, su_ne, Cp_w (sAt_table oq).1 (sAt_table o).1 (sAt_table oq).2 (sAt_table o).2 (by decide) (by decide), Cp_w (sAt_place oq).1 (sAt_place o).1 (sAt_place oq).2 (sAt_place o).2 (by decide) (by decide), if_pos, if_neg, ↓reduceIte, not_true_eq_false, not_false_eq_true]
theorem s_clrU (o : oRu a) (hd : 1 ≤ d) : Ex sc d 60 0 [some (vR a)] [] (wH σ u) Q ↔ Q (.inl none) (wH (clU σ a) u) := by
  have o1 := o.ahead
  have o2 := o.behind
  unfold clU
  simp (disch := first | assumption | omega | exact notL_I | exact notL_N | exact notL_R | exact catS_le (Nat.le_of_ble_eq_true rfl) | exact ooRo (by assumption) | exact ooAt (by assumption) | exact ooRu (by assumption) | exact ooLo (by assumption) | exact ooHa (by assumption) | exact ooLe (by assumption) | exact ooFn | exact ooAn | exact ooPa | exact ooTo | exact ooWa | exact ooCh | rfl) only [x60_0, x60_1, x60_2, x60_5, x60_6, x60_9, x60_12, x60_13, x60_16, x60_19, x60_20, x60_21, x60_24, x60_25, x60_26, x60_29, pRu_kind, pRu_left, pRu_right, gRu_ahead, gRu_behind, s_clrA, Kc_none]
theorem s_takeU (oq : oRu q) (o : oRu a) (hd : 1 ≤ d) (h : apt q a 7) : Ex sc d 69 0 [some (vR a), some (vR q)] [] (wH σ u) Q ↔ Q (.inl none) (wH (cpRu σ q a) u) := by
  have h' := h
  unfold apt at h'
  have o1 := o.ahead
  have o2 := o.behind
  have o3 := oq.ahead
  have o4 := oq.behind
  have n1 : q ≠ a := by omega
  have h1 : apt (q + 1) (a + 1) 3 := by unfold apt; omega
  have h2 : apt (q + 4) (a + 4) 3 := by unfold apt; omega
  have e1 : cpAt (cpAt (su σ a 0 (σ q 0)) (q + 1) (a + 1)) (q + 4) (a + 4) q = σ q := by
    rw [(cpAt_r h2).1 q (by omega), (cpAt_r h1).1 q (by omega), su_ne n1]
  unfold cpRu
  simp (disch := first | assumption | omega | exact notL_I | exact notL_N | exact notL_R | exact catS_le (Nat.le_of_ble_eq_true rfl) | exact ooRo (by assumption) | exact ooAt (by assumption) | exact ooRu (by assumption) | exact ooLo (by assumption) | exact ooHa (by assumption) | exact ooLe (by assumption) | exact ooFn | exact ooAn | exact ooPa | exact ooTo | exact ooWa | exact ooCh | rfl) only [x69_0, x69_1, x69_2, x69_5, x69_8, x69_9, x69_12, x69_13, x69_16, x69_19, x69_20, x69_23, x69_24, x69_27, x69_30, x69_31, x69_32, x69_35, x69_38, x69_39, x69_40, x69_43, x69_46, gRu_kind, gRu_left, gRu_right, pRu_kind, pRu_left, pRu_right, gRu_ahead, gRu_behind, s_takeA, Kc_none, su_ne, e1]
theorem s_placeAt {p c : Int} (o : oAt a) (hp : inR p) (hc : inR c) (W : WfAt σ a) : Ex sc d 112 0 [some (vR a), some (vI p), some (vI c)] [] (wH σ u) Q ↔ Q (.inl (some (vI (if 0 ≤ p ∧ p < σ a 0 ∧ 0 ≤ c ∧ c < 3 then σ (a + 2) (p * 3 + c) else -1)))) (wH σ u) := by
  obtain ⟨p1, p2⟩ := hp
  obtain ⟨c1, c2⟩ := hc
  have w := W.1
  by_cases h1 : p < 0
  · simp (disch := first | assumption | omega | exact notL_I | exact notL_N | exact notL_R | exact catS_le (Nat.le_of_ble_eq_true rfl) | exact ooRo (by assumption) | exact ooAt (by assumption) | exact ooRu (by assumption) | exact ooLo (by assumption) | exact ooHa (by assumption) | exact ooLe (by assumption) | exact ooFn | exact ooAn | exact ooPa | exact ooTo | exact ooWa | exact ooCh | rfl) only [x112_0, x112_1, x112_4, x112_5, x112_6, x112_9, x112_12, x112_13, x112_16, x112_17, x112_18, x112_21, x112_22, x112_23, x112_24, x112_27, x112_28, x112_29, x112_30, x112_31, x112_32, x112_33, if_pos, if_neg, ↓reduceIte, not_true_eq_false, not_false_eq_true]
  · by_cases h2 : p < σ a 0
    · by_cases h3 : c < 0
      · simp (disch := first | assumption | omega | exact notL_I | exact notL_N | exact notL_R | exact catS_le (Nat.le_of_ble_eq_true rfl) | exact ooRo (by assumption) | exact ooAt (by assumption) | exact ooRu (by assumption) | exact ooLo (by assumption) | exact ooHa (by assumption) | exact ooLe (by assumption) | exact ooFn | exact ooAn | exact ooPa | exact ooTo | exact ooWa | exact ooCh | rfl) only [x112_0, x112_1, x112_4, x112_5, x112_6, x112_9, x112_12, x112_13, x112_16, x112_17, x112_18, x112_21, x112_22, x112_23, x112_24, x112_27, x112_28, x112_29, x112_30, x112_31, x112_32, x112_33, gAt_count, if_pos, if_neg, ↓reduceIte, not_true_eq_false, not_false_eq_true]
      · by_cases h4 : c < 3
        · simp (disch := first | assumption | omega | exact notL_I | exact notL_N | exact notL_R | exact catS_le (Nat.le_of_ble_eq_true rfl) | exact ooRo (by assumption) | exact ooAt (by assumption) | exact ooRu (by assumption) | exact ooLo (by assumption) | exact ooHa (by assumption) | exact ooLe (by assumption) | exact ooFn | exact ooAn | exact ooPa | exact ooTo | exact ooWa | exact ooCh | rfl) only [x112_0, x112_1, x112_4, x112_5, x112_6, x112_9, x112_12, x112_13, x112_16, x112_17, x112_18, x112_21, x112_22, x112_23, x112_24, x112_27, x112_28, x112_29, x112_30, x112_31, x112_32, x112_33, gAt_count, gAt_place, RAt_place, if_pos, if_neg, ↓reduceIte, not_true_eq_false, not_false_eq_true]
        · simp (disch := first | assumption | omega | exact notL_I | exact notL_N | exact notL_R | exact catS_le (Nat.le_of_ble_eq_true rfl) | exact ooRo (by assumption) | exact ooAt (by assumption) | exact ooRu (by assumption) | exact ooLo (by assumption) | exact ooHa (by assumption) | exact ooLe (by assumption) | exact ooFn | exact ooAn | exact ooPa | exact ooTo | exact ooWa | exact ooCh | rfl) only [x112_0, x112_1, x112_4, x112_5, x112_6, x112_9, x112_12, x112_13, x112_16, x112_17, x112_18, x112_21, x112_22, x112_23, x112_24, x112_27, x112_28, x112_29, x112_30, x112_31, x112_32, x112_33, gAt_count, if_pos, if_neg, ↓reduceIte, not_true_eq_false, not_false_eq_true]
    · simp (disch := first | assumption | omega | exact notL_I | exact notL_N | exact notL_R | exact catS_le (Nat.le_of_ble_eq_true rfl) | exact ooRo (by assumption) | exact ooAt (by assumption) | exact ooRu (by assumption) | exact ooLo (by assumption) | exact ooHa (by assumption) | exact ooLe (by assumption) | exact ooFn | exact ooAn | exact ooPa | exact ooTo | exact ooWa | exact ooCh | rfl) only [x112_0, x112_1, x112_4, x112_5, x112_6, x112_9, x112_12, x112_13, x112_16, x112_17, x112_18, x112_21, x112_22, x112_23, x112_24, x112_27, x112_28, x112_29, x112_30, x112_31, x112_32, x112_33, gAt_count, if_pos, if_neg, ↓reduceIte, not_true_eq_false, not_false_eq_true]
theorem atK_eq {p t x y z : Int} : atK σ a p = (t, x, y, z) ↔ σ (a + 1) p = t ∧ σ (a + 2) (p * 3) = x ∧ σ (a + 2) (p * 3 + 1) = y ∧ σ (a + 2) (p * 3 + 2) = z := by
  unfold atK
  rw [Prod.mk.injEq, Prod.mk.injEq, Prod.mk.injEq]
theorem l_hasAtom {t x y z : Int} (o : oAt a) (ht : inR t) (hx : inR x) (hy : inR y) (hz : inR z) (W : WfAt σ a) : ∀ (k : Nat) (p : Int), 0 ≤ p → p + k = σ a 0 → ∀ l6, (Ex sc d 113 3 [some (vR a), some (vI t), some (vI x), some (vI y), some (vI z), some (vI p), l6] [] (wH σ u) Q ↔ Q (.inl (some (vI (bI (decide ((t, x, y, z) ∈ akF σ a k p)))))) (wH σ u)) := by
  obtain ⟨t1, t2⟩ := ht
  obtain ⟨x1, x2⟩ := hx
  obtain ⟨y1, y2⟩ := hy
  obtain ⟨z1, z2⟩ := hz
  have w := W.1
  intro k
  induction k with
  | zero =>
    intro p h0 hk l6
    rw [x113_3]
    simp (disch := first | assumption | omega | exact notL_I | exact notL_N | exact notL_R | exact catS_le (Nat.le_of_ble_eq_true rfl) | exact ooRo (by assumption) | exact ooAt (by assumption) | exact ooRu (by assumption) | exact ooLo (by assumption) | exact ooHa (by assumption) | exact ooLe (by assumption) | exact ooFn | exact ooAn | exact ooPa | exact ooTo | exact ooWa | exact ooCh | rfl) only [x113_0, x113_1, x113_5, x113_6, x113_9, x113_12, x113_14, x113_15, x113_16, x113_18, x113_19, x113_22, x113_24, x113_25, x113_26, x113_29, x113_30, x113_33, x113_35, x113_36, x113_37, x113_40, x113_41, x113_44, x113_46, x113_47, x113_48, x113_49, x113_50, x113_53, x113_54, x113_57, x113_59, x113_60, x113_61, x113_62, x113_64, x113_67, x113_68, x113_69, x113_72, x113_75, x113_76, gAt_count, if_pos, if_neg, ↓reduceIte, not_true_eq_false, not_false_eq_true]
    rw [akF, decide_eq_false (by simp), bI_f]
  | succ k ih =>
    intro p h0 hk l6
    have w2 := W.2.1 p h0 (by omega)
    have w3 := W.2.2 (p * 3) (by omega) (by omega)
    have w4 := W.2.2 (p * 3 + 1) (by omega) (by omega)
    have w5 := W.2.2 (p * 3 + 2) (by omega) (by omega)
    have i1 := fun l6 => ih (p + 1) (by omega) (by omega) l6
    rw [x113_3, akF]
    simp (disch := first | assumption | omega | exact notL_I | exact notL_N | exact notL_R | exact catS_le (Nat.le_of_ble_eq_true rfl) | exact ooRo (by assumption) | exact ooAt (by assumption) | exact ooRu (by assumption) | exact ooLo (by assumption) | exact ooHa (by assumption) | exact ooLe (by assumption) | exact ooFn | exact ooAn | exact ooPa | exact ooTo | exact ooWa | exact ooCh | rfl) only [x113_0, x113_1, x113_5, x113_6, x113_9, x113_12, x113_14, x113_15, x113_16, x113_18, x113_19, x113_22, x113_24, x113_25, x113_26, x113_29, x113_30, x113_33, x113_35, x113_36, x113_37, x113_40, x113_41, x113_44, x113_46, x113_47, x113_48, x113_49, x113_50, x113_53, x113_54, x113_57, x113_59, x113_60, x113_61, x113_62, x113_64, x113_67, x113_68, x113_69, x113_72, x113_75, x113_76, gAt_count, gAt_table, gAt_place, RAt_table, RAt_place, if_pos, if_neg, ↓reduceIte, not_true_eq_false, not_false_eq_true, i1]
    by_cases h : atK σ a p = (t, x, y, z)
    · rw [decide_eq_true (p := (t, x, y, z) ∈ atK σ a p :: akF σ a k (p + 1)) (by rw [h]; exact List.mem_cons_self), bI_t]
      rw [atK_eq] at h
      repeat' split
      all_goals first | (exfalso; omega) | rfl
    · have : decide ((t, x, y, z) ∈ atK σ a p :: akF σ a k (p + 1)) = decide ((t, x, y, z) ∈ akF σ a k (p + 1)) := by
        exact decide_eq_decide.mpr ⟨fun q => (List.mem_cons.mp q).elim (fun e => absurd e.symm h) id, fun q => List.mem_cons_of_mem _ q⟩
      rw [this]
      rw [atK_eq] at h
      repeat' split
      all_goals first | (exfalso; omega) | rfl
theorem s_hasAtom {t x y z : Int} (o : oAt a) (ht : inR t) (hx : inR x) (hy : inR y) (hz : inR z) (W : WfAt σ a) : Ex sc d 113 0 [some (vR a), some (vI t), some (vI x), some (vI y), some (vI z), none, none] [] (wH σ u) Q ↔ Q (.inl (some (vI (bI (decide ((t, x, y, z) ∈ asC σ a)))))) (wH σ u) := by
  have w := W.1
  have e := l_hasAtom (sc := sc) (u := u) (Q := Q) (d := d) o ht hx hy hz W (σ a 0).toNat 0 (by omega) (by omega) none
  refine Iff.trans ?_ e
  simp (disch := first | assumption | omega | exact notL_I | exact notL_N | exact notL_R | exact catS_le (Nat.le_of_ble_eq_true rfl) | exact ooRo (by assumption) | exact ooAt (by assumption) | exact ooRu (by assumption) | exact ooLo (by assumption) | exact ooHa (by assumption) | exact ooLe (by assumption) | exact ooFn | exact ooAn | exact ooPa | exact ooTo | exact ooWa | exact ooCh | rfl) only [x113_0, x113_1]
theorem s_clrL (o : oLo l) (hd : 1 ≤ d) : Ex sc d 38 0 [some (vR l)] [] (wH σ u) Q ↔ Q (.inl none) (wH (clL σ l) u) := by
  unfold clL
  simp (disch := first | assumption | omega | exact notL_I | exact notL_N | exact notL_R | exact catS_le (Nat.le_of_ble_eq_true rfl) | exact ooRo (by assumption) | exact ooAt (by assumption) | exact ooRu (by assumption) | exact ooLo (by assumption) | exact ooHa (by assumption) | exact ooLe (by assumption) | exact ooFn | exact ooAn | exact ooPa | exact ooTo | exact ooWa | exact ooCh | rfl) only [x38_0, x38_1, x38_2, x38_5, x38_6, x38_7, x38_10, x38_11, x38_14, x38_15, x38_18, pLo_state, pLo_count, gLo_makers, s_fill (sLo_makers o).1 (sLo_makers o).2 (by decide), Kc_none]
  rfl
theorem s_takeL (oq : oLo q) (o : oLo l) (h : apt q l 3) : Ex sc d 72 0 [some (vR l), some (vR q)] [] (wH σ u) Q ↔ Q (.inl none) (wH (cpLo σ q l) u) := by
  have n1 : q ≠ l := fun e => apt_ne (i := 0) (j := 0) h (by omega) (by omega) e
  unfold cpLo
  simp (disch := first | assumption | omega | exact notL_I | exact notL_N | exact notL_R | exact catS_le (Nat.le_of_ble_eq_true rfl) | exact ooRo (by assumption) | exact ooAt (by assumption) | exact ooRu (by assumption) | exact ooLo (by assumption) | exact ooHa (by assumption) | exact ooLe (by assumption) | exact ooFn | exact ooAn | exact ooPa | exact ooTo | exact ooWa | exact ooCh | rfl) only [x72_0, x72_1, x72_2, x72_5, x72_8, x72_9, x72_10, x72_13, x72_16, x72_17, x72_20, x72_21, x72_22, x72_25, x72_26, x72_29, x72_32, x72_33, x72_36, x72_37, x72_38, x72_41, x72_42, x72_45, x72_48, gLo_state, gLo_count, gLo_steps, gLo_makers, pLo_state, pLo_count, su_ne, Cp_w (sLo_steps oq).1 (sLo_steps o).1 (sLo_steps oq).2 (sLo_steps o).2 (by decide) (by decide), Cp_w (sLo_makers oq).1 (sLo_makers o).1 (sLo_makers oq).2 (sLo_makers o).2 (by decide) (by decide), if_pos, if_neg, ↓reduceIte, not_true_eq_false, not_false_eq_true]
theorem s_tell {p c : Int} (o : oLo l) (hp : inR p) (hc : inR c) (W : WfLo σ l) : Ex sc d 123 0 [some (vR l), some (vI p), some (vI c)] [] (wH σ u) Q ↔ Q (.inl (some (vI (if 0 ≤ p ∧ p < σ l 1 ∧ 0 ≤ c ∧ c < 7 then σ (l + 1) (p * 7 + c) else -1)))) (wH σ u) := by
  obtain ⟨p1, p2⟩ := hp
  obtain ⟨c1, c2⟩ := hc
  have w := W.2.1
  by_cases h1 : p < 0
  · simp (disch := first | assumption | omega | exact notL_I | exact notL_N | exact notL_R | exact catS_le (Nat.le_of_ble_eq_true rfl) | exact ooRo (by assumption) | exact ooAt (by assumption) | exact ooRu (by assumption) | exact ooLo (by assumption) | exact ooHa (by assumption) | exact ooLe (by assumption) | exact ooFn | exact ooAn | exact ooPa | exact ooTo | exact ooWa | exact ooCh | rfl) only [x123_0, x123_1, x123_4, x123_5, x123_6, x123_9, x123_12, x123_13, x123_16, x123_17, x123_19, x123_22, x123_23, x123_24, x123_25, x123_28, x123_29, x123_31, x123_32, x123_33, x123_34, x123_35, if_pos, if_neg, ↓reduceIte, not_true_eq_false, not_false_eq_true]
  · by_cases h2 : p < σ l 1
    · by_cases h3 : c < 0
      · simp (disch := first | assumption | omega | exact notL_I | exact notL_N | exact notL_R | exact catS_le (Nat.le_of_ble_eq_true rfl) | exact ooRo (by assumption) | exact ooAt (by assumption) | exact ooRu (by assumption) | exact ooLo (by assumption) | exact ooHa (by assumption) | exact ooLe (by assumption) | exact ooFn | exact ooAn | exact ooPa | exact ooTo | exact ooWa | exact ooCh | rfl) only [x123_0, x123_1, x123_4, x123_5, x123_6, x123_9, x123_12, x123_13, x123_16, x123_17, x123_19, x123_22, x123_23, x123_24, x123_25, x123_28, x123_29, x123_31, x123_32, x123_33, x123_34, x123_35, gLo_count, if_pos, if_neg, ↓reduceIte, not_true_eq_false, not_false_eq_true]
      · by_cases h4 : c < 7
        · simp (disch := first | assumption | omega | exact notL_I | exact notL_N | exact notL_R | exact catS_le (Nat.le_of_ble_eq_true rfl) | exact ooRo (by assumption) | exact ooAt (by assumption) | exact ooRu (by assumption) | exact ooLo (by assumption) | exact ooHa (by assumption) | exact ooLe (by assumption) | exact ooFn | exact ooAn | exact ooPa | exact ooTo | exact ooWa | exact ooCh | rfl) only [x123_0, x123_1, x123_4, x123_5, x123_6, x123_9, x123_12, x123_13, x123_16, x123_17, x123_19, x123_22, x123_23, x123_24, x123_25, x123_28, x123_29, x123_31, x123_32, x123_33, x123_34, x123_35, gLo_count, gLo_steps, RLo_steps, if_pos, if_neg, ↓reduceIte, not_true_eq_false, not_false_eq_true]
        · simp (disch := first | assumption | omega | exact notL_I | exact notL_N | exact notL_R | exact catS_le (Nat.le_of_ble_eq_true rfl) | exact ooRo (by assumption) | exact ooAt (by assumption) | exact ooRu (by assumption) | exact ooLo (by assumption) | exact ooHa (by assumption) | exact ooLe (by assumption) | exact ooFn | exact ooAn | exact ooPa | exact ooTo | exact ooWa | exact ooCh | rfl) only [x123_0, x123_1, x123_4, x123_5, x123_6, x123_9, x123_12, x123_13, x123_16, x123_17, x123_19, x123_22, x123_23, x123_24, x123_25, x123_28, x123_29, x123_31, x123_32, x123_33, x123_34, x123_35, gLo_count, if_pos, if_neg, ↓reduceIte, not_true_eq_false, not_false_eq_true]
    · simp (disch := first | assumption | omega | exact notL_I | exact notL_N | exact notL_R | exact catS_le (Nat.le_of_ble_eq_true rfl) | exact ooRo (by assumption) | exact ooAt (by assumption) | exact ooRu (by assumption) | exact ooLo (by assumption) | exact ooHa (by assumption) | exact ooLe (by assumption) | exact ooFn | exact ooAn | exact ooPa | exact ooTo | exact ooWa | exact ooCh | rfl) only [x123_0, x123_1, x123_4, x123_5, x123_6, x123_9, x123_12, x123_13, x123_16, x123_17, x123_19, x123_22, x123_23, x123_24, x123_25, x123_28, x123_29, x123_31, x123_32, x123_33, x123_34, x123_35, gLo_count, if_pos, if_neg, ↓reduceIte, not_true_eq_false, not_false_eq_true]
theorem s_maker {n : Int} (o : oLo l) (hn : inR n) : Ex sc d 126 0 [some (vR l), some (vI n)] [] (wH σ u) Q ↔ Q (.inl (some (vI (byC σ l n)))) (wH σ u) := by
  obtain ⟨p1, p2⟩ := hn
  unfold byC
  by_cases h1 : n < 0
  · simp (disch := first | assumption | omega | exact notL_I | exact notL_N | exact notL_R | exact catS_le (Nat.le_of_ble_eq_true rfl) | exact ooRo (by assumption) | exact ooAt (by assumption) | exact ooRu (by assumption) | exact ooLo (by assumption) | exact ooHa (by assumption) | exact ooLe (by assumption) | exact ooFn | exact ooAn | exact ooPa | exact ooTo | exact ooWa | exact ooCh | rfl) only [x126_0, x126_1, x126_4, x126_5, x126_8, x126_11, x126_12, x126_15, x126_16, x126_19, x126_20, x126_21, if_pos, if_neg, ↓reduceIte, not_true_eq_false, not_false_eq_true]
  · by_cases h2 : n < 200
    · simp (disch := first | assumption | omega | exact notL_I | exact notL_N | exact notL_R | exact catS_le (Nat.le_of_ble_eq_true rfl) | exact ooRo (by assumption) | exact ooAt (by assumption) | exact ooRu (by assumption) | exact ooLo (by assumption) | exact ooHa (by assumption) | exact ooLe (by assumption) | exact ooFn | exact ooAn | exact ooPa | exact ooTo | exact ooWa | exact ooCh | rfl) only [x126_0, x126_1, x126_4, x126_5, x126_8, x126_11, x126_12, x126_15, x126_16, x126_19, x126_20, x126_21, gLo_makers, RLo_makers, if_pos, if_neg, ↓reduceIte, not_true_eq_false, not_false_eq_true]
    · simp (disch := first | assumption | omega | exact notL_I | exact notL_N | exact notL_R | exact catS_le (Nat.le_of_ble_eq_true rfl) | exact ooRo (by assumption) | exact ooAt (by assumption) | exact ooRu (by assumption) | exact ooLo (by assumption) | exact ooHa (by assumption) | exact ooLe (by assumption) | exact ooFn | exact ooAn | exact ooPa | exact ooTo | exact ooWa | exact ooCh | rfl) only [x126_0, x126_1, x126_4, x126_5, x126_8, x126_11, x126_12, x126_15, x126_16, x126_19, x126_20, x126_21, if_pos, if_neg, ↓reduceIte, not_true_eq_false, not_false_eq_true]
theorem s_noteMade {n : Int} (o : oLo l) (n0 : 0 ≤ n) (n1 : n ≤ 199) : Ex sc d 114 0 [some (vR l), some (vI n)] [] (wH σ u) Q ↔ Q (.inl none) (wH (su σ (l + 2) n (σ l 1)) u) := by
  simp (disch := first | assumption | omega | exact notL_I | exact notL_N | exact notL_R | exact catS_le (Nat.le_of_ble_eq_true rfl) | exact ooRo (by assumption) | exact ooAt (by assumption) | exact ooRu (by assumption) | exact ooLo (by assumption) | exact ooHa (by assumption) | exact ooLe (by assumption) | exact ooFn | exact ooAn | exact ooPa | exact ooTo | exact ooWa | exact ooCh | rfl) only [x114_0, x114_1, x114_4, x114_5, x114_8, x114_11, x114_12, x114_15, x114_16, x114_17, x114_20, x114_21, gLo_count, gLo_makers, WLo_makers, if_pos, if_neg, ↓reduceIte, not_true_eq_false, not_false_eq_true]
theorem s_noteStep {x m w b : Int} (o : oLo l) (W : WfLo σ l) (h : σ l 1 < 100) : Ex sc d 116 0 [some (vR l), some (vI x), some (vI m), some (vI w), some (vI b), none, none] [] (wH σ u) Q ↔ Q (.inl none) (wH (ntS σ l x m w b) u) := by
  have w1 := W.2.1
  unfold ntS
  simp (disch := first | assumption | omega | exact notL_I | exact notL_N | exact notL_R | exact catS_le (Nat.le_of_ble_eq_true rfl) | exact ooRo (by assumption) | exact ooAt (by assumption) | exact ooRu (by assumption) | exact ooLo (by assumption) | exact ooHa (by assumption) | exact ooLe (by assumption) | exact ooFn | exact ooAn | exact ooPa | exact ooTo | exact ooWa | exact ooCh | rfl) only [x116_0, x116_1, x116_4, x116_6, x116_9, x116_10, x116_11, x116_14, x116_16, x116_17, x116_19, x116_20, x116_23, x116_25, x116_26, x116_27, x116_28, x116_29, x116_30, x116_33, x116_35, x116_36, x116_37, x116_38, x116_39, x116_40, x116_42, x116_44, x116_45, x116_48, x116_49, x116_52, x116_54, x116_55, x116_56, x116_58, x116_59, x116_60, x116_61, x116_64, x116_67, x116_68, x116_71, x116_73, x116_74, x116_75, x116_76, x116_77, x116_78, x116_81, x116_83, x116_85, x116_86, x116_88, x116_89, x116_90I, x116_90, x116_91, x116_94, x116_95, x116_96, x116_99, gLo_count, gLo_steps, WLo_steps, pLo_count, su_ne, if_pos, if_neg, ↓reduceIte, not_true_eq_false, not_false_eq_true]
theorem s_noteHit {c n : Int} (o : oLo l) (W : WfLo σ l) (h : 0 < σ l 1) (c0 : 0 ≤ c) (c1 : c ≤ 2) : Ex sc d 118 0 [some (vR l), some (vI c), some (vI n)] [] (wH σ u) Q ↔ Q (.inl none) (wH (su σ (l + 1) ((σ l 1 - 1) * 7 + 2 + c) n) u) := by
  have w1 := W.2.1
  simp (disch := first | assumption | omega | exact notL_I | exact notL_N | exact notL_R | exact catS_le (Nat.le_of_ble_eq_true rfl) | exact ooRo (by assumption) | exact ooAt (by assumption) | exact ooRu (by assumption) | exact ooLo (by assumption) | exact ooHa (by assumption) | exact ooLe (by assumption) | exact ooFn | exact ooAn | exact ooPa | exact ooTo | exact ooWa | exact ooCh | rfl) only [x118_0, x118_1, x118_4, x118_7, x118_8, x118_11, x118_12, x118_13, x118_16, x118_17, x118_20, x118_21, x118_24, x118_25, x118_26, x118_28, x118_29, x118_30, x118_31, x118_32, x118_33, x118_34, x118_35, gLo_count, gLo_steps, WLo_steps, if_pos, if_neg, ↓reduceIte, not_true_eq_false, not_false_eq_true]
theorem s_clrH (o : oHa b) (hd : 2 ≤ d) : Ex sc d 36 0 [some (vR b)] [] (wH σ u) Q ↔ Q (.inl none) (wH (clH σ b) u) := by
  have o1 := o.rows
  have o2 := o.log
  have e := fun (σ : St) (u : Bool × Nat × Nat × Int) (Q : Rs → HS → Prop) (d : Nat) (hd : 1 ≤ d) => s_clearR (sc := sc) (σ := σ) (u := u) (Q := Q) (d := d) o1 hd
  have f := fun (σ : St) (u : Bool × Nat × Nat × Int) (Q : Rs → HS → Prop) (d : Nat) => s_fill (sc := sc) (σ := σ) (u := u) (Q := Q) (d := d) (v := 0) (sHa_columns o).1 (sHa_columns o).2 (by decide)
  unfold clH clR
  simp (disch := first | assumption | omega | exact notL_I | exact notL_N | exact notL_R | exact catS_le (Nat.le_of_ble_eq_true rfl) | exact ooRo (by assumption) | exact ooAt (by assumption) | exact ooRu (by assumption) | exact ooLo (by assumption) | exact ooHa (by assumption) | exact ooLe (by assumption) | exact ooFn | exact ooAn | exact ooPa | exact ooTo | exact ooWa | exact ooCh | rfl) only [x36_0, x36_1, x36_2, x36_5, x36_6, x36_7, x36_10, x36_11, x36_14, x36_15, x36_18, x36_19, x36_22, x36_25, x36_26, x36_29, x36_32, pHa_tableCount, pHa_ruleCount, gHa_columns, gHa_rows, gHa_log, f, e, s_clrL, Kc_none]
  rfl
theorem s_addTable {t m : Int} (o : oHa b) (t0 : 0 ≤ t) (t1 : t ≤ 25) : Ex sc d 47 0 [some (vR b), some (vI t), some (vI m)] [] (wH σ u) Q ↔ Q (.inl none) (wH (su (su σ (b + 1) t m) b 0 (σ b 0 + 1)) u) := by
  simp (disch := first | assumption | omega | exact notL_I | exact notL_N | exact notL_R | exact catS_le (Nat.le_of_ble_eq_true rfl) | exact ooRo (by assumption) | exact ooAt (by assumption) | exact ooRu (by assumption) | exact ooLo (by assumption) | exact ooHa (by assumption) | exact ooLe (by assumption) | exact ooFn | exact ooAn | exact ooPa | exact ooTo | exact ooWa | exact ooCh | rfl) only [x47_0, x47_1, x47_4, x47_5, x47_7, x47_10, x47_11, x47_14, x47_15, x47_16, x47_17, x47_18I, x47_18, x47_19, x47_22, x47_23, x47_24, x47_27, gHa_columns, WHa_columns, gHa_tableCount, pHa_tableCount, su_ne, if_pos, if_neg, ↓reduceIte, not_true_eq_false, not_false_eq_true]
theorem s_hasRule {x : Int} (o : oHa b) (hx : inR x) (W : 0 ≤ σ b 1 ∧ σ b 1 ≤ 10) : Ex sc d 95 0 [some (vR b), some (vI x)] [] (wH σ u) Q ↔ Q (.inl (some (vI (if 0 ≤ x ∧ x < σ b 1 then 1 else 0)))) (wH σ u) := by
  obtain ⟨p1, p2⟩ := hx
  by_cases h1 : x < 0
  · simp (disch := first | assumption | omega | exact notL_I | exact notL_N | exact notL_R | exact catS_le (Nat.le_of_ble_eq_true rfl) | exact ooRo (by assumption) | exact ooAt (by assumption) | exact ooRu (by assumption) | exact ooLo (by assumption) | exact ooHa (by assumption) | exact ooLe (by assumption) | exact ooFn | exact ooAn | exact ooPa | exact ooTo | exact ooWa | exact ooCh | rfl) only [x95_0, x95_1, x95_4, x95_5, x95_6, x95_9, x95_12, x95_13, x95_15, x95_18, x95_19, x95_22, x95_23, if_pos, if_neg, ↓reduceIte, not_true_eq_false, not_false_eq_true]
  · by_cases h2 : x < σ b 1
    · simp (disch := first | assumption | omega | exact notL_I | exact notL_N | exact notL_R | exact catS_le (Nat.le_of_ble_eq_true rfl) | exact ooRo (by assumption) | exact ooAt (by assumption) | exact ooRu (by assumption) | exact ooLo (by assumption) | exact ooHa (by assumption) | exact ooLe (by assumption) | exact ooFn | exact ooAn | exact ooPa | exact ooTo | exact ooWa | exact ooCh | rfl) only [x95_0, x95_1, x95_4, x95_5, x95_6, x95_9, x95_12, x95_13, x95_15, x95_18, x95_19, x95_22, x95_23, gHa_ruleCount, if_pos, if_neg, ↓reduceIte, not_true_eq_false, not_false_eq_true]
    · simp (disch := first | assumption | omega | exact notL_I | exact notL_N | exact notL_R | exact catS_le (Nat.le_of_ble_eq_true rfl) | exact ooRo (by assumption) | exact ooAt (by assumption) | exact ooRu (by assumption) | exact ooLo (by assumption) | exact ooHa (by assumption) | exact ooLe (by assumption) | exact ooFn | exact ooAn | exact ooPa | exact ooTo | exact ooWa | exact ooCh | rfl) only [x95_0, x95_1, x95_4, x95_5, x95_6, x95_9, x95_12, x95_13, x95_15, x95_18, x95_19, x95_22, x95_23, gHa_ruleCount, if_pos, if_neg, ↓reduceIte, not_true_eq_false, not_false_eq_true]
end C3
/-- halls copied -/
def cpUF (σ : St) (q b : Nat) : Nat → St
  | 0 => σ
  | k + 1 => cpRu (cpUF σ q b k) (q + 14 + 7 * k) (b + 14 + 7 * k)
def cpHa (σ : St) (q b : Nat) : St := cpLo (cpRo (cpUF (scp (su (su σ b 0 (σ q 0)) b 1 (σ q 1)) (q + 1) 0 (b + 1) 0 26) q b 10) (q + 3) (b + 3)) (q + 8) (b + 8)
section C3b
variable {sc : Scr} {σ : St} {u : Bool × Nat × Nat × Int} {Q : Rs → HS → Prop} {d : Nat} {q b : Nat}
theorem l_takeH (oq : oHa q) (o : oHa b) (hd : 2 ≤ d) (h : apt q b 84) : ∀ (k i : Nat), i + k = 10 → (Ex sc d 68 33 [some (vR b), some (vR q), some (vI ((i : Int)))] [] (wH (cpUF σ q b i) u) Q ↔ Ex sc d 68 60 [some (vR b), some (vR q), some (vI 10)] [] (wH (cpUF σ q b 10) u) Q) := by
  unfold apt at h
  intro k
  induction k with
  | zero =>
    intro i hi
    obtain rfl : i = 10 := by omega
    rw [x68_33]
    simp (disch := first | assumption | omega | exact notL_I | exact notL_N | exact notL_R | exact catS_le (Nat.le_of_ble_eq_true rfl) | exact ooRo (by assumption) | exact ooAt (by assumption) | exact ooRu (by assumption) | exact ooLo (by assumption) | exact ooHa (by assumption) | exact ooLe (by assumption) | exact ooFn | exact ooAn | exact ooPa | exact ooTo | exact ooWa | exact ooCh | rfl) only [x68_0, x68_1, x68_2, x68_5, x68_8, x68_9, x68_10, x68_13, x68_16, x68_17, x68_20, x68_21, x68_22, x68_25, x68_26, x68_28, x68_31, x68_32, x68_34, x68_36, x68_39, x68_40, x68_43, x68_44, x68_45, x68_46, x68_49, x68_50, x68_51, x68_54, x68_57, x68_61, x68_64, x68_65, x68_68, x68_71, x68_72, x68_75, x68_76, x68_79, x68_82, if_pos, if_neg, ↓reduceIte, not_true_eq_false, not_false_eq_true]
    rfl
  | succ k ih =>
    intro i hi
    have o1 := o.ru (k := i) (by omega)
    have o2 := oq.ru (k := i) (by omega)
    have h1 : apt (q + 14 + 7 * i) (b + 14 + 7 * i) 7 := by unfold apt; omega
    rw [x68_33]
    simp (disch := first | assumption | omega | exact notL_I | exact notL_N | exact notL_R | exact catS_le (Nat.le_of_ble_eq_true rfl) | exact ooRo (by assumption) | exact ooAt (by assumption) | exact ooRu (by assumption) | exact ooLo (by assumption) | exact ooHa (by assumption) | exact ooLe (by assumption) | exact ooFn | exact ooAn | exact ooPa | exact ooTo | exact ooWa | exact ooCh | rfl) only [x68_0, x68_1, x68_2, x68_5, x68_8, x68_9, x68_10, x68_13, x68_16, x68_17, x68_20, x68_21, x68_22, x68_25, x68_26, x68_28, x68_31, x68_32, x68_34, x68_36, x68_39, x68_40, x68_43, x68_44, x68_45, x68_46, x68_49, x68_50, x68_51, x68_54, x68_57, x68_61, x68_64, x68_65, x68_68, x68_71, x68_72, x68_75, x68_76, x68_79, x68_82, gHa_rules, Rr_rules, Int.toNat_natCast, s_takeU, Kc_none, if_pos, if_neg, ↓reduceIte, not_true_eq_false, not_false_eq_true]
    exact ih (i + 1) (by omega)
theorem s_takeH (oq : oHa q) (o : oHa b) (hd : 3 ≤ d) (h : apt q b 84) : Ex sc d 68 0 [some (vR b), some (vR q), none] [] (wH σ u) Q ↔ Q (.inl none) (wH (cpHa σ q b) u) := by
  have h' := h
  unfold apt at h'
  have o1 := o.rows
  have o2 := o.log
  have o3 := oq.rows
  have o4 := oq.log
  have n1 : q ≠ b := by omega
  have h1 : apt (q + 3) (b + 3) 5 := by unfold apt; omega
  have h2 : apt (q + 8) (b + 8) 3 := by unfold apt; omega
  have e := l_takeH (sc := sc) (u := u) (Q := Q) (d := d) (σ := scp (su (su σ b 0 (σ q 0)) b 1 (σ q 1)) (q + 1) 0 (b + 1) 0 26) oq o (by omega) h 10 0 (by omega)
  unfold cpHa
  refine Iff.trans ?_ (e.trans ?_)
  · simp (disch := first | assumption | omega | exact notL_I | exact notL_N | exact notL_R | exact catS_le (Nat.le_of_ble_eq_true rfl) | exact ooRo (by assumption) | exact ooAt (by assumption) | exact ooRu (by assumption) | exact ooLo (by assumption) | exact ooHa (by assumption) | exact ooLe (by assumption) | exact ooFn | exact ooAn | exact ooPa | exact ooTo | exact ooWa | exact ooCh | rfl) only [x68_0, x68_1, x68_2, x68_5, x68_8, x68_9, x68_10, x68_13, x68_16, x68_17, x68_20, x68_21, x68_22, x68_25, x68_26, x68_28, x68_31, x68_32, x68_34, x68_36, x68_39, x68_40, x68_43, x68_44, x68_45, x68_46, x68_49, x68_50, x68_51, x68_54, x68_57, x68_61, x68_64, x68_65, x68_68, x68_71, x68_72, x68_75, x68_76, x68_79, x68_82, gHa_tableCount, gHa_ruleCount, pHa_tableCount, pHa_ruleCount, gHa_columns, su_ne, Cp_w (sHa_columns oq).1 (sHa_columns o).1 (sHa_columns oq).2 (sHa_columns o).2 (by decide) (by decide)]
    rfl
  · simp (disch := first | assumption | omega | exact notL_I | exact notL_N | exact notL_R | exact catS_le (Nat.le_of_ble_eq_true rfl) | exact ooRo (by assumption) | exact ooAt (by assumption) | exact ooRu (by assumption) | exact ooLo (by assumption) | exact ooHa (by assumption) | exact ooLe (by assumption) | exact ooFn | exact ooAn | exact ooPa | exact ooTo | exact ooWa | exact ooCh | rfl) only [x68_0, x68_1, x68_2, x68_5, x68_8, x68_9, x68_10, x68_13, x68_16, x68_17, x68_20, x68_21, x68_22, x68_25, x68_26, x68_28, x68_31, x68_32, x68_34, x68_36, x68_39, x68_40, x68_43, x68_44, x68_45, x68_46, x68_49, x68_50, x68_51, x68_54, x68_57, x68_60, x68_61, x68_64, x68_65, x68_68, x68_71, x68_72, x68_75, x68_76, x68_79, x68_82, gHa_rows, gHa_log, s_takeR, s_takeL, Kc_none]
end C3b
