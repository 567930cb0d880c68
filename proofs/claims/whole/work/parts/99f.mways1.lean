/-! ways of the reference: who stands where, marks -/
theorem pl_R {σ : St} {h r s i : Int} {e : Nat} (he : e < 3) (hc : 1 ≤ σ 374 (26 * h + σ 376 (30 * (10 * h + r) + (3 + 4 * (3 * s + i))))) : plN (atR σ h r s i) e = if (e : Int) < σ 374 (26 * h + σ 376 (30 * (10 * h + r) + (3 + 4 * (3 * s + i)))) then σ 376 (30 * (10 * h + r) + (3 + 4 * (3 * s + i) + (1 + (e : Int)))) else -1 := by
  unfold plN atR nrm
  generalize σ 374 (26 * h + σ 376 (30 * (10 * h + r) + (3 + 4 * (3 * s + i)))) = C at *
  dsimp only
  rcases (show e = 0 ∨ e = 1 ∨ e = 2 by omega) with rfl | rfl | rfl
  · rw [if_pos (c := (0 : Nat) = 0) rfl, if_pos (c := ((0 : Nat) : Int) < C) (by omega)]
    rfl
  · rw [if_neg (c := (1 : Nat) = 0) (by omega), if_pos (c := (1 : Nat) = 1) rfl]
    by_cases c : 2 ≤ C
    · rw [if_pos c, if_pos (c := ((1 : Nat) : Int) < C) (by omega)]
      rfl
    · rw [if_neg c, if_neg (c := ((1 : Nat) : Int) < C) (by omega)]
  · rw [if_neg (c := (2 : Nat) = 0) (by omega), if_neg (c := (2 : Nat) = 1) (by omega)]
    by_cases c : 3 ≤ C
    · rw [if_pos c, if_pos (c := ((2 : Nat) : Int) < C) (by omega)]
      rfl
    · rw [if_neg c, if_neg (c := ((2 : Nat) : Int) < C) (by omega)]
theorem any_iff {f : Int → Int} {v : Int} : ∀ (k : Nat) (i : Int), anyF f v k i = true ↔ ∃ j, i ≤ j ∧ j < i + k ∧ f j = v := by
  intro k
  induction k with
  | zero =>
    intro i
    rw [anyF]
    constructor
    · intro z; cases z
    · rintro ⟨j, a, b, _⟩
      omega
  | succ k ih =>
    intro i
    rw [anyF]
    split
    · rename_i h
      exact ⟨fun _ => ⟨i, by omega, by omega, h⟩, fun _ => rfl⟩
    · rename_i h
      rw [ih]
      constructor
      · rintro ⟨j, a, b, c⟩
        exact ⟨j, by omega, by omega, c⟩
      · rintro ⟨j, a, b, c⟩
        by_cases e : j = i
        · subst e
          exact absurd c h
        · exact ⟨j, by omega, by omega, c⟩
theorem ment_pl {as : List At} {v : Int} : mentL as v = true ↔ ∃ a ∈ as, ∃ e : Nat, e < 3 ∧ plN a e = v := by
  unfold mentL
  rw [List.any_eq_true]
  constructor
  · rintro ⟨a, ha, h⟩
    rw [decide_eq_true_eq] at h
    rcases h with h | h | h
    · exact ⟨a, ha, 0, by omega, h⟩
    · exact ⟨a, ha, 1, by omega, h⟩
    · exact ⟨a, ha, 2, by omega, h⟩
  · rintro ⟨a, ha, e, he, h⟩
    refine ⟨a, ha, ?_⟩
    rw [decide_eq_true_eq]
    rcases (show e = 0 ∨ e = 1 ∨ e = 2 by omega) with rfl | rfl | rfl
    · exact Or.inl h
    · exact Or.inr (Or.inl h)
    · exact Or.inr (Or.inr h)
section H1
variable {sc : Scr} {σ : St} {u : Bool × Nat × Nat × Int} {Q : Rs → HS → Prop} {d : Nat} {h r : Int}
theorem l_isAh1 {i v C : Int} (hd : 2 ≤ d) (W : WfM σ) (h1 : 0 ≤ h) (h2 : h ≤ 4) (r1 : 0 ≤ r) (r2 : r ≤ 9) (i0 : 0 ≤ i) (i1 : i ≤ 2) (hv : inR v) (hC : σ 374 (26 * h + σ 376 (30 * (10 * h + r) + (3 + 4 * (3 * 0 + i)))) = C) : ∀ (k : Nat) (c : Int), 0 ≤ c → c + k = C → (Ex sc d 210 18 [some (vR 373), some (vI h), some (vI r), some (vI v), some (vI i), some (vI c)] [] (wH σ u) Q ↔ if anyF (fun c => σ 376 (30 * (10 * h + r) + (3 + 4 * (3 * 0 + i) + (1 + c)))) v k c = true then Q (.inl (some (vI (1)))) (wH σ u) else Ex sc d 210 63 [some (vR 373), some (vI h), some (vI r), some (vI v), some (vI i), some (vI C)] [] (wH σ u) Q) := by
  obtain ⟨a1, -⟩ := W.ato (s := 0) h1 h2 r1 r2 (by omega) (by omega) i0 i1
  have wc := W.col h1 h2 a1.1 a1.2
  rw [hC] at wc
  obtain ⟨v0, v1⟩ := hv
  have z0 : 3 + 4 * (3 * 0 + i) + 0 = 3 + 4 * (3 * 0 + i) := by omega
  intro k
  induction k with
  | zero =>
    intro c c0 ck
    obtain rfl : c = C := by omega
    rw [anyF, if_neg (by simp), x210_18]
    simp (disch := first | omega | exact notL_I | exact notL_N | exact notL_R | exact oM | exact catS_le (Nat.le_of_ble_eq_true rfl) | exact Nat.le_of_ble_eq_true rfl | rfl) only [x210_0, x210_1, x210_5, x210_6, x210_7, x210_8, x210_9, x210_12, x210_15, x210_16, x210_20, x210_21, x210_22, x210_23, x210_24, x210_25, x210_26, x210_28, x210_29, x210_32, x210_35, x210_38, x210_39, x210_40, x210_41, x210_42, x210_44, x210_45, x210_47, x210_48, x210_51, x210_52, x210_55, x210_56, x210_57, x210_60, x210_66, x210_69, x210_70, s_atom, s_colsOf, z0, hC, Kc_some, if_pos, if_neg, ↓reduceIte, not_true_eq_false, not_false_eq_true]
  | succ k ih =>
    intro c c0 ck
    have ih1 := ih (c + 1) (by omega) (by omega)
    have wp : isPl (σ 376 (30 * (10 * h + r) + (3 + 4 * (3 * 0 + i) + (1 + c)))) := by
      obtain ⟨-, p1, p2, p3⟩ := W.ato (s := 0) h1 h2 r1 r2 (by omega) (by omega) i0 i1
      rcases (show c = 0 ∨ c = 1 ∨ c = 2 by omega) with rfl | rfl | rfl
      · exact p1
      · exact p2
      · exact p3
    have wp' := isPl_in wp
    rw [anyF, x210_18]
    by_cases hp : σ 376 (30 * (10 * h + r) + (3 + 4 * (3 * 0 + i) + (1 + c))) = v
    · rw [if_pos hp, if_pos rfl]
      simp (disch := first | omega | exact notL_I | exact notL_N | exact notL_R | exact oM | exact catS_le (Nat.le_of_ble_eq_true rfl) | exact Nat.le_of_ble_eq_true rfl | rfl) only [x210_0, x210_1, x210_5, x210_6, x210_7, x210_8, x210_9, x210_12, x210_15, x210_16, x210_20, x210_21, x210_22, x210_23, x210_24, x210_25, x210_26, x210_28, x210_29, x210_32, x210_35, x210_38, x210_39, x210_40, x210_41, x210_42, x210_44, x210_45, x210_47, x210_48, x210_51, x210_52, x210_55, x210_56, x210_57, x210_60, x210_66, x210_69, x210_70, s_atom, s_colsOf, z0, hC, hp, Kc_some, if_pos, if_neg, ↓reduceIte, not_true_eq_false, not_false_eq_true]
    · rw [if_neg hp, ← ih1]
      simp (disch := first | omega | exact notL_I | exact notL_N | exact notL_R | exact oM | exact catS_le (Nat.le_of_ble_eq_true rfl) | exact Nat.le_of_ble_eq_true rfl | rfl) only [x210_0, x210_1, x210_5, x210_6, x210_7, x210_8, x210_9, x210_12, x210_15, x210_16, x210_20, x210_21, x210_22, x210_23, x210_24, x210_25, x210_26, x210_28, x210_29, x210_32, x210_35, x210_38, x210_39, x210_40, x210_41, x210_42, x210_44, x210_45, x210_47, x210_48, x210_51, x210_52, x210_55, x210_56, x210_57, x210_60, x210_66, x210_69, x210_70, s_atom, s_colsOf, z0, hC, Kc_some, if_pos, if_neg, ↓reduceIte, not_true_eq_false, not_false_eq_true]
theorem l_isAh {v : Int} (hd : 2 ≤ d) (W : WfM σ) (h1 : 0 ≤ h) (h2 : h ≤ 4) (r1 : 0 ≤ r) (r2 : r ≤ 9) (hv : inR v) (hv1 : v ≠ -1) (ha : atC σ h r 0 (σ 376 (30 * (10 * h + r)))) : ∀ (k : Nat) (i : Int) (l5 : Option V), 0 ≤ i → i + k = σ 376 (30 * (10 * h + r)) → (Ex sc d 210 3 [some (vR 373), some (vI h), some (vI r), some (vI v), some (vI i), l5] [] (wH σ u) Q ↔ Q (.inl (some (vI (bI (mentL (atsF σ h r 0 k i) v))))) (wH σ u)) := by
  have wr := W.rul h1 h2 r1 r2
  intro k
  induction k with
  | zero =>
    intro i l5 i0 ik
    rw [x210_3]
    simp (disch := first | omega | exact notL_I | exact notL_N | exact notL_R | exact oM | exact catS_le (Nat.le_of_ble_eq_true rfl) | exact Nat.le_of_ble_eq_true rfl | rfl) only [x210_0, x210_1, x210_5, x210_6, x210_7, x210_8, x210_9, x210_12, x210_15, x210_16, x210_20, x210_21, x210_22, x210_23, x210_24, x210_25, x210_26, x210_28, x210_29, x210_32, x210_35, x210_38, x210_39, x210_40, x210_41, x210_42, x210_44, x210_45, x210_47, x210_48, x210_51, x210_52, x210_55, x210_56, x210_57, x210_60, x210_66, x210_69, x210_70, s_rule, Int.add_zero, Kc_some, if_pos, if_neg, ↓reduceIte, not_true_eq_false, not_false_eq_true]
    rfl
  | succ k ih =>
    intro i l5 i0 ik
    have hc := ha i i0 (by omega)
    obtain ⟨a1, -⟩ := W.ato (s := 0) (i := i) h1 h2 r1 r2 (by omega) (by omega) i0 (by omega)
    have wc := W.col h1 h2 a1.1 a1.2
    have l1 := l_isAh1 (sc := sc) (σ := σ) (u := u) (Q := Q) (d := d) (v := v) hd W h1 h2 r1 r2 i0 (by omega) hv rfl (σ 374 (26 * h + σ 376 (30 * (10 * h + r) + (3 + 4 * (3 * 0 + i))))).toNat 0 (by omega) (by omega)
    have ih1 := ih (i + 1) (some (vI (σ 374 (26 * h + σ 376 (30 * (10 * h + r) + (3 + 4 * (3 * 0 + i))))))) (by omega) (by omega)
    rw [atsF]
    have en : Ex sc d 210 3 [some (vR 373), some (vI h), some (vI r), some (vI v), some (vI i), l5] [] (wH σ u) Q ↔ Ex sc d 210 18 [some (vR 373), some (vI h), some (vI r), some (vI v), some (vI i), some (vI 0)] [] (wH σ u) Q := by
      rw [x210_3]
      simp (disch := first | omega | exact notL_I | exact notL_N | exact notL_R | exact oM | exact catS_le (Nat.le_of_ble_eq_true rfl) | exact Nat.le_of_ble_eq_true rfl | rfl) only [x210_0, x210_1, x210_5, x210_6, x210_7, x210_8, x210_9, x210_12, x210_15, x210_16, x210_20, x210_21, x210_22, x210_23, x210_24, x210_25, x210_26, x210_28, x210_29, x210_32, x210_35, x210_38, x210_39, x210_40, x210_41, x210_42, x210_44, x210_45, x210_47, x210_48, x210_51, x210_52, x210_55, x210_56, x210_57, x210_60, x210_66, x210_69, x210_70, s_rule, Int.add_zero, Kc_some, if_pos, if_neg, ↓reduceIte, not_true_eq_false, not_false_eq_true]
    rw [en, l1]
    by_cases hm : anyF (fun c => σ 376 (30 * (10 * h + r) + (3 + 4 * (3 * 0 + i) + (1 + c)))) v (σ 374 (26 * h + σ 376 (30 * (10 * h + r) + (3 + 4 * (3 * 0 + i))))).toNat 0 = true
    · rw [if_pos hm]
      have : mentL (atR σ h r 0 i :: atsF σ h r 0 k (i + 1)) v = true := by
        rw [ment_pl]
        obtain ⟨j, j0, j1, j2⟩ := (any_iff _ _).mp hm
        refine ⟨_, List.mem_cons_self, j.toNat, by omega, ?_⟩
        rw [pl_R (by omega) hc, if_pos (by omega), Int.toNat_of_nonneg j0]
        exact j2
      rw [this, bI_t]
    · rw [if_neg hm]
      have : mentL (atR σ h r 0 i :: atsF σ h r 0 k (i + 1)) v = mentL (atsF σ h r 0 k (i + 1)) v := by
        rw [Bool.eq_iff_iff, ment_pl, ment_pl]
        constructor
        · rintro ⟨a, hm', e, he, h⟩
          rcases List.mem_cons.mp hm' with rfl | hm'
          · exfalso
            rw [pl_R he hc] at h
            split at h
            · rename_i hlt
              exact hm ((any_iff _ _).mpr ⟨e, by omega, by omega, h⟩)
            · omega
          · exact ⟨a, hm', e, he, h⟩
        · rintro ⟨a, hm', e, he, h⟩
          exact ⟨a, List.mem_cons_of_mem _ hm', e, he, h⟩
      rw [this, ← ih1, x210_63]
      simp (disch := first | omega | exact notL_I | exact notL_N | exact notL_R | exact oM | exact catS_le (Nat.le_of_ble_eq_true rfl) | exact Nat.le_of_ble_eq_true rfl | rfl) only [x210_0, x210_1, x210_5, x210_6, x210_7, x210_8, x210_9, x210_12, x210_15, x210_16, x210_20, x210_21, x210_22, x210_23, x210_24, x210_25, x210_26, x210_28, x210_29, x210_32, x210_35, x210_38, x210_39, x210_40, x210_41, x210_42, x210_44, x210_45, x210_47, x210_48, x210_51, x210_52, x210_55, x210_56, x210_57, x210_60, x210_66, x210_69, x210_70]
theorem s_isAh {v : Int} (hd : 2 ≤ d) (W : WfM σ) (h1 : 0 ≤ h) (h2 : h ≤ 4) (r1 : 0 ≤ r) (r2 : r ≤ 9) (hv : inR v) (hv1 : v ≠ -1) (ha : atC σ h r 0 (σ 376 (30 * (10 * h + r)))) : Ex sc d 210 0 [some (vR 373), some (vI h), some (vI r), some (vI v), none, none] [] (wH σ u) Q ↔ Q (.inl (some (vI (bI (mentL (atsF σ h r 0 (σ 376 (30 * (10 * h + r))).toNat 0) v))))) (wH σ u) := by
  have wr := W.rul h1 h2 r1 r2
  rw [← l_isAh (sc := sc) (σ := σ) (u := u) (Q := Q) (d := d) hd W h1 h2 r1 r2 hv hv1 ha (σ 376 (30 * (10 * h + r))).toNat 0 none (by omega) (by omega)]
  simp (disch := first | omega | exact notL_I | exact notL_N | exact notL_R | exact oM | exact catS_le (Nat.le_of_ble_eq_true rfl) | exact Nat.le_of_ble_eq_true rfl | rfl) only [x210_0, x210_1]
theorem l_isBe1 {i v C : Int} (hd : 2 ≤ d) (W : WfM σ) (h1 : 0 ≤ h) (h2 : h ≤ 4) (r1 : 0 ≤ r) (r2 : r ≤ 9) (i0 : 0 ≤ i) (i1 : i ≤ 2) (hv : inR v) (hC : σ 374 (26 * h + σ 376 (30 * (10 * h + r) + (3 + 4 * (3 * 1 + i)))) = C) : ∀ (k : Nat) (c : Int), 0 ≤ c → c + k = C → (Ex sc d 270 18 [some (vR 373), some (vI h), some (vI r), some (vI v), some (vI i), some (vI c)] [] (wH σ u) Q ↔ if anyF (fun c => σ 376 (30 * (10 * h + r) + (3 + 4 * (3 * 1 + i) + (1 + c)))) v k c = true then Q (.inl (some (vI (1)))) (wH σ u) else Ex sc d 270 63 [some (vR 373), some (vI h), some (vI r), some (vI v), some (vI i), some (vI C)] [] (wH σ u) Q) := by
  obtain ⟨a1, -⟩ := W.ato (s := 1) h1 h2 r1 r2 (by omega) (by omega) i0 i1
  have wc := W.col h1 h2 a1.1 a1.2
  rw [hC] at wc
  obtain ⟨v0, v1⟩ := hv
  have z0 : 3 + 4 * (3 * 1 + i) + 0 = 3 + 4 * (3 * 1 + i) := by omega
  intro k
  induction k with
  | zero =>
    intro c c0 ck
    obtain rfl : c = C := by omega
    rw [anyF, if_neg (by simp), x270_18]
    simp (disch := first | omega | exact notL_I | exact notL_N | exact notL_R | exact oM | exact catS_le (Nat.le_of_ble_eq_true rfl) | exact Nat.le_of_ble_eq_true rfl | rfl) only [x270_0, x270_1, x270_5, x270_6, x270_7, x270_8, x270_9, x270_12, x270_15, x270_16, x270_20, x270_21, x270_22, x270_23, x270_24, x270_25, x270_26, x270_28, x270_29, x270_32, x270_35, x270_38, x270_39, x270_40, x270_41, x270_42, x270_44, x270_45, x270_47, x270_48, x270_51, x270_52, x270_55, x270_56, x270_57, x270_60, x270_66, x270_69, x270_70, s_atom, s_colsOf, z0, hC, Kc_some, if_pos, if_neg, ↓reduceIte, not_true_eq_false, not_false_eq_true]
  | succ k ih =>
    intro c c0 ck
    have ih1 := ih (c + 1) (by omega) (by omega)
    have wp : isPl (σ 376 (30 * (10 * h + r) + (3 + 4 * (3 * 1 + i) + (1 + c)))) := by
      obtain ⟨-, p1, p2, p3⟩ := W.ato (s := 1) h1 h2 r1 r2 (by omega) (by omega) i0 i1
      rcases (show c = 0 ∨ c = 1 ∨ c = 2 by omega) with rfl | rfl | rfl
      · exact p1
      · exact p2
      · exact p3
    have wp' := isPl_in wp
    rw [anyF, x270_18]
    by_cases hp : σ 376 (30 * (10 * h + r) + (3 + 4 * (3 * 1 + i) + (1 + c))) = v
    · rw [if_pos hp, if_pos rfl]
      simp (disch := first | omega | exact notL_I | exact notL_N | exact notL_R | exact oM | exact catS_le (Nat.le_of_ble_eq_true rfl) | exact Nat.le_of_ble_eq_true rfl | rfl) only [x270_0, x270_1, x270_5, x270_6, x270_7, x270_8, x270_9, x270_12, x270_15, x270_16, x270_20, x270_21, x270_22, x270_23, x270_24, x270_25, x270_26, x270_28, x270_29, x270_32, x270_35, x270_38, x270_39, x270_40, x270_41, x270_42, x270_44, x270_45, x270_47, x270_48, x270_51, x270_52, x270_55, x270_56, x270_57, x270_60, x270_66, x270_69, x270_70, s_atom, s_colsOf, z0, hC, hp, Kc_some, if_pos, if_neg, ↓reduceIte, not_true_eq_false, not_false_eq_true]
    · rw [if_neg hp, ← ih1]
      simp (disch := first | omega | exact notL_I | exact notL_N | exact notL_R | exact oM | exact catS_le (Nat.le_of_ble_eq_true rfl) | exact Nat.le_of_ble_eq_true rfl | rfl) only [x270_0, x270_1, x270_5, x270_6, x270_7, x270_8, x270_9, x270_12, x270_15, x270_16, x270_20, x270_21, x270_22, x270_23, x270_24, x270_25, x270_26, x270_28, x270_29, x270_32, x270_35, x270_38, x270_39, x270_40, x270_41, x270_42, x270_44, x270_45, x270_47, x270_48, x270_51, x270_52, x270_55, x270_56, x270_57, x270_60, x270_66, x270_69, x270_70, s_atom, s_colsOf, z0, hC, Kc_some, if_pos, if_neg, ↓reduceIte, not_true_eq_false, not_false_eq_true]
theorem l_isBe {v : Int} (hd : 2 ≤ d) (W : WfM σ) (h1 : 0 ≤ h) (h2 : h ≤ 4) (r1 : 0 ≤ r) (r2 : r ≤ 9) (hv : inR v) (hv1 : v ≠ -1) (ha : atC σ h r 1 (σ 376 (30 * (10 * h + r) + 2))) : ∀ (k : Nat) (i : Int) (l5 : Option V), 0 ≤ i → i + k = σ 376 (30 * (10 * h + r) + 2) → (Ex sc d 270 3 [some (vR 373), some (vI h), some (vI r), some (vI v), some (vI i), l5] [] (wH σ u) Q ↔ Q (.inl (some (vI (bI (mentL (atsF σ h r 1 k i) v))))) (wH σ u)) := by
  have wr := W.rul h1 h2 r1 r2
  intro k
  induction k with
  | zero =>
    intro i l5 i0 ik
    rw [x270_3]
    simp (disch := first | omega | exact notL_I | exact notL_N | exact notL_R | exact oM | exact catS_le (Nat.le_of_ble_eq_true rfl) | exact Nat.le_of_ble_eq_true rfl | rfl) only [x270_0, x270_1, x270_5, x270_6, x270_7, x270_8, x270_9, x270_12, x270_15, x270_16, x270_20, x270_21, x270_22, x270_23, x270_24, x270_25, x270_26, x270_28, x270_29, x270_32, x270_35, x270_38, x270_39, x270_40, x270_41, x270_42, x270_44, x270_45, x270_47, x270_48, x270_51, x270_52, x270_55, x270_56, x270_57, x270_60, x270_66, x270_69, x270_70, s_rule, Int.add_zero, Kc_some, if_pos, if_neg, ↓reduceIte, not_true_eq_false, not_false_eq_true]
    rfl
  | succ k ih =>
    intro i l5 i0 ik
    have hc := ha i i0 (by omega)
    obtain ⟨a1, -⟩ := W.ato (s := 1) (i := i) h1 h2 r1 r2 (by omega) (by omega) i0 (by omega)
    have wc := W.col h1 h2 a1.1 a1.2
    have l1 := l_isBe1 (sc := sc) (σ := σ) (u := u) (Q := Q) (d := d) (v := v) hd W h1 h2 r1 r2 i0 (by omega) hv rfl (σ 374 (26 * h + σ 376 (30 * (10 * h + r) + (3 + 4 * (3 * 1 + i))))).toNat 0 (by omega) (by omega)
    have ih1 := ih (i + 1) (some (vI (σ 374 (26 * h + σ 376 (30 * (10 * h + r) + (3 + 4 * (3 * 1 + i))))))) (by omega) (by omega)
    rw [atsF]
    have en : Ex sc d 270 3 [some (vR 373), some (vI h), some (vI r), some (vI v), some (vI i), l5] [] (wH σ u) Q ↔ Ex sc d 270 18 [some (vR 373), some (vI h), some (vI r), some (vI v), some (vI i), some (vI 0)] [] (wH σ u) Q := by
      rw [x270_3]
      simp (disch := first | omega | exact notL_I | exact notL_N | exact notL_R | exact oM | exact catS_le (Nat.le_of_ble_eq_true rfl) | exact Nat.le_of_ble_eq_true rfl | rfl) only [x270_0, x270_1, x270_5, x270_6, x270_7, x270_8, x270_9, x270_12, x270_15, x270_16, x270_20, x270_21, x270_22, x270_23, x270_24, x270_25, x270_26, x270_28, x270_29, x270_32, x270_35, x270_38, x270_39, x270_40, x270_41, x270_42, x270_44, x270_45, x270_47, x270_48, x270_51, x270_52, x270_55, x270_56, x270_57, x270_60, x270_66, x270_69, x270_70, s_rule, Int.add_zero, Kc_some, if_pos, if_neg, ↓reduceIte, not_true_eq_false, not_false_eq_true]
    rw [en, l1]
    by_cases hm : anyF (fun c => σ 376 (30 * (10 * h + r) + (3 + 4 * (3 * 1 + i) + (1 + c)))) v (σ 374 (26 * h + σ 376 (30 * (10 * h + r) + (3 + 4 * (3 * 1 + i))))).toNat 0 = true
    · rw [if_pos hm]
      have : mentL (atR σ h r 1 i :: atsF σ h r 1 k (i + 1)) v = true := by
        rw [ment_pl]
        obtain ⟨j, j0, j1, j2⟩ := (any_iff _ _).mp hm
        refine ⟨_, List.mem_cons_self, j.toNat, by omega, ?_⟩
        rw [pl_R (by omega) hc, if_pos (by omega), Int.toNat_of_nonneg j0]
        exact j2
      rw [this, bI_t]
    · rw [if_neg hm]
      have : mentL (atR σ h r 1 i :: atsF σ h r 1 k (i + 1)) v = mentL (atsF σ h r 1 k (i + 1)) v := by
        rw [Bool.eq_iff_iff, ment_pl, ment_pl]
        constructor
        · rintro ⟨a, hm', e, he, h⟩
          rcases List.mem_cons.mp hm' with rfl | hm'
          · exfalso
            rw [pl_R he hc] at h
            split at h
            · rename_i hlt
              exact hm ((any_iff _ _).mpr ⟨e, by omega, by omega, h⟩)
            · omega
          · exact ⟨a, hm', e, he, h⟩
        · rintro ⟨a, hm', e, he, h⟩
          exact ⟨a, List.mem_cons_of_mem _ hm', e, he, h⟩
      rw [this, ← ih1, x270_63]
      simp (disch := first | omega | exact notL_I | exact notL_N | exact notL_R | exact oM | exact catS_le (Nat.le_of_ble_eq_true rfl) | exact Nat.le_of_ble_eq_true rfl | rfl) only [x270_0, x270_1, x270_5, x270_6, x270_7, x270_8, x270_9, x270_12, x270_15, x270_16, x270_20, x270_21, x270_22, x270_23, x270_24, x270_25, x270_26, x270_28, x270_29, x270_32, x270_35, x270_38, x270_39, x270_40, x270_41, x270_42, x270_44, x270_45, x270_47, x270_48, x270_51, x270_52, x270_55, x270_56, x270_57, x270_60, x270_66, x270_69, x270_70]
theorem s_isBe {v : Int} (hd : 2 ≤ d) (W : WfM σ) (h1 : 0 ≤ h) (h2 : h ≤ 4) (r1 : 0 ≤ r) (r2 : r ≤ 9) (hv : inR v) (hv1 : v ≠ -1) (ha : atC σ h r 1 (σ 376 (30 * (10 * h + r) + 2))) : Ex sc d 270 0 [some (vR 373), some (vI h), some (vI r), some (vI v), none, none] [] (wH σ u) Q ↔ Q (.inl (some (vI (bI (mentL (atsF σ h r 1 (σ 376 (30 * (10 * h + r) + 2)).toNat 0) v))))) (wH σ u) := by
  have wr := W.rul h1 h2 r1 r2
  rw [← l_isBe (sc := sc) (σ := σ) (u := u) (Q := Q) (d := d) hd W h1 h2 r1 r2 hv hv1 ha (σ 376 (30 * (10 * h + r) + 2)).toNat 0 none (by omega) (by omega)]
  simp (disch := first | omega | exact notL_I | exact notL_N | exact notL_R | exact oM | exact catS_le (Nat.le_of_ble_eq_true rfl) | exact Nat.le_of_ble_eq_true rfl | rfl) only [x270_0, x270_1]
end H1
