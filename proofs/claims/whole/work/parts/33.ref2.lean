/-! rows of numbers filled; loops of the reference -/
/-- numbers filled -/
def fl (σ : St) (a : Nat) (lo hi v : Int) : St := fun c => if c = a then (fun j => if lo ≤ j ∧ j < hi then v else σ a j) else σ c
section Fl
variable {σ : St} {a b c : Nat} {lo hi i j v x sp dp n : Int}
theorem fl_ne (h : c ≠ a) : fl σ a lo hi v c = σ c := by unfold fl; rw [if_neg h]
theorem fl_at : fl σ a lo hi v a j = if lo ≤ j ∧ j < hi then v else σ a j := by unfold fl; rw [if_pos rfl]
theorem st_ext {σ τ : St} {a : Nat} (h : ∀ c, c ≠ a → σ c = τ c) (h2 : ∀ j, σ a j = τ a j) : σ = τ := by
  funext c j
  by_cases hc : c = a
  · subst hc
    exact h2 j
  · rw [h c hc]
theorem fl_0 : fl σ a lo lo v = σ := by
  apply st_ext (a := a)
  · intro c hc
    rw [fl_ne hc]
  · intro j
    rw [fl_at, if_neg (by omega)]
theorem fl_su (h : lo ≤ i) : su (fl σ a lo i v) a i v = fl σ a lo (i + 1) v := by
  apply st_ext (a := a)
  · intro c hc
    rw [su_ne hc, fl_ne hc, fl_ne hc]
  · intro j
    rw [su_at, fl_at, fl_at]
    by_cases h1 : j = i
    · rw [if_pos h1, if_pos (by omega)]
    · rw [if_neg h1]
      by_cases h2 : lo ≤ j ∧ j < i
      · rw [if_pos h2, if_pos (by omega)]
      · rw [if_neg h2, if_neg (by omega)]
theorem scp_0 : scp σ b sp a dp 0 = σ := by
  apply st_ext (a := a)
  · intro c hc
    rw [scp_ne hc]
  · intro j
    rw [scp_at, if_neg (by omega)]
theorem scp_su (h : 0 ≤ n) (h2 : x = σ b (sp + n)) (h3 : i = dp + n) : su (scp σ b sp a dp n) a i x = scp σ b sp a dp (n + 1) := by
  subst h2; subst h3
  apply st_ext (a := a)
  · intro c hc
    rw [su_ne hc, scp_ne hc, scp_ne hc]
  · intro j
    rw [su_at, scp_at, scp_at]
    by_cases h1 : j = dp + n
    · rw [if_pos h1, if_pos (by omega)]
      congr 1
      omega
    · rw [if_neg h1]
      by_cases h2 : dp ≤ j ∧ j < dp + n
      · rw [if_pos h2, if_pos (by omega)]
      · rw [if_neg h2, if_neg (by omega)]
end Fl
section R2
variable {sc : Scr} {σ : St} {u : Bool × Nat × Nat × Int} {Q : Rs → HS → Prop} {d : Nat}
theorem l_forget : ∀ (k : Nat) (i : Int), 0 ≤ i → i + k = 26 → (Ex sc d 227 2 [some (vR 373), some (vI i)] [] (wH (fl σ 389 0 i (-1)) u) Q ↔ Q (.inl none) (wH (fl σ 389 0 26 (-1)) u)) := by
  intro k
  induction k with
  | zero =>
    intro i h0 h1
    obtain rfl : i = 26 := by omega
    rw [x227_2]
    simp (disch := first | omega | exact notL_I | exact notL_N | exact notL_R | exact oM | exact catS_le (Nat.le_of_ble_eq_true rfl) | rfl) only [x227_0, x227_1, x227_3, x227_5, x227_8, x227_9, x227_12, x227_13, x227_14, x227_15, x227_18, x227_21, if_pos]
  | succ k ih =>
    intro i h0 h1
    rw [x227_2]
    simp (disch := first | omega | exact notL_I | exact notL_N | exact notL_R | exact oM | exact catS_le (Nat.le_of_ble_eq_true rfl) | rfl) only [x227_0, x227_1, x227_3, x227_5, x227_8, x227_9, x227_12, x227_13, x227_14, x227_15, x227_18, x227_21, gM_bound, WM_bound, if_neg, fl_su]
    exact ih (i + 1) (by omega) (by omega)
theorem s_forget : Ex sc d 227 0 [some (vR 373), none] [] (wH σ u) Q ↔ Q (.inl none) (wH (fl σ 389 0 26 (-1)) u) := by
  have e := l_forget (sc := sc) (σ := σ) (u := u) (Q := Q) (d := d) 26 0 (by omega) (by omega)
  rw [fl_0] at e
  refine Iff.trans ?_ e
  simp (disch := first | omega | exact notL_I | exact notL_N | exact notL_R | exact oM | exact catS_le (Nat.le_of_ble_eq_true rfl) | rfl) only [x227_0, x227_1]
theorem l_save {p : Int} (p0 : 0 ≤ p) (p1 : p ≤ 8) : ∀ (k : Nat) (i : Int), 0 ≤ i → i + k = 26 → (Ex sc d 234 2 [some (vR 373), some (vI p), some (vI i)] [] (wH (scp σ 389 0 392 (26 * p) i) u) Q ↔ Q (.inl none) (wH (scp σ 389 0 392 (26 * p) 26) u)) := by
  intro k
  induction k with
  | zero =>
    intro i h0 h1
    obtain rfl : i = 26 := by omega
    rw [x234_2]
    simp (disch := first | omega | exact notL_I | exact notL_N | exact notL_R | exact oM | exact catS_le (Nat.le_of_ble_eq_true rfl) | rfl) only [x234_0, x234_1, x234_3, x234_5, x234_8, x234_9, x234_12, x234_14, x234_15, x234_16, x234_17, x234_18, x234_19, x234_22, x234_23, x234_24, x234_25, x234_28, x234_31, if_pos]
  | succ k ih =>
    intro i h0 h1
    rw [x234_2]
    simp (disch := first | omega | exact notL_I | exact notL_N | exact notL_R | exact oM | exact catS_le (Nat.le_of_ble_eq_true rfl) | rfl) only [x234_0, x234_1, x234_3, x234_5, x234_8, x234_9, x234_12, x234_14, x234_15, x234_16, x234_17, x234_18, x234_19, x234_22, x234_23, x234_24, x234_25, x234_28, x234_31, gM_bound, gM_was, RM_bound, WM_was, if_neg, scp_ne]
    rw [scp_su h0 (by rw [Int.zero_add]) rfl]
    exact ih (i + 1) (by omega) (by omega)
theorem s_save {p : Int} (p0 : 0 ≤ p) (p1 : p ≤ 8) : Ex sc d 234 0 [some (vR 373), some (vI p), none] [] (wH σ u) Q ↔ Q (.inl none) (wH (scp σ 389 0 392 (26 * p) 26) u) := by
  have e := l_save (sc := sc) (σ := σ) (u := u) (Q := Q) (d := d) p0 p1 26 0 (by omega) (by omega)
  rw [scp_0] at e
  refine Iff.trans ?_ e
  simp (disch := first | omega | exact notL_I | exact notL_N | exact notL_R | exact oM | exact catS_le (Nat.le_of_ble_eq_true rfl) | rfl) only [x234_0, x234_1]
theorem l_back {p : Int} (p0 : 0 ≤ p) (p1 : p ≤ 8) : ∀ (k : Nat) (i : Int), 0 ≤ i → i + k = 26 → (Ex sc d 236 2 [some (vR 373), some (vI p), some (vI i)] [] (wH (scp σ 392 (26 * p) 389 0 i) u) Q ↔ Q (.inl none) (wH (scp σ 392 (26 * p) 389 0 26) u)) := by
  intro k
  induction k with
  | zero =>
    intro i h0 h1
    obtain rfl : i = 26 := by omega
    rw [x236_2]
    simp (disch := first | omega | exact notL_I | exact notL_N | exact notL_R | exact oM | exact catS_le (Nat.le_of_ble_eq_true rfl) | rfl) only [x236_0, x236_1, x236_3, x236_5, x236_8, x236_9, x236_12, x236_13, x236_14, x236_17, x236_19, x236_20, x236_21, x236_22, x236_23, x236_24, x236_25, x236_28, x236_31, if_pos]
  | succ k ih =>
    intro i h0 h1
    rw [x236_2]
    simp (disch := first | omega | exact notL_I | exact notL_N | exact notL_R | exact oM | exact catS_le (Nat.le_of_ble_eq_true rfl) | rfl) only [x236_0, x236_1, x236_3, x236_5, x236_8, x236_9, x236_12, x236_13, x236_14, x236_17, x236_19, x236_20, x236_21, x236_22, x236_23, x236_24, x236_25, x236_28, x236_31, gM_bound, gM_was, RM_was, WM_bound, if_neg, scp_ne]
    rw [scp_su h0 rfl (by rw [Int.zero_add])]
    exact ih (i + 1) (by omega) (by omega)
theorem s_back {p : Int} (p0 : 0 ≤ p) (p1 : p ≤ 8) : Ex sc d 236 0 [some (vR 373), some (vI p), none] [] (wH σ u) Q ↔ Q (.inl none) (wH (scp σ 392 (26 * p) 389 0 26) u) := by
  have e := l_back (sc := sc) (σ := σ) (u := u) (Q := Q) (d := d) p0 p1 26 0 (by omega) (by omega)
  rw [scp_0] at e
  refine Iff.trans ?_ e
  simp (disch := first | omega | exact notL_I | exact notL_N | exact notL_R | exact oM | exact catS_le (Nat.le_of_ble_eq_true rfl) | rfl) only [x236_0, x236_1]
theorem l_rowSum {h : Int} (W : WfM σ) (h1 : 0 ≤ h) (h2 : h ≤ 4) : ∀ (k : Nat) (i n : Int), 0 ≤ i → i + k = σ 381 h → (Ex sc d 204 4 [some (vR 373), some (vI h), some (vI n), some (vI i)] [] (wH σ u) Q ↔ Q (.inl (some (vI (n + (rsF σ h k i).length)))) (wH σ u)) := by
  have w1 := W.nxt h1 h2
  intro k
  induction k with
  | zero =>
    intro i n h0 hk
    rw [x204_4]
    simp (disch := first | omega | exact notL_I | exact notL_N | exact notL_R | exact oM | exact catS_le (Nat.le_of_ble_eq_true rfl) | rfl) only [x204_0, x204_1, x204_2, x204_3, x204_5, x204_6, x204_9, x204_10, x204_11, x204_14, x204_15, x204_16, x204_19, x204_22, x204_23, x204_24, x204_25, x204_26, x204_27, x204_28, x204_29, x204_32, x204_35, x204_36, gM_nextRow, RM_nextRow, if_pos]
    simp [rsF]
  | succ k ih =>
    intro i n h0 hk
    have w2 := W.thr (n := i) h1 h2 h0 (by omega)
    rw [x204_4]
    simp (disch := first | omega | exact notL_I | exact notL_N | exact notL_R | exact oM | exact catS_le (Nat.le_of_ble_eq_true rfl) | rfl) only [x204_0, x204_1, x204_2, x204_3, x204_5, x204_6, x204_9, x204_10, x204_11, x204_14, x204_15, x204_16, x204_19, x204_22, x204_23, x204_24, x204_25, x204_26, x204_27, x204_28, x204_29, x204_32, x204_35, x204_36, gM_nextRow, RM_nextRow, gM_there, RM_there, if_neg]
    rw [ih (i + 1) _ (by omega) (by omega)]
    rcases w2 with w2 | w2
    · rw [w2, rsF, if_neg (by omega), Int.add_zero]
    · rw [rsF, if_pos w2, w2, List.length_cons]
      have e : n + 1 + ((rsF σ h k (i + 1)).length : Int) = n + (((rsF σ h k (i + 1)).length + 1 : Nat) : Int) := by omega
      rw [e]
theorem s_rowSum {h : Int} (W : WfM σ) (h1 : 0 ≤ h) (h2 : h ≤ 4) : Ex sc d 204 0 [some (vR 373), some (vI h), none, none] [] (wH σ u) Q ↔ Q (.inl (some (vI ((rsR σ h).length)))) (wH σ u) := by
  have w1 := W.nxt h1 h2
  have e := l_rowSum (u := u) (Q := Q) (sc := sc) (d := d) W h1 h2 (σ 381 h).toNat 0 0 (by omega) (by omega)
  rw [Int.zero_add] at e
  refine Iff.trans ?_ e
  simp (disch := first | omega | exact notL_I | exact notL_N | exact notL_R | exact oM | exact catS_le (Nat.le_of_ble_eq_true rfl) | rfl) only [x204_0, x204_1, x204_2, x204_3]
theorem findL_cons {w : Rw} {L : List Rw} {q : At} : findL (w :: L) q = if w.2 = q then some w else findL L q := by
  unfold findL
  rw [List.find?_cons]
  by_cases h : w.2 = q
  · rw [if_pos h]
    simp [h]
  · rw [if_neg h]
    simp [h]
theorem nrm_eq {m x y z a b c : Int} : nrm m a b c = nrm m x y z ↔ a = x ∧ (2 ≤ m → b = y) ∧ (3 ≤ m → c = z) := by
  unfold nrm
  rw [Prod.mk.injEq, Prod.mk.injEq]
  by_cases h2 : 2 ≤ m
  · by_cases h3 : 3 ≤ m
    · simp [h2, h3]
    · simp [h2, h3]
  · by_cases h3 : 3 ≤ m
    · omega
    · simp [h2, h3]
theorem rwR_eq {h n t x y z : Int} : (rwR σ h n).2 = (t, nrm (σ 374 (26 * h + t)) x y z) ↔ σ 378 (200 * h + n) = t ∧ σ 379 (3 * (200 * h + n)) = x ∧ (2 ≤ σ 374 (26 * h + t) → σ 379 (3 * (200 * h + n) + 1) = y) ∧ (3 ≤ σ 374 (26 * h + t) → σ 379 (3 * (200 * h + n) + 2) = z) := by
  unfold rwR
  rw [Prod.mk.injEq]
  constructor
  · rintro ⟨rfl, e⟩
    exact ⟨rfl, nrm_eq.mp e⟩
  · rintro ⟨rfl, e⟩
    exact ⟨rfl, nrm_eq.mpr e⟩
theorem l_find {h t x y z : Int} (W : WfM σ) (hd : 1 ≤ d) (h1 : 0 ≤ h) (h2 : h ≤ 4) (t1 : 0 ≤ t) (t2 : t ≤ 25) (hx : inR x) (hy : inR y) (hz : inR z) : ∀ (k : Nat) (n : Int), 0 ≤ n → n + k = σ 381 h → ∀ l8, notL l8 = true → (Ex sc d 200 11 [some (vR 373), some (vI h), some (vI t), some (vI x), some (vI y), some (vI z), some (vI (σ 374 (26 * h + t))), some (vI n), l8] [] (wH σ u) Q ↔ Q (.inl (some (vI (numO (findL (rsF σ h k n) (t, nrm (σ 374 (26 * h + t)) x y z)))))) (wH σ u)) := by
  have w1 := W.nxt h1 h2
  have w2 := W.col h1 h2 t1 t2
  obtain ⟨x1, x2⟩ := hx
  obtain ⟨y1, y2⟩ := hy
  obtain ⟨z1, z2⟩ := hz
  intro k
  induction k with
  | zero =>
    intro n h0 hk l8 h8
    rw [x200_11]
    simp (disch := first | omega | exact notL_I | exact notL_N | exact notL_R | exact oM | exact catS_le (Nat.le_of_ble_eq_true rfl) | rfl) only [x200_0, x200_1, x200_2, x200_3, x200_6, x200_8, x200_9, x200_13, x200_14, x200_17, x200_18, x200_19, x200_22, x200_23, x200_24, x200_26, x200_29, x200_32, x200_33, x200_34, x200_36, x200_39, x200_40, x200_43, x200_44, x200_45, x200_47, x200_48, x200_51, x200_52, x200_55, x200_57, x200_58, x200_61, x200_62, x200_63, x200_65, x200_66, x200_69, x200_71, x200_74, x200_76, x200_77, x200_80, x200_81, x200_82, x200_84, x200_85, x200_88, x200_90, x200_93, x200_94, x200_97, x200_98, x200_100, x200_102, x200_105, x200_107, x200_108, x200_111, x200_114, x200_115, gM_nextRow, RM_nextRow, if_pos]
    rfl
  | succ k ih =>
    intro n h0 hk l8 h8
    have w3 := W.thr (n := n) h1 h2 h0 (by omega)
    have w4 := W.tab (n := n) h1 h2 h0 (by omega)
    have w5 := isTm_in (W.ter (n := n) (c := 0) h1 h2 h0 (by omega) (by omega) (by omega))
    have w6 := isTm_in (W.ter (n := n) (c := 1) h1 h2 h0 (by omega) (by omega) (by omega))
    have w7 := isTm_in (W.ter (n := n) (c := 2) h1 h2 h0 (by omega) (by omega) (by omega))
    have i1 := fun v => ih (n + 1) (by omega) (by omega) (some (vI v)) notL_I
    rw [Int.add_zero] at w5
    rw [x200_11, rsF]
    rcases w3 with w3 | w3
    · rw [if_neg (by omega)]
      simp (disch := first | omega | exact notL_I | exact notL_N | exact notL_R | exact oM | exact catS_le (Nat.le_of_ble_eq_true rfl) | rfl) only [x200_0, x200_1, x200_2, x200_3, x200_6, x200_8, x200_9, x200_13, x200_14, x200_17, x200_18, x200_19, x200_22, x200_23, x200_24, x200_26, x200_29, x200_32, x200_33, x200_34, x200_36, x200_39, x200_40, x200_43, x200_44, x200_45, x200_47, x200_48, x200_51, x200_52, x200_55, x200_57, x200_58, x200_61, x200_62, x200_63, x200_65, x200_66, x200_69, x200_71, x200_74, x200_76, x200_77, x200_80, x200_81, x200_82, x200_84, x200_85, x200_88, x200_90, x200_93, x200_94, x200_97, x200_98, x200_100, x200_102, x200_105, x200_107, x200_108, x200_111, x200_114, x200_115, gM_nextRow, RM_nextRow, oM, s_isThere, w3, Kc_some, if_pos, if_neg, ↓reduceIte, not_true_eq_false, not_false_eq_true, i1]
    · rw [if_pos w3, findL_cons]
      simp (disch := first | omega | exact notL_I | exact notL_N | exact notL_R | exact oM | exact catS_le (Nat.le_of_ble_eq_true rfl) | rfl) only [x200_0, x200_1, x200_2, x200_3, x200_6, x200_8, x200_9, x200_13, x200_14, x200_17, x200_18, x200_19, x200_22, x200_23, x200_24, x200_26, x200_29, x200_32, x200_33, x200_34, x200_36, x200_39, x200_40, x200_43, x200_44, x200_45, x200_47, x200_48, x200_51, x200_52, x200_55, x200_57, x200_58, x200_61, x200_62, x200_63, x200_65, x200_66, x200_69, x200_71, x200_74, x200_76, x200_77, x200_80, x200_81, x200_82, x200_84, x200_85, x200_88, x200_90, x200_93, x200_94, x200_97, x200_98, x200_100, x200_102, x200_105, x200_107, x200_108, x200_111, x200_114, x200_115, gM_nextRow, RM_nextRow, oM, s_isThere, s_table, s_term, w3, Kc_some, if_pos, if_neg, ↓reduceIte, not_true_eq_false, not_false_eq_true, i1, Int.add_zero]
      by_cases hC : (rwR σ h n).2 = (t, nrm (σ 374 (26 * h + t)) x y z)
      · rw [if_pos hC]
        rw [rwR_eq] at hC
        repeat' split
        all_goals first | (exfalso; omega) | rfl
      · rw [if_neg hC]
        rw [rwR_eq] at hC
        repeat' split
        all_goals first | (exfalso; omega) | rfl
theorem s_find {h t x y z : Int} (W : WfM σ) (hd : 1 ≤ d) (h1 : 0 ≤ h) (h2 : h ≤ 4) (t1 : 0 ≤ t) (t2 : t ≤ 25) (hx : inR x) (hy : inR y) (hz : inR z) : Ex sc d 200 0 [some (vR 373), some (vI h), some (vI t), some (vI x), some (vI y), some (vI z), none, none, none] [] (wH σ u) Q ↔ Q (.inl (some (vI (numO (findL (rsR σ h) (t, nrm (σ 374 (26 * h + t)) x y z)))))) (wH σ u) := by
  have w1 := W.nxt h1 h2
  have e := l_find (u := u) (Q := Q) (sc := sc) W hd h1 h2 t1 t2 hx hy hz (σ 381 h).toNat 0 (by omega) (by omega) none notL_N
  refine Iff.trans ?_ e
  simp (disch := first | omega | exact notL_I | exact notL_N | exact notL_R | exact oM | exact catS_le (Nat.le_of_ble_eq_true rfl) | rfl) only [x200_0, x200_1, x200_2, x200_3, x200_6, x200_8, x200_9, oM, s_colsOf, Kc_some]
end R2
