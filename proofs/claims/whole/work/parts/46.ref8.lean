/-! clear, empty, copies of halls (reference) -/
section Cm
variable {σ : St} {a b c : Nat} {lo hi i j v x sp dp n : Int}
theorem su_scp (h1 : c ≠ a) (h2 : c ≠ b) : su (scp σ b sp a dp n) c i x = scp (su σ c i x) b sp a dp n := by
  funext e j
  by_cases he : e = a
  · subst he
    rw [su_ne (fun z => h1 z.symm), scp_at, scp_at, su_ne (fun z => h2 z.symm), su_ne (fun z => h1 z.symm)]
  · rw [scp_ne he]
    by_cases hc : e = c
    · subst hc
      rw [su_at, su_at, scp_ne he]
    · rw [su_ne hc, su_ne hc, scp_ne he]
theorem su_fl (h1 : c ≠ a) : su (fl σ a lo hi v) c i x = fl (su σ c i x) a lo hi v := by
  funext e j
  by_cases he : e = a
  · subst he
    rw [su_ne (fun z => h1 z.symm), fl_at, fl_at, su_ne (fun z => h1 z.symm)]
  · rw [fl_ne he]
    by_cases hc : e = c
    · subst hc
      rw [su_at, su_at, fl_ne he]
    · rw [su_ne hc, su_ne hc, fl_ne he]
end Cm
/-- an empty hall -/
def emE (σ : St) (h : Int) : St := su (su (su (fl (fl (fl σ 377 (200 * h) (200 * h + 200) 0) 380 (200 * h) (200 * h + 200) (-1)) 385 (100 * h) (100 * h + 100) 0) 381 h 0) 382 h 0) 383 h 0
def emC (σ : St) (h : Int) : St := emE (su (fl σ 374 (26 * h) (26 * h + 26) 0) 375 h 0) h
/-- columns and rules copied -/
def cpR (σ : St) (f t : Int) : St := scp (su (scp σ 374 (26 * f) 374 (26 * t) 26) 375 t (σ 375 f)) 376 (300 * f) 376 (300 * t) 300
def cpN (σ : St) (f t n m : Int) : St := scp (scp (scp (scp σ 377 (200 * f) 377 (200 * t) n) 378 (200 * f) 378 (200 * t) n) 380 (200 * f) 380 (200 * t) n) 379 (600 * f) 379 (600 * t) m
def cpS (σ : St) (f t : Int) : St := scp (scp (cpN σ f t 200 600) 385 (100 * f) 385 (100 * t) 100) 384 (1024 * f) 384 (1024 * t) 1024
def cpH (σ : St) (f t : Int) : St := su (su (su (cpS (cpR σ f t) f t) 381 t (σ 381 f)) 382 t (σ 382 f)) 383 t (σ 383 f)
section R8
variable {sc : Scr} {σ : St} {u : Bool × Nat × Nat × Int} {Q : Rs → HS → Prop} {d : Nat}
theorem l_empty1 {h : Int} (h1 : 0 ≤ h) (h2 : h ≤ 4) : ∀ (k : Nat) (i : Int), 0 ≤ i → i + k = 200 → (Ex sc d 176 2 [some (vR 373), some (vI h), some (vI i)] [] (wH (fl (fl σ 377 (200 * h) (200 * h + i) 0) 380 (200 * h) (200 * h + i) (-1)) u) Q ↔ Ex sc d 176 41 [some (vR 373), some (vI h), some (vI 200)] [] (wH (fl (fl σ 377 (200 * h) (200 * h + 200) 0) 380 (200 * h) (200 * h + 200) (-1)) u) Q) := by
  intro k
  induction k with
  | zero =>
    intro i h0 hk
    obtain rfl : i = 200 := by omega
    rw [x176_2]
    simp (disch := first | omega | exact notL_I | exact notL_N | exact notL_R | exact oM | exact catS_le (Nat.le_of_ble_eq_true rfl) | rfl) only [x176_0, x176_1, x176_3, x176_6, x176_9, x176_10, x176_13, x176_16, x176_17, x176_18, x176_19, x176_20, x176_21, x176_22, x176_23, x176_26, x176_29, x176_30, x176_31, x176_32, x176_33, x176_34, x176_35, x176_38, x176_42, x176_43, x176_44, x176_46, x176_49, x176_50, x176_53, x176_55, x176_56, x176_57, x176_58, x176_59, x176_60, x176_61, x176_64, x176_67, x176_68, x176_71, x176_72, x176_73, x176_74, x176_75, x176_78, x176_79, x176_80, x176_81, x176_82, x176_85, x176_86, x176_87, x176_88, if_pos, if_neg, ↓reduceIte, not_true_eq_false, not_false_eq_true]
  | succ k ih =>
    intro i h0 hk
    rw [x176_2]
    simp (disch := first | omega | exact notL_I | exact notL_N | exact notL_R | exact oM | exact catS_le (Nat.le_of_ble_eq_true rfl) | rfl) only [x176_0, x176_1, x176_3, x176_6, x176_9, x176_10, x176_13, x176_16, x176_17, x176_18, x176_19, x176_20, x176_21, x176_22, x176_23, x176_26, x176_29, x176_30, x176_31, x176_32, x176_33, x176_34, x176_35, x176_38, x176_42, x176_43, x176_44, x176_46, x176_49, x176_50, x176_53, x176_55, x176_56, x176_57, x176_58, x176_59, x176_60, x176_61, x176_64, x176_67, x176_68, x176_71, x176_72, x176_73, x176_74, x176_75, x176_78, x176_79, x176_80, x176_81, x176_82, x176_85, x176_86, x176_87, x176_88, gM_there, gM_byStep, WM_there, WM_byStep, su_fl, fl_su, if_pos, if_neg, ↓reduceIte, not_true_eq_false, not_false_eq_true]
    rw [Int.add_assoc]
    exact ih (i + 1) (by omega) (by omega)
theorem l_empty2 {h : Int} (h1 : 0 ≤ h) (h2 : h ≤ 4) : ∀ (k : Nat) (i : Int), 0 ≤ i → i + k = 100 → (Ex sc d 176 43 [some (vR 373), some (vI h), some (vI i)] [] (wH (fl σ 385 (100 * h) (100 * h + i) 0) u) Q ↔ Q (.inl none) (wH (su (su (su (fl σ 385 (100 * h) (100 * h + 100) 0) 381 h 0) 382 h 0) 383 h 0) u)) := by
  intro k
  induction k with
  | zero =>
    intro i h0 hk
    obtain rfl : i = 100 := by omega
    rw [x176_43]
    simp (disch := first | omega | exact notL_I | exact notL_N | exact notL_R | exact oM | exact catS_le (Nat.le_of_ble_eq_true rfl) | rfl) only [x176_0, x176_1, x176_2, x176_3, x176_6, x176_9, x176_10, x176_13, x176_16, x176_17, x176_18, x176_19, x176_20, x176_21, x176_22, x176_23, x176_26, x176_29, x176_30, x176_31, x176_32, x176_33, x176_34, x176_35, x176_38, x176_41, x176_42, x176_44, x176_46, x176_49, x176_50, x176_53, x176_55, x176_56, x176_57, x176_58, x176_59, x176_60, x176_61, x176_64, x176_67, x176_68, x176_71, x176_72, x176_73, x176_74, x176_75, x176_78, x176_79, x176_80, x176_81, x176_82, x176_85, x176_86, x176_87, x176_88, gM_nextRow, gM_state, gM_stepMany, WM_nextRow, WM_state, WM_stepMany, if_pos, if_neg, ↓reduceIte, not_true_eq_false, not_false_eq_true]
  | succ k ih =>
    intro i h0 hk
    rw [x176_43]
    simp (disch := first | omega | exact notL_I | exact notL_N | exact notL_R | exact oM | exact catS_le (Nat.le_of_ble_eq_true rfl) | rfl) only [x176_0, x176_1, x176_2, x176_3, x176_6, x176_9, x176_10, x176_13, x176_16, x176_17, x176_18, x176_19, x176_20, x176_21, x176_22, x176_23, x176_26, x176_29, x176_30, x176_31, x176_32, x176_33, x176_34, x176_35, x176_38, x176_41, x176_42, x176_44, x176_46, x176_49, x176_50, x176_53, x176_55, x176_56, x176_57, x176_58, x176_59, x176_60, x176_61, x176_64, x176_67, x176_68, x176_71, x176_72, x176_73, x176_74, x176_75, x176_78, x176_79, x176_80, x176_81, x176_82, x176_85, x176_86, x176_87, x176_88, gM_named, WM_named, fl_su, if_pos, if_neg, ↓reduceIte, not_true_eq_false, not_false_eq_true]
    rw [Int.add_assoc]
    exact ih (i + 1) (by omega) (by omega)
theorem s_empty {h : Int} (h1 : 0 ≤ h) (h2 : h ≤ 4) : Ex sc d 176 0 [some (vR 373), some (vI h), none] [] (wH σ u) Q ↔ Q (.inl none) (wH (emE σ h) u) := by
  have e1 := l_empty1 (sc := sc) (σ := σ) (u := u) (Q := Q) (d := d) h1 h2 200 0 (by omega) (by omega)
  have e2 := l_empty2 (sc := sc) (σ := fl (fl σ 377 (200 * h) (200 * h + 200) 0) 380 (200 * h) (200 * h + 200) (-1)) (u := u) (Q := Q) (d := d) h1 h2 100 0 (by omega) (by omega)
  rw [Int.add_zero, fl_0, fl_0] at e1
  rw [Int.add_zero, fl_0] at e2
  refine Iff.trans ?_ (e1.trans (Iff.trans ?_ e2))
  · simp (disch := first | omega | exact notL_I | exact notL_N | exact notL_R | exact oM | exact catS_le (Nat.le_of_ble_eq_true rfl) | rfl) only [x176_0, x176_1]
  · simp (disch := first | omega | exact notL_I | exact notL_N | exact notL_R | exact oM | exact catS_le (Nat.le_of_ble_eq_true rfl) | rfl) only [x176_41, x176_42]
theorem l_clear {h : Int} (h1 : 0 ≤ h) (h2 : h ≤ 4) : ∀ (k : Nat) (i : Int), 0 ≤ i → i + k = 26 → (Ex sc d 175 2 [some (vR 373), some (vI h), some (vI i)] [] (wH (fl σ 374 (26 * h) (26 * h + i) 0) u) Q ↔ Ex sc d 175 26 [some (vR 373), some (vI h), some (vI 26)] [] (wH (fl σ 374 (26 * h) (26 * h + 26) 0) u) Q) := by
  intro k
  induction k with
  | zero =>
    intro i h0 hk
    obtain rfl : i = 26 := by omega
    rw [x175_2]
    simp (disch := first | omega | exact notL_I | exact notL_N | exact notL_R | exact oM | exact catS_le (Nat.le_of_ble_eq_true rfl) | rfl) only [x175_0, x175_1, x175_3, x175_5, x175_8, x175_9, x175_12, x175_14, x175_15, x175_16, x175_17, x175_18, x175_19, x175_20, x175_23, x175_27, x175_30, x175_31, x175_32, x175_33, x175_34, x175_35, x175_38, if_pos, if_neg, ↓reduceIte, not_true_eq_false, not_false_eq_true]
  | succ k ih =>
    intro i h0 hk
    rw [x175_2]
    simp (disch := first | omega | exact notL_I | exact notL_N | exact notL_R | exact oM | exact catS_le (Nat.le_of_ble_eq_true rfl) | rfl) only [x175_0, x175_1, x175_3, x175_5, x175_8, x175_9, x175_12, x175_14, x175_15, x175_16, x175_17, x175_18, x175_19, x175_20, x175_23, x175_27, x175_30, x175_31, x175_32, x175_33, x175_34, x175_35, x175_38, gM_cols, WM_cols, fl_su, if_pos, if_neg, ↓reduceIte, not_true_eq_false, not_false_eq_true]
    rw [Int.add_assoc]
    exact ih (i + 1) (by omega) (by omega)
theorem s_clear {h : Int} (hd : 1 ≤ d) (h1 : 0 ≤ h) (h2 : h ≤ 4) : Ex sc d 175 0 [some (vR 373), some (vI h), none] [] (wH σ u) Q ↔ Q (.inl none) (wH (emC σ h) u) := by
  have e1 := l_clear (sc := sc) (σ := σ) (u := u) (Q := Q) (d := d) h1 h2 26 0 (by omega) (by omega)
  rw [Int.add_zero, fl_0] at e1
  refine Iff.trans ?_ (e1.trans ?_)
  · simp (disch := first | omega | exact notL_I | exact notL_N | exact notL_R | exact oM | exact catS_le (Nat.le_of_ble_eq_true rfl) | rfl) only [x175_0, x175_1]
  · simp (disch := first | omega | exact notL_I | exact notL_N | exact notL_R | exact oM | exact catS_le (Nat.le_of_ble_eq_true rfl) | rfl) only [x175_0, x175_1, x175_3, x175_5, x175_8, x175_9, x175_12, x175_14, x175_15, x175_16, x175_17, x175_18, x175_19, x175_20, x175_23, x175_26, x175_27, x175_30, x175_31, x175_32, x175_33, x175_34, x175_35, x175_38, gM_ruleMany, WM_ruleMany, s_empty, Kc_none]
    rfl
theorem l_rulesOf1 {f t : Int} (f1 : 0 ≤ f) (f2 : f ≤ 4) (t1 : 0 ≤ t) (t2 : t ≤ 4) (ft : f ≠ t) : ∀ (k : Nat) (i : Int), 0 ≤ i → i + k = 26 → (Ex sc d 215 2 [some (vR 373), some (vI f), some (vI t), some (vI i)] [] (wH (scp σ 374 (26 * f) 374 (26 * t) i) u) Q ↔ Ex sc d 215 36 [some (vR 373), some (vI f), some (vI t), some (vI 26)] [] (wH (scp σ 374 (26 * f) 374 (26 * t) 26) u) Q) := by
  intro k
  induction k with
  | zero =>
    intro i h0 hk
    obtain rfl : i = 26 := by omega
    rw [x215_2]
    simp (disch := first | omega | exact notL_I | exact notL_N | exact notL_R | exact oM | exact catS_le (Nat.le_of_ble_eq_true rfl) | rfl) only [x215_0, x215_1, x215_3, x215_5, x215_8, x215_9, x215_12, x215_14, x215_15, x215_16, x215_17, x215_18, x215_19, x215_22, x215_24, x215_25, x215_26, x215_27, x215_28, x215_29, x215_30, x215_33, x215_37, x215_40, x215_41, x215_42, x215_45, x215_46, x215_47, x215_48, x215_49, x215_50, x215_51, x215_54, x215_57, x215_58, x215_61, x215_64, x215_65, x215_66, x215_67, x215_68, x215_69, x215_72, x215_75, x215_76, x215_77, x215_78, x215_79, x215_80, x215_81, x215_84, x215_87, if_pos, if_neg, ↓reduceIte, not_true_eq_false, not_false_eq_true]
  | succ k ih =>
    intro i h0 hk
    have e : scp σ 374 (26 * f) 374 (26 * t) i 374 (26 * f + i) = σ 374 (26 * f + i) := by rw [scp_at, if_neg (by omega)]
    rw [x215_2]
    simp (disch := first | omega | exact notL_I | exact notL_N | exact notL_R | exact oM | exact catS_le (Nat.le_of_ble_eq_true rfl) | rfl) only [x215_0, x215_1, x215_3, x215_5, x215_8, x215_9, x215_12, x215_14, x215_15, x215_16, x215_17, x215_18, x215_19, x215_22, x215_24, x215_25, x215_26, x215_27, x215_28, x215_29, x215_30, x215_33, x215_37, x215_40, x215_41, x215_42, x215_45, x215_46, x215_47, x215_48, x215_49, x215_50, x215_51, x215_54, x215_57, x215_58, x215_61, x215_64, x215_65, x215_66, x215_67, x215_68, x215_69, x215_72, x215_75, x215_76, x215_77, x215_78, x215_79, x215_80, x215_81, x215_84, x215_87, gM_cols, RM_cols, WM_cols, e, if_pos, if_neg, ↓reduceIte, not_true_eq_false, not_false_eq_true]
    rw [scp_su h0 rfl rfl]
    exact ih (i + 1) (by omega) (by omega)
theorem l_rulesOf2 {f t : Int} (f1 : 0 ≤ f) (f2 : f ≤ 4) (t1 : 0 ≤ t) (t2 : t ≤ 4) (ft : f ≠ t) : ∀ (k : Nat) (i : Int), 0 ≤ i → i + k = 300 → (Ex sc d 215 50 [some (vR 373), some (vI f), some (vI t), some (vI i)] [] (wH (scp σ 376 (300 * f) 376 (300 * t) i) u) Q ↔ Q (.inl none) (wH (scp σ 376 (300 * f) 376 (300 * t) 300) u)) := by
  intro k
  induction k with
  | zero =>
    intro i h0 hk
    obtain rfl : i = 300 := by omega
    rw [x215_50]
    simp (disch := first | omega | exact notL_I | exact notL_N | exact notL_R | exact oM | exact catS_le (Nat.le_of_ble_eq_true rfl) | rfl) only [x215_0, x215_1, x215_2, x215_3, x215_5, x215_8, x215_9, x215_12, x215_14, x215_15, x215_16, x215_17, x215_18, x215_19, x215_22, x215_24, x215_25, x215_26, x215_27, x215_28, x215_29, x215_30, x215_33, x215_36, x215_37, x215_40, x215_41, x215_42, x215_45, x215_46, x215_47, x215_48, x215_49, x215_51, x215_54, x215_57, x215_58, x215_61, x215_64, x215_65, x215_66, x215_67, x215_68, x215_69, x215_72, x215_75, x215_76, x215_77, x215_78, x215_79, x215_80, x215_81, x215_84, x215_87, if_pos, if_neg, ↓reduceIte, not_true_eq_false, not_false_eq_true]
  | succ k ih =>
    intro i h0 hk
    have e : scp σ 376 (300 * f) 376 (300 * t) i 376 (300 * f + i) = σ 376 (300 * f + i) := by rw [scp_at, if_neg (by omega)]
    rw [x215_50]
    simp (disch := first | omega | exact notL_I | exact notL_N | exact notL_R | exact oM | exact catS_le (Nat.le_of_ble_eq_true rfl) | rfl) only [x215_0, x215_1, x215_2, x215_3, x215_5, x215_8, x215_9, x215_12, x215_14, x215_15, x215_16, x215_17, x215_18, x215_19, x215_22, x215_24, x215_25, x215_26, x215_27, x215_28, x215_29, x215_30, x215_33, x215_36, x215_37, x215_40, x215_41, x215_42, x215_45, x215_46, x215_47, x215_48, x215_49, x215_51, x215_54, x215_57, x215_58, x215_61, x215_64, x215_65, x215_66, x215_67, x215_68, x215_69, x215_72, x215_75, x215_76, x215_77, x215_78, x215_79, x215_80, x215_81, x215_84, x215_87, gM_rules, RM_rules, WM_rules, e, if_pos, if_neg, ↓reduceIte, not_true_eq_false, not_false_eq_true]
    rw [scp_su h0 rfl rfl]
    exact ih (i + 1) (by omega) (by omega)
theorem s_rulesOf {f t : Int} (f1 : 0 ≤ f) (f2 : f ≤ 4) (t1 : 0 ≤ t) (t2 : t ≤ 4) (ft : f ≠ t) : Ex sc d 215 0 [some (vR 373), some (vI f), some (vI t), none] [] (wH σ u) Q ↔ Q (.inl none) (wH (cpR σ f t) u) := by
  have e1 := l_rulesOf1 (sc := sc) (σ := σ) (u := u) (Q := Q) (d := d) f1 f2 t1 t2 ft 26 0 (by omega) (by omega)
  have e2 := l_rulesOf2 (sc := sc) (σ := su (scp σ 374 (26 * f) 374 (26 * t) 26) 375 t (σ 375 f)) (u := u) (Q := Q) (d := d) f1 f2 t1 t2 ft 300 0 (by omega) (by omega)
  rw [scp_0] at e1 e2
  refine Iff.trans ?_ (e1.trans (Iff.trans ?_ e2))
  · simp (disch := first | omega | exact notL_I | exact notL_N | exact notL_R | exact oM | exact catS_le (Nat.le_of_ble_eq_true rfl) | rfl) only [x215_0, x215_1]
  · simp (disch := first | omega | exact notL_I | exact notL_N | exact notL_R | exact oM | exact catS_le (Nat.le_of_ble_eq_true rfl) | rfl) only [x215_36, x215_37, x215_40, x215_41, x215_42, x215_45, x215_46, x215_47, x215_48, x215_49, gM_ruleMany, RM_ruleMany, WM_ruleMany, scp_ne]
theorem l_copies0 {f t n : Int} (f1 : 0 ≤ f) (f2 : f ≤ 4) (t1 : 0 ≤ t) (t2 : t ≤ 4) (ft : f ≠ t) (n0 : 0 ≤ n) (n1 : n ≤ 199) : ∀ (k : Nat) (c : Int), 0 ≤ c → c + k = 3 → (Ex sc d 214 90 [some (vR 373), some (vI f), some (vI t), some (vI n), some (vI c)] [] (wH (cpN σ f t (n + 1) (3 * n + c)) u) Q ↔ Ex sc d 214 136 [some (vR 373), some (vI f), some (vI t), some (vI n), some (vI 3)] [] (wH (cpN σ f t (n + 1) (3 * n + 3)) u) Q) := by
  intro k
  induction k with
  | zero =>
    intro c h0 hk
    obtain rfl : c = 3 := by omega
    rw [x214_90]
    simp (disch := first | omega | exact notL_I | exact notL_N | exact notL_R | exact oM | exact catS_le (Nat.le_of_ble_eq_true rfl) | rfl) only [x214_0, x214_1, x214_2, x214_3, x214_6, x214_7, x214_8, x214_9, x214_12, x214_15, x214_16, x214_19, x214_22, x214_23, x214_24, x214_25, x214_26, x214_27, x214_30, x214_33, x214_34, x214_35, x214_36, x214_37, x214_38, x214_39, x214_40, x214_43, x214_46, x214_47, x214_48, x214_49, x214_50, x214_51, x214_54, x214_57, x214_58, x214_59, x214_60, x214_61, x214_62, x214_63, x214_64, x214_67, x214_70, x214_71, x214_72, x214_73, x214_74, x214_75, x214_78, x214_81, x214_82, x214_83, x214_84, x214_85, x214_86, x214_87, x214_88, x214_92, x214_93, x214_96, x214_97, x214_100, x214_101, x214_104, x214_105, x214_106, x214_107, x214_108, x214_109, x214_111, x214_112, x214_113, x214_116, x214_117, x214_120, x214_121, x214_122, x214_123, x214_124, x214_125, x214_127, x214_128, x214_129, x214_130, x214_133, x214_139, x214_142, x214_143, x214_144, x214_145, x214_147, x214_150, x214_151, x214_154, x214_156, x214_157, x214_158, x214_159, x214_160, x214_161, x214_164, x214_166, x214_167, x214_168, x214_169, x214_170, x214_171, x214_172, x214_175, x214_178, x214_179, x214_180, x214_181, x214_184, x214_187, x214_188, x214_191, x214_194, x214_195, x214_196, x214_197, x214_198, x214_199, x214_202, x214_205, x214_206, x214_207, x214_208, x214_209, x214_210, x214_211, x214_214, x214_217, x214_218, x214_221, x214_222, x214_223, x214_226, x214_227, x214_228, x214_229, x214_230, x214_233, x214_234, x214_235, x214_238, x214_239, x214_240, x214_241, x214_242, x214_245, x214_246, x214_247, x214_250, x214_251, x214_252, x214_253, if_pos, if_neg, ↓reduceIte, not_true_eq_false, not_false_eq_true]
  | succ k ih =>
    intro c h0 hk
    have e : cpN σ f t (n + 1) (3 * n + c) 379 (3 * (200 * f + n) + c) = scp (scp (scp σ 377 (200 * f) 377 (200 * t) (n + 1)) 378 (200 * f) 378 (200 * t) (n + 1)) 380 (200 * f) 380 (200 * t) (n + 1) 379 (600 * f + (3 * n + c)) := by
      unfold cpN
      rw [scp_at, if_neg (by omega)]
      congr 1
      omega
    rw [x214_90]
    simp (disch := first | omega | exact notL_I | exact notL_N | exact notL_R | exact oM | exact catS_le (Nat.le_of_ble_eq_true rfl) | rfl) only [x214_0, x214_1, x214_2, x214_3, x214_6, x214_7, x214_8, x214_9, x214_12, x214_15, x214_16, x214_19, x214_22, x214_23, x214_24, x214_25, x214_26, x214_27, x214_30, x214_33, x214_34, x214_35, x214_36, x214_37, x214_38, x214_39, x214_40, x214_43, x214_46, x214_47, x214_48, x214_49, x214_50, x214_51, x214_54, x214_57, x214_58, x214_59, x214_60, x214_61, x214_62, x214_63, x214_64, x214_67, x214_70, x214_71, x214_72, x214_73, x214_74, x214_75, x214_78, x214_81, x214_82, x214_83, x214_84, x214_85, x214_86, x214_87, x214_88, x214_92, x214_93, x214_96, x214_97, x214_100, x214_101, x214_104, x214_105, x214_106, x214_107, x214_108, x214_109, x214_111, x214_112, x214_113, x214_116, x214_117, x214_120, x214_121, x214_122, x214_123, x214_124, x214_125, x214_127, x214_128, x214_129, x214_130, x214_133, x214_139, x214_142, x214_143, x214_144, x214_145, x214_147, x214_150, x214_151, x214_154, x214_156, x214_157, x214_158, x214_159, x214_160, x214_161, x214_164, x214_166, x214_167, x214_168, x214_169, x214_170, x214_171, x214_172, x214_175, x214_178, x214_179, x214_180, x214_181, x214_184, x214_187, x214_188, x214_191, x214_194, x214_195, x214_196, x214_197, x214_198, x214_199, x214_202, x214_205, x214_206, x214_207, x214_208, x214_209, x214_210, x214_211, x214_214, x214_217, x214_218, x214_221, x214_222, x214_223, x214_226, x214_227, x214_228, x214_229, x214_230, x214_233, x214_234, x214_235, x214_238, x214_239, x214_240, x214_241, x214_242, x214_245, x214_246, x214_247, x214_250, x214_251, x214_252, x214_253, gM_terms, RM_terms, WM_terms, e, if_pos, if_neg, ↓reduceIte, not_true_eq_false, not_false_eq_true]
    unfold cpN
    rw [scp_su (by omega) rfl (by omega), Int.add_assoc]
    exact ih (c + 1) (by omega) (by omega)
theorem l_copies4 {f t : Int} (f1 : 0 ≤ f) (f2 : f ≤ 4) (t1 : 0 ≤ t) (t2 : t ≤ 4) (ft : f ≠ t) {l4 : Option V} : ∀ (k : Nat) (i : Int), 0 ≤ i → i + k = 1024 → (Ex sc d 214 180 [some (vR 373), some (vI f), some (vI t), some (vI i), l4] [] (wH (scp σ 384 (1024 * f) 384 (1024 * t) i) u) Q ↔ Q (.inl none) (wH (su (su (su (scp σ 384 (1024 * f) 384 (1024 * t) 1024) 381 t (σ 381 f)) 382 t (σ 382 f)) 383 t (σ 383 f)) u)) := by
  intro k
  induction k with
  | zero =>
    intro i h0 hk
    obtain rfl : i = 1024 := by omega
    rw [x214_180]
    simp (disch := first | omega | exact notL_I | exact notL_N | exact notL_R | exact oM | exact catS_le (Nat.le_of_ble_eq_true rfl) | rfl) only [x214_0, x214_1, x214_2, x214_3, x214_6, x214_7, x214_8, x214_9, x214_12, x214_15, x214_16, x214_19, x214_22, x214_23, x214_24, x214_25, x214_26, x214_27, x214_30, x214_33, x214_34, x214_35, x214_36, x214_37, x214_38, x214_39, x214_40, x214_43, x214_46, x214_47, x214_48, x214_49, x214_50, x214_51, x214_54, x214_57, x214_58, x214_59, x214_60, x214_61, x214_62, x214_63, x214_64, x214_67, x214_70, x214_71, x214_72, x214_73, x214_74, x214_75, x214_78, x214_81, x214_82, x214_83, x214_84, x214_85, x214_86, x214_87, x214_88, x214_90, x214_92, x214_93, x214_96, x214_97, x214_100, x214_101, x214_104, x214_105, x214_106, x214_107, x214_108, x214_109, x214_111, x214_112, x214_113, x214_116, x214_117, x214_120, x214_121, x214_122, x214_123, x214_124, x214_125, x214_127, x214_128, x214_129, x214_130, x214_133, x214_136, x214_139, x214_142, x214_143, x214_144, x214_145, x214_147, x214_150, x214_151, x214_154, x214_156, x214_157, x214_158, x214_159, x214_160, x214_161, x214_164, x214_166, x214_167, x214_168, x214_169, x214_170, x214_171, x214_172, x214_175, x214_178, x214_179, x214_181, x214_184, x214_187, x214_188, x214_191, x214_194, x214_195, x214_196, x214_197, x214_198, x214_199, x214_202, x214_205, x214_206, x214_207, x214_208, x214_209, x214_210, x214_211, x214_214, x214_217, x214_218, x214_221, x214_222, x214_223, x214_226, x214_227, x214_228, x214_229, x214_230, x214_233, x214_234, x214_235, x214_238, x214_239, x214_240, x214_241, x214_242, x214_245, x214_246, x214_247, x214_250, x214_251, x214_252, x214_253, gM_nextRow, gM_state, gM_stepMany, RM_nextRow, RM_state, RM_stepMany, WM_nextRow, WM_state, WM_stepMany, scp_ne, su_ne, if_pos, if_neg, ↓reduceIte, not_true_eq_false, not_false_eq_true]
  | succ k ih =>
    intro i h0 hk
    have e : scp σ 384 (1024 * f) 384 (1024 * t) i 384 (1024 * f + i) = σ 384 (1024 * f + i) := by rw [scp_at, if_neg (by omega)]
    rw [x214_180]
    simp (disch := first | omega | exact notL_I | exact notL_N | exact notL_R | exact oM | exact catS_le (Nat.le_of_ble_eq_true rfl) | rfl) only [x214_0, x214_1, x214_2, x214_3, x214_6, x214_7, x214_8, x214_9, x214_12, x214_15, x214_16, x214_19, x214_22, x214_23, x214_24, x214_25, x214_26, x214_27, x214_30, x214_33, x214_34, x214_35, x214_36, x214_37, x214_38, x214_39, x214_40, x214_43, x214_46, x214_47, x214_48, x214_49, x214_50, x214_51, x214_54, x214_57, x214_58, x214_59, x214_60, x214_61, x214_62, x214_63, x214_64, x214_67, x214_70, x214_71, x214_72, x214_73, x214_74, x214_75, x214_78, x214_81, x214_82, x214_83, x214_84, x214_85, x214_86, x214_87, x214_88, x214_90, x214_92, x214_93, x214_96, x214_97, x214_100, x214_101, x214_104, x214_105, x214_106, x214_107, x214_108, x214_109, x214_111, x214_112, x214_113, x214_116, x214_117, x214_120, x214_121, x214_122, x214_123, x214_124, x214_125, x214_127, x214_128, x214_129, x214_130, x214_133, x214_136, x214_139, x214_142, x214_143, x214_144, x214_145, x214_147, x214_150, x214_151, x214_154, x214_156, x214_157, x214_158, x214_159, x214_160, x214_161, x214_164, x214_166, x214_167, x214_168, x214_169, x214_170, x214_171, x214_172, x214_175, x214_178, x214_179, x214_181, x214_184, x214_187, x214_188, x214_191, x214_194, x214_195, x214_196, x214_197, x214_198, x214_199, x214_202, x214_205, x214_206, x214_207, x214_208, x214_209, x214_210, x214_211, x214_214, x214_217, x214_218, x214_221, x214_222, x214_223, x214_226, x214_227, x214_228, x214_229, x214_230, x214_233, x214_234, x214_235, x214_238, x214_239, x214_240, x214_241, x214_242, x214_245, x214_246, x214_247, x214_250, x214_251, x214_252, x214_253, gM_steps, RM_steps, WM_steps, e, if_pos, if_neg, ↓reduceIte, not_true_eq_false, not_false_eq_true]
    rw [scp_su h0 rfl rfl]
    exact ih (i + 1) (by omega) (by omega)
theorem l_copies3 {f t : Int} (f1 : 0 ≤ f) (f2 : f ≤ 4) (t1 : 0 ≤ t) (t2 : t ≤ 4) (ft : f ≠ t) (hw : ∀ k, 0 ≤ k → k < 100 → σ 385 (100 * f + k) = 0 ∨ σ 385 (100 * f + k) = 1) {l4 : Option V} : ∀ (k : Nat) (i : Int), 0 ≤ i → i + k = 100 → (Ex sc d 214 144 [some (vR 373), some (vI f), some (vI t), some (vI i), l4] [] (wH (scp σ 385 (100 * f) 385 (100 * t) i) u) Q ↔ Ex sc d 214 180 [some (vR 373), some (vI f), some (vI t), some (vI 0), l4] [] (wH (scp σ 385 (100 * f) 385 (100 * t) 100) u) Q) := by
  intro k
  induction k with
  | zero =>
    intro i h0 hk
    obtain rfl : i = 100 := by omega
    rw [x214_144]
    simp (disch := first | omega | exact notL_I | exact notL_N | exact notL_R | exact oM | exact catS_le (Nat.le_of_ble_eq_true rfl) | rfl) only [x214_0, x214_1, x214_2, x214_3, x214_6, x214_7, x214_8, x214_9, x214_12, x214_15, x214_16, x214_19, x214_22, x214_23, x214_24, x214_25, x214_26, x214_27, x214_30, x214_33, x214_34, x214_35, x214_36, x214_37, x214_38, x214_39, x214_40, x214_43, x214_46, x214_47, x214_48, x214_49, x214_50, x214_51, x214_54, x214_57, x214_58, x214_59, x214_60, x214_61, x214_62, x214_63, x214_64, x214_67, x214_70, x214_71, x214_72, x214_73, x214_74, x214_75, x214_78, x214_81, x214_82, x214_83, x214_84, x214_85, x214_86, x214_87, x214_88, x214_90, x214_92, x214_93, x214_96, x214_97, x214_100, x214_101, x214_104, x214_105, x214_106, x214_107, x214_108, x214_109, x214_111, x214_112, x214_113, x214_116, x214_117, x214_120, x214_121, x214_122, x214_123, x214_124, x214_125, x214_127, x214_128, x214_129, x214_130, x214_133, x214_136, x214_139, x214_142, x214_143, x214_145, x214_147, x214_150, x214_151, x214_154, x214_156, x214_157, x214_158, x214_159, x214_160, x214_161, x214_164, x214_166, x214_167, x214_168, x214_169, x214_170, x214_171, x214_172, x214_175, x214_178, x214_179, x214_181, x214_184, x214_187, x214_188, x214_191, x214_194, x214_195, x214_196, x214_197, x214_198, x214_199, x214_202, x214_205, x214_206, x214_207, x214_208, x214_209, x214_210, x214_211, x214_214, x214_217, x214_218, x214_221, x214_222, x214_223, x214_226, x214_227, x214_228, x214_229, x214_230, x214_233, x214_234, x214_235, x214_238, x214_239, x214_240, x214_241, x214_242, x214_245, x214_246, x214_247, x214_250, x214_251, x214_252, x214_253, if_pos, if_neg, ↓reduceIte, not_true_eq_false, not_false_eq_true]
  | succ k ih =>
    intro i h0 hk
    have w := hw i h0 (by omega)
    have e : scp σ 385 (100 * f) 385 (100 * t) i 385 (100 * f + i) = σ 385 (100 * f + i) := by rw [scp_at, if_neg (by omega)]
    rw [x214_144]
    simp (disch := first | omega | exact notL_I | exact notL_N | exact notL_R | exact oM | exact catS_le (Nat.le_of_ble_eq_true rfl) | rfl) only [x214_0, x214_1, x214_2, x214_3, x214_6, x214_7, x214_8, x214_9, x214_12, x214_15, x214_16, x214_19, x214_22, x214_23, x214_24, x214_25, x214_26, x214_27, x214_30, x214_33, x214_34, x214_35, x214_36, x214_37, x214_38, x214_39, x214_40, x214_43, x214_46, x214_47, x214_48, x214_49, x214_50, x214_51, x214_54, x214_57, x214_58, x214_59, x214_60, x214_61, x214_62, x214_63, x214_64, x214_67, x214_70, x214_71, x214_72, x214_73, x214_74, x214_75, x214_78, x214_81, x214_82, x214_83, x214_84, x214_85, x214_86, x214_87, x214_88, x214_90, x214_92, x214_93, x214_96, x214_97, x214_100, x214_101, x214_104, x214_105, x214_106, x214_107, x214_108, x214_109, x214_111, x214_112, x214_113, x214_116, x214_117, x214_120, x214_121, x214_122, x214_123, x214_124, x214_125, x214_127, x214_128, x214_129, x214_130, x214_133, x214_136, x214_139, x214_142, x214_143, x214_145, x214_147, x214_150, x214_151, x214_154, x214_156, x214_157, x214_158, x214_159, x214_160, x214_161, x214_164, x214_166, x214_167, x214_168, x214_169, x214_170, x214_171, x214_172, x214_175, x214_178, x214_179, x214_181, x214_184, x214_187, x214_188, x214_191, x214_194, x214_195, x214_196, x214_197, x214_198, x214_199, x214_202, x214_205, x214_206, x214_207, x214_208, x214_209, x214_210, x214_211, x214_214, x214_217, x214_218, x214_221, x214_222, x214_223, x214_226, x214_227, x214_228, x214_229, x214_230, x214_233, x214_234, x214_235, x214_238, x214_239, x214_240, x214_241, x214_242, x214_245, x214_246, x214_247, x214_250, x214_251, x214_252, x214_253, gM_named, RM_named, WM_named, e, if_pos, if_neg, ↓reduceIte, not_true_eq_false, not_false_eq_true]
    rw [scp_su h0 rfl rfl]
    exact ih (i + 1) (by omega) (by omega)
theorem l_copies1 {f t : Int} (f1 : 0 ≤ f) (f2 : f ≤ 4) (t1 : 0 ≤ t) (t2 : t ≤ 4) (ft : f ≠ t) {R : Prop} (hR : ∀ l4 : Option V, Ex sc d 214 142 [some (vR 373), some (vI f), some (vI t), some (vI 200), l4] [] (wH (cpN σ f t 200 600) u) Q ↔ R) : ∀ (k : Nat) (n : Int) (l4 : Option V), 0 ≤ n → n + k = 200 → (Ex sc d 214 8 [some (vR 373), some (vI f), some (vI t), some (vI n), l4] [] (wH (cpN σ f t n (3 * n)) u) Q ↔ R) := by
  intro k
  induction k with
  | zero =>
    intro n l4 h0 hk
    obtain rfl : n = 200 := by omega
    rw [x214_8]
    simp (disch := first | omega | exact notL_I | exact notL_N | exact notL_R | exact oM | exact catS_le (Nat.le_of_ble_eq_true rfl) | rfl) only [x214_0, x214_1, x214_2, x214_3, x214_6, x214_7, x214_9, x214_12, x214_15, x214_16, x214_19, x214_22, x214_23, x214_24, x214_25, x214_26, x214_27, x214_30, x214_33, x214_34, x214_35, x214_36, x214_37, x214_38, x214_39, x214_40, x214_43, x214_46, x214_47, x214_48, x214_49, x214_50, x214_51, x214_54, x214_57, x214_58, x214_59, x214_60, x214_61, x214_62, x214_63, x214_64, x214_67, x214_70, x214_71, x214_72, x214_73, x214_74, x214_75, x214_78, x214_81, x214_82, x214_83, x214_84, x214_85, x214_86, x214_87, x214_88, x214_92, x214_93, x214_96, x214_97, x214_100, x214_101, x214_104, x214_105, x214_106, x214_107, x214_108, x214_109, x214_111, x214_112, x214_113, x214_116, x214_117, x214_120, x214_121, x214_122, x214_123, x214_124, x214_125, x214_127, x214_128, x214_129, x214_130, x214_133, x214_139, x214_143, x214_144, x214_145, x214_147, x214_150, x214_151, x214_154, x214_156, x214_157, x214_158, x214_159, x214_160, x214_161, x214_164, x214_166, x214_167, x214_168, x214_169, x214_170, x214_171, x214_172, x214_175, x214_178, x214_179, x214_180, x214_181, x214_184, x214_187, x214_188, x214_191, x214_194, x214_195, x214_196, x214_197, x214_198, x214_199, x214_202, x214_205, x214_206, x214_207, x214_208, x214_209, x214_210, x214_211, x214_214, x214_217, x214_218, x214_221, x214_222, x214_223, x214_226, x214_227, x214_228, x214_229, x214_230, x214_233, x214_234, x214_235, x214_238, x214_239, x214_240, x214_241, x214_242, x214_245, x214_246, x214_247, x214_250, x214_251, x214_252, x214_253, if_pos, if_neg, ↓reduceIte, not_true_eq_false, not_false_eq_true]
    exact hR l4
  | succ k ih =>
    intro n l4 h0 hk
    have e7 : cpN σ f t n (3 * n) 377 (200 * f + n) = σ 377 (200 * f + n) := by
      unfold cpN
      rw [scp_ne (by omega), scp_ne (by omega), scp_ne (by omega), scp_at, if_neg (by omega)]
    have e8 : cpN σ f t n (3 * n) 378 (200 * f + n) = σ 378 (200 * f + n) := by
      unfold cpN
      rw [scp_ne (by omega), scp_ne (by omega), scp_at, if_neg (by omega), scp_ne (by omega)]
    have e0 : cpN σ f t n (3 * n) 380 (200 * f + n) = σ 380 (200 * f + n) := by
      unfold cpN
      rw [scp_ne (by omega), scp_at, if_neg (by omega), scp_ne (by omega), scp_ne (by omega)]
    have es : su (su (su (cpN σ f t n (3 * n)) 377 (200 * t + n) (σ 377 (200 * f + n))) 378 (200 * t + n) (σ 378 (200 * f + n))) 380 (200 * t + n) (σ 380 (200 * f + n)) = cpN σ f t (n + 1) (3 * n + 0) := by
      unfold cpN
      rw [su_scp (c := 377) (a := 379) (by omega) (by omega), su_scp (c := 378) (a := 379) (by omega) (by omega), su_scp (c := 380) (a := 379) (by omega) (by omega)]
      rw [su_scp (c := 377) (a := 380) (by omega) (by omega), su_scp (c := 377) (a := 378) (by omega) (by omega), scp_su (a := 377) h0 rfl rfl]
      rw [su_scp (c := 378) (a := 380) (by omega) (by omega), scp_su (a := 378) h0 (by rw [scp_ne (by omega)]) rfl]
      rw [scp_su (a := 380) h0 (by rw [scp_ne (by omega), scp_ne (by omega)]) rfl, Int.add_zero]
    have l0 := l_copies0 (sc := sc) (σ := σ) (u := u) (Q := Q) (d := d) f1 f2 t1 t2 ft h0 (by omega) 3 0 (by omega) (by omega)
    have i1 := ih (n + 1) (some (vI 3)) (by omega) (by omega)
    rw [x214_8]
    simp (disch := first | omega | exact notL_I | exact notL_N | exact notL_R | exact oM | exact catS_le (Nat.le_of_ble_eq_true rfl) | rfl) only [x214_0, x214_1, x214_2, x214_3, x214_6, x214_7, x214_9, x214_12, x214_15, x214_16, x214_19, x214_22, x214_23, x214_24, x214_25, x214_26, x214_27, x214_30, x214_33, x214_34, x214_35, x214_36, x214_37, x214_38, x214_39, x214_40, x214_43, x214_46, x214_47, x214_48, x214_49, x214_50, x214_51, x214_54, x214_57, x214_58, x214_59, x214_60, x214_61, x214_62, x214_63, x214_64, x214_67, x214_70, x214_71, x214_72, x214_73, x214_74, x214_75, x214_78, x214_81, x214_82, x214_83, x214_84, x214_85, x214_86, x214_87, x214_88, x214_92, x214_93, x214_96, x214_97, x214_100, x214_101, x214_104, x214_105, x214_106, x214_107, x214_108, x214_109, x214_111, x214_112, x214_113, x214_116, x214_117, x214_120, x214_121, x214_122, x214_123, x214_124, x214_125, x214_127, x214_128, x214_129, x214_130, x214_133, x214_139, x214_143, x214_144, x214_145, x214_147, x214_150, x214_151, x214_154, x214_156, x214_157, x214_158, x214_159, x214_160, x214_161, x214_164, x214_166, x214_167, x214_168, x214_169, x214_170, x214_171, x214_172, x214_175, x214_178, x214_179, x214_180, x214_181, x214_184, x214_187, x214_188, x214_191, x214_194, x214_195, x214_196, x214_197, x214_198, x214_199, x214_202, x214_205, x214_206, x214_207, x214_208, x214_209, x214_210, x214_211, x214_214, x214_217, x214_218, x214_221, x214_222, x214_223, x214_226, x214_227, x214_228, x214_229, x214_230, x214_233, x214_234, x214_235, x214_238, x214_239, x214_240, x214_241, x214_242, x214_245, x214_246, x214_247, x214_250, x214_251, x214_252, x214_253, gM_there, gM_rowTable, gM_byStep, RM_there, RM_rowTable, RM_byStep, WM_there, WM_rowTable, WM_byStep, e7, e8, e0, su_ne, es, if_pos, if_neg, ↓reduceIte, not_true_eq_false, not_false_eq_true]
    rw [l0]
    simp (disch := first | omega | exact notL_I | exact notL_N | exact notL_R | exact oM | exact catS_le (Nat.le_of_ble_eq_true rfl) | rfl) only [x214_136, x214_139]
    rw [show 3 * n + 3 = 3 * (n + 1) by omega]
    exact i1
theorem s_copies {f t : Int} (hd : 1 ≤ d) (W : WfM σ) (f1 : 0 ≤ f) (f2 : f ≤ 4) (t1 : 0 ≤ t) (t2 : t ≤ 4) (ft : f ≠ t) : Ex sc d 214 0 [some (vR 373), some (vI f), some (vI t), none, none] [] (wH σ u) Q ↔ Q (.inl none) (wH (cpH σ f t) u) := by
  have hw : ∀ k, 0 ≤ k → k < 100 → cpN (cpR σ f t) f t 200 600 385 (100 * f + k) = 0 ∨ cpN (cpR σ f t) f t 200 600 385 (100 * f + k) = 1 := by
    intro k k0 k1
    unfold cpN cpR
    rw [scp_ne (by omega), scp_ne (by omega), scp_ne (by omega), scp_ne (by omega), scp_ne (by omega), su_ne (by omega), scp_ne (by omega)]
    exact W.nam f1 f2 k0 (by omega)
  have e2 : ∀ l4 : Option V, Ex sc d 214 142 [some (vR 373), some (vI f), some (vI t), some (vI 200), l4] [] (wH (cpN (cpR σ f t) f t 200 600) u) Q ↔ Q (.inl none) (wH (cpH σ f t) u) := by
    intro l4
    have e3 := l_copies3 (sc := sc) (σ := cpN (cpR σ f t) f t 200 600) (u := u) (Q := Q) (d := d) f1 f2 t1 t2 ft hw (l4 := l4) 100 0 (by omega) (by omega)
    have e4 := l_copies4 (sc := sc) (σ := scp (cpN (cpR σ f t) f t 200 600) 385 (100 * f) 385 (100 * t) 100) (u := u) (Q := Q) (d := d) f1 f2 t1 t2 ft (l4 := l4) 1024 0 (by omega) (by omega)
    rw [scp_0] at e3 e4
    refine Iff.trans ?_ (e3.trans (e4.trans ?_))
    · simp (disch := first | omega | exact notL_I | exact notL_N | exact notL_R | exact oM | exact catS_le (Nat.le_of_ble_eq_true rfl) | rfl) only [x214_142, x214_143]
    · unfold cpH cpS
      have q : ∀ c, 381 ≤ c → c ≤ 383 → scp (cpN (cpR σ f t) f t 200 600) 385 (100 * f) 385 (100 * t) 100 c = σ c := by
        intro c c0 c1
        unfold cpN cpR
        rw [scp_ne (by omega), scp_ne (by omega), scp_ne (by omega), scp_ne (by omega), scp_ne (by omega), scp_ne (by omega), su_ne (by omega), scp_ne (by omega)]
      rw [q 381 (by omega) (by omega), q 382 (by omega) (by omega), q 383 (by omega) (by omega)]
  have e1 := l_copies1 (sc := sc) (σ := cpR σ f t) (u := u) (Q := Q) (d := d) f1 f2 t1 t2 ft e2 200 0 none (by omega) (by omega)
  rw [show cpN (cpR σ f t) f t 0 (3 * 0) = cpR σ f t by
    unfold cpN
    rw [show (3 : Int) * 0 = 0 from rfl, scp_0, scp_0, scp_0, scp_0]] at e1
  refine Iff.trans ?_ e1
  simp (disch := first | omega | exact notL_I | exact notL_N | exact notL_R | exact oM | exact catS_le (Nat.le_of_ble_eq_true rfl) | rfl) only [x214_0, x214_1, x214_2, x214_3, x214_6, x214_7, s_rulesOf, Kc_none]
end R8
