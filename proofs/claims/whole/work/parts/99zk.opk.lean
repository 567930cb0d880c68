/-! names in rows are counted (reference): rows, all -/
section Ok
variable {sc : Scr} {d : Nat} {σ : St}
/-- a row is done -/
theorem l_nmX {h n c N : Int} {s : Int → Int} (hd : 5 ≤ d) (W : WfM σ) (h0 : 0 ≤ h) (h4 : h ≤ 4) (n0 : 0 ≤ n) (n1 : n ≤ 199) (t1 : σ 377 (200 * h + n) = 1) (c0 : 0 ≤ c) (c3 : c ≤ 3) (cm : c = σ 374 (26 * h + σ 378 (200 * h + n))) {l5 : Option V} (u : Bool × Nat × Nat × Int) (Q : Rs → HS → Prop) :
    Ex sc d 219 38 [some (vR 373), some (vI h), some (vI N), some (vI n), some (vI c), l5] [] (wH (snS σ s) u) Q ↔ Ex sc d 219 25 [some (vR 373), some (vI h), some (vI N), some (vI (n + 1)), some (vI c), l5] [] (wH (snS σ s) u) Q := by
  have wt := W.thr h0 h4 n0 n1
  have ta := W.tab h0 h4 n0 n1
  have q7 : snS σ s 377 = σ 377 := snS_ne (by omega)
  have q8 : snS σ s 378 = σ 378 := snS_ne (by omega)
  have q4 : snS σ s 374 = σ 374 := snS_ne (by omega)
  have it := fun u Q => s_isThere (sc := sc) (σ := snS σ s) (u := u) (Q := Q) (d := d - 1) (h := h) (n := n) h0 h4 n0 n1 (by rw [q7]; exact wt)
  rw [q7] at it
  simp only [if_pos t1] at it
  have tb := fun u Q => s_table (sc := sc) (σ := snS σ s) (u := u) (Q := Q) (d := d - 1) (h := h) (n := n) h0 h4 n0 n1
  rw [q8] at tb
  have co := fun u Q => s_colsOf (sc := sc) (σ := snS σ s) (u := u) (Q := Q) (d := d - 1) (h := h) (t := σ 378 (200 * h + n)) h0 h4 ta.1 ta.2
  rw [q4, ← cm] at co
  rw [x219_38]
  by_cases e : c = 3
  · simp (disch := first | omega | exact notL_I | exact notL_N | exact notL_R | exact oM | exact catS_le (Nat.le_of_ble_eq_true rfl) | exact Nat.le_of_ble_eq_true rfl | rfl) only [x219_0, x219_1, x219_2, x219_3, x219_5, x219_8, x219_9, x219_12, x219_13, x219_14, x219_15, x219_18, x219_21, x219_22, x219_23, x219_24, x219_26, x219_27, x219_30, x219_31, x219_32, x219_35, x219_36, x219_40, x219_41, x219_44, x219_45, x219_46, x219_47, x219_50, x219_53, x219_55, x219_56, x219_57, x219_58, x219_59, x219_60, x219_63, x219_66, x219_69, x219_70, x219_71, x219_72, x219_74, x219_77, x219_79, x219_81, x219_84, x219_87, x219_88, x219_91, x219_93, x219_96, x219_97, x219_98, x219_101, x219_104, x219_105, x219_108, x219_110, x219_113, x219_114, x219_115, x219_116, x219_119, x219_122, x219_125, x219_128, x219_131, x219_132, if_pos, if_neg, ↓reduceIte, not_true_eq_false, not_false_eq_true]
  · simp (disch := first | omega | exact notL_I | exact notL_N | exact notL_R | exact oM | exact catS_le (Nat.le_of_ble_eq_true rfl) | exact Nat.le_of_ble_eq_true rfl | rfl) only [x219_0, x219_1, x219_2, x219_3, x219_5, x219_8, x219_9, x219_12, x219_13, x219_14, x219_15, x219_18, x219_21, x219_22, x219_23, x219_24, x219_26, x219_27, x219_30, x219_31, x219_32, x219_35, x219_36, x219_40, x219_41, x219_44, x219_45, x219_46, x219_47, x219_50, x219_53, x219_55, x219_56, x219_57, x219_58, x219_59, x219_60, x219_63, x219_66, x219_69, x219_70, x219_71, x219_72, x219_74, x219_77, x219_79, x219_81, x219_84, x219_87, x219_88, x219_91, x219_93, x219_96, x219_97, x219_98, x219_101, x219_104, x219_105, x219_108, x219_110, x219_113, x219_114, x219_115, x219_116, x219_119, x219_122, x219_125, x219_128, x219_131, x219_132, it, tb, co, Kc_some, if_pos, if_neg, ↓reduceIte, not_true_eq_false, not_false_eq_true]
theorem l_nmR {h n : Int} {s : Int → Int} (hd : 5 ≤ d) (W : WfM σ) (h0 : 0 ≤ h) (h4 : h ≤ 4) (n0 : 0 ≤ n) (n1 : n ≤ 199) (t1 : σ 377 (200 * h + n) = 1) (hm : 1 ≤ σ 374 (26 * h + σ 378 (200 * h + n))) (hs : s01 s) {l5 : Option V} (n5 : notL l5 = true) :
    ∃ c' x', ∀ (u : Bool × Nat × Nat × Int) (Q : Rs → HS → Prop), Ex sc d 219 38 [some (vR 373), some (vI h), some (vI (tabF s 100 0)), some (vI n), some (vI 0), l5] [] (wH (snS σ s) u) Q ↔ Ex sc d 219 25 [some (vR 373), some (vI h), some (vI (tabF (mkR s (rwR σ h n)) 100 0)), some (vI (n + 1)), some (vI c'), some (vI x')] [] (wH (snS σ (mkR s (rwR σ h n))) u) Q := by
  have ta := W.tab h0 h4 n0 n1
  have wc := W.col h0 h4 ta.1 ta.2
  have e3 : (rwR σ h n).2.2.1 = σ 379 (3 * (200 * h + n)) := rfl
  have e4 : (rwR σ h n).2.2.2.1 = if 2 ≤ σ 374 (26 * h + σ 378 (200 * h + n)) then σ 379 (3 * (200 * h + n) + 1) else -1 := rfl
  have e5 : (rwR σ h n).2.2.2.2 = if 3 ≤ σ 374 (26 * h + σ 378 (200 * h + n)) then σ 379 (3 * (200 * h + n) + 2) else -1 := rfl
  unfold mkR
  rw [e3, e4, e5]
  clear e3 e4 e5
  have T0 := l_nmT (sc := sc) (d := d) (σ := σ) (h := h) (n := n) (c := 0) (s := s) hd W h0 h4 n0 n1 t1 (by omega) (by omega) (by omega) hs n5
  rw [Int.add_zero, Int.zero_add] at T0
  have h1 := mk1_01 (x := σ 379 (3 * (200 * h + n))) hs
  by_cases m2 : 2 ≤ σ 374 (26 * h + σ 378 (200 * h + n))
  · rw [if_pos m2]
    have T1 := l_nmT (sc := sc) (d := d) (σ := σ) (h := h) (n := n) (c := 1) (s := mk1 s (σ 379 (3 * (200 * h + n)))) hd W h0 h4 n0 n1 t1 (by omega) (by omega) (by omega) h1 (l5 := some (vI (σ 379 (3 * (200 * h + n))))) notL_I
    have h2 := mk1_01 (x := σ 379 (3 * (200 * h + n) + 1)) h1
    rw [show (1 : Int) + 1 = 2 by omega] at T1
    by_cases m3 : 3 ≤ σ 374 (26 * h + σ 378 (200 * h + n))
    · rw [if_pos m3]
      have T2 := l_nmT (sc := sc) (d := d) (σ := σ) (h := h) (n := n) (c := 2) (s := mk1 (mk1 s (σ 379 (3 * (200 * h + n)))) (σ 379 (3 * (200 * h + n) + 1))) hd W h0 h4 n0 n1 t1 (by omega) (by omega) (by omega) h2 (l5 := some (vI (σ 379 (3 * (200 * h + n) + 1)))) notL_I
      rw [show (2 : Int) + 1 = 3 by omega] at T2
      exact ⟨3, _, fun u Q => (T0 u Q).trans ((T1 u Q).trans ((T2 u Q).trans (l_nmX hd W h0 h4 n0 n1 t1 (by omega) (by omega) (by omega) u Q)))⟩
    · rw [if_neg m3, mk1_n]
      exact ⟨2, _, fun u Q => (T0 u Q).trans ((T1 u Q).trans (l_nmX hd W h0 h4 n0 n1 t1 (by omega) (by omega) (by omega) u Q))⟩
  · rw [if_neg m2, if_neg (by omega), mk1_n, mk1_n]
    exact ⟨1, _, fun u Q => (T0 u Q).trans (l_nmX hd W h0 h4 n0 n1 t1 (by omega) (by omega) (by omega) u Q)⟩
theorem l_nmL {h : Int} (hd : 5 ≤ d) (W : WfM σ) (h0 : 0 ≤ h) (h4 : h ≤ 4) (hcol : ∀ n, 0 ≤ n → n < σ 381 h → σ 377 (200 * h + n) = 1 → 1 ≤ σ 374 (26 * h + σ 378 (200 * h + n))) : ∀ (k : Nat) (n : Int) (s : Int → Int) (l4 l5 : Option V), notL l4 = true → notL l5 = true → s01 s → 0 ≤ n → n + k = σ 381 h →
    ∀ (u : Bool × Nat × Nat × Int) (Q : Rs → HS → Prop), Ex sc d 219 25 [some (vR 373), some (vI h), some (vI (tabF s 100 0)), some (vI n), l4, l5] [] (wH (snS σ s) u) Q ↔ Q (.inl (some (vI (tabF ((rsF σ h k n).foldl mkR s) 100 0)))) (wH (snS σ ((rsF σ h k n).foldl mkR s)) u) := by
  have wn := W.nxt h0 h4
  have q1 : ∀ s, snS σ s 381 = σ 381 := fun s => snS_ne (by omega)
  intro k
  induction k with
  | zero =>
    intro n s l4 l5 n4 n5 hs n0 hn u Q
    rw [x219_25, rsF]
    simp (disch := first | omega | exact notL_I | exact notL_N | exact notL_R | exact oM | exact catS_le (Nat.le_of_ble_eq_true rfl) | exact Nat.le_of_ble_eq_true rfl | rfl) only [x219_0, x219_1, x219_2, x219_3, x219_5, x219_8, x219_9, x219_12, x219_13, x219_14, x219_15, x219_18, x219_21, x219_22, x219_23, x219_24, x219_26, x219_27, x219_30, x219_31, x219_32, x219_35, x219_36, x219_40, x219_41, x219_44, x219_45, x219_46, x219_47, x219_50, x219_53, x219_55, x219_56, x219_57, x219_58, x219_59, x219_60, x219_63, x219_66, x219_69, x219_70, x219_71, x219_72, x219_74, x219_77, x219_79, x219_81, x219_84, x219_87, x219_88, x219_91, x219_93, x219_96, x219_97, x219_98, x219_101, x219_104, x219_105, x219_108, x219_110, x219_113, x219_114, x219_115, x219_116, x219_119, x219_122, x219_125, x219_128, x219_131, x219_132, gM_nextRow, RM_nextRow, q1, if_pos, if_neg, ↓reduceIte, not_true_eq_false, not_false_eq_true]
    rfl
  | succ k ih =>
    intro n s l4 l5 n4 n5 hs n0 hn u Q
    have wt := W.thr h0 h4 n0 (show n ≤ 199 by omega)
    have st : Ex sc d 219 25 [some (vR 373), some (vI h), some (vI (tabF s 100 0)), some (vI n), l4, l5] [] (wH (snS σ s) u) Q ↔ Ex sc d 219 38 [some (vR 373), some (vI h), some (vI (tabF s 100 0)), some (vI n), some (vI 0), l5] [] (wH (snS σ s) u) Q := by
      rw [x219_25]
      simp (disch := first | assumption | omega | exact notL_I | exact notL_N | exact notL_R | exact catS_le (Nat.le_of_ble_eq_true rfl) | exact Nat.le_of_ble_eq_true rfl | exact ooRo (by assumption) | exact ooAt (by assumption) | exact ooRu (by assumption) | exact ooLo (by assumption) | exact ooHa (by assumption) | exact ooLe (by assumption) | exact ooFn | exact ooAn | exact ooPa | exact ooTo | exact ooWa | exact ooCh | rfl) only [x219_0, x219_1, x219_2, x219_3, x219_5, x219_8, x219_9, x219_12, x219_13, x219_14, x219_15, x219_18, x219_21, x219_22, x219_23, x219_24, x219_26, x219_27, x219_30, x219_31, x219_32, x219_35, x219_36, x219_40, x219_41, x219_44, x219_45, x219_46, x219_47, x219_50, x219_53, x219_55, x219_56, x219_57, x219_58, x219_59, x219_60, x219_63, x219_66, x219_69, x219_70, x219_71, x219_72, x219_74, x219_77, x219_79, x219_81, x219_84, x219_87, x219_88, x219_91, x219_93, x219_96, x219_97, x219_98, x219_101, x219_104, x219_105, x219_108, x219_110, x219_113, x219_114, x219_115, x219_116, x219_119, x219_122, x219_125, x219_128, x219_131, x219_132, gM_nextRow, RM_nextRow, q1, if_pos, if_neg, ↓reduceIte, not_true_eq_false, not_false_eq_true]
    rw [st, rsF]
    by_cases t1 : σ 377 (200 * h + n) = 1
    · rw [if_pos t1, List.foldl_cons]
      obtain ⟨c', x', r1⟩ := l_nmR (sc := sc) (d := d) (σ := σ) (h := h) (n := n) (s := s) hd W h0 h4 n0 (by omega) t1 (hcol n n0 (by omega) t1) hs n5
      rw [r1 u Q]
      exact ih (n + 1) (mkR s (rwR σ h n)) _ _ notL_I notL_I (mk1_01 (mk1_01 (mk1_01 hs))) (by omega) (by omega) u Q
    · rw [if_neg t1]
      have q7 : snS σ s 377 = σ 377 := snS_ne (by omega)
      have it := fun u Q => s_isThere (sc := sc) (σ := snS σ s) (u := u) (Q := Q) (d := d - 1) (h := h) (n := n) h0 h4 n0 (by omega) (by rw [q7]; exact wt)
      rw [q7] at it
      simp only [if_neg t1] at it
      rw [← ih (n + 1) s (some (vI 0)) l5 notL_I n5 hs (by omega) (by omega) u Q, x219_38]
      simp (disch := first | omega | exact notL_I | exact notL_N | exact notL_R | exact oM | exact catS_le (Nat.le_of_ble_eq_true rfl) | exact Nat.le_of_ble_eq_true rfl | rfl) only [x219_0, x219_1, x219_2, x219_3, x219_5, x219_8, x219_9, x219_12, x219_13, x219_14, x219_15, x219_18, x219_21, x219_22, x219_23, x219_24, x219_26, x219_27, x219_30, x219_31, x219_32, x219_35, x219_36, x219_40, x219_41, x219_44, x219_45, x219_46, x219_47, x219_50, x219_53, x219_55, x219_56, x219_57, x219_58, x219_59, x219_60, x219_63, x219_66, x219_69, x219_70, x219_71, x219_72, x219_74, x219_77, x219_79, x219_81, x219_84, x219_87, x219_88, x219_91, x219_93, x219_96, x219_97, x219_98, x219_101, x219_104, x219_105, x219_108, x219_110, x219_113, x219_114, x219_115, x219_116, x219_119, x219_122, x219_125, x219_128, x219_131, x219_132, it, Kc_some, if_pos, if_neg, ↓reduceIte, not_true_eq_false, not_false_eq_true]
end Ok
