/-! names in rows are counted (reference): the loops -/
section Oj
variable {sc : Scr} {d : Nat} {σ : St}
theorem tab_b {s : Int → Int} : 0 ≤ tabF s 100 0 ∧ tabF s 100 0 ≤ 100 := by
  have : ∀ (k : Nat) (i : Int), 0 ≤ tabF s k i ∧ tabF s k i ≤ k := by
    intro k
    induction k with
    | zero => intro i; rw [tabF]; omega
    | succ k ih => intro i; rw [tabF]; have := ih (i + 1); split <;> omega
  exact this 100 0
theorem snS_wf {s : Int → Int} (W : WfM σ) : WfM (snS σ s) := Dt.wf (σ := σ) ⟨fun c a b => snS_ne (by omega), by rw [snS_ne (by omega)]⟩ W
theorem l_nmT {h n c : Int} {s : Int → Int} (hd : 5 ≤ d) (W : WfM σ) (h0 : 0 ≤ h) (h4 : h ≤ 4) (n0 : 0 ≤ n) (n1 : n ≤ 199) (t1 : σ 377 (200 * h + n) = 1) (c0 : 0 ≤ c) (c2 : c ≤ 2) (cm : c < σ 374 (26 * h + σ 378 (200 * h + n))) (hs : s01 s) {l5 : Option V} (n5 : notL l5 = true) (u : Bool × Nat × Nat × Int) (Q : Rs → HS → Prop) :
    Ex sc d 219 38 [some (vR 373), some (vI h), some (vI (tabF s 100 0)), some (vI n), some (vI c), l5] [] (wH (snS σ s) u) Q ↔ Ex sc d 219 38 [some (vR 373), some (vI h), some (vI (tabF (mk1 s (σ 379 (3 * (200 * h + n) + c))) 100 0)), some (vI n), some (vI (c + 1)), some (vI (σ 379 (3 * (200 * h + n) + c)))] [] (wH (snS σ (mk1 s (σ 379 (3 * (200 * h + n) + c)))) u) Q := by
  have W' := snS_wf (s := s) W
  have wt := W.thr h0 h4 n0 n1
  have ta := W.tab h0 h4 n0 n1
  have wc := W.col h0 h4 ta.1 ta.2
  have tr := isTm_ne (W.ter h0 h4 n0 n1 c0 c2)
  have tr' := W.ter h0 h4 n0 n1 c0 c2
  have q7 : snS σ s 377 = σ 377 := snS_ne (by omega)
  have q8 : snS σ s 378 = σ 378 := snS_ne (by omega)
  have q9 : snS σ s 379 = σ 379 := snS_ne (by omega)
  have q4 : snS σ s 374 = σ 374 := snS_ne (by omega)
  have it := fun u Q => s_isThere (sc := sc) (σ := snS σ s) (u := u) (Q := Q) (d := d - 1) (h := h) (n := n) h0 h4 n0 n1 (by rw [q7]; exact wt)
  rw [q7] at it
  simp only [if_pos t1] at it
  have tb := fun u Q => s_table (sc := sc) (σ := snS σ s) (u := u) (Q := Q) (d := d - 1) (h := h) (n := n) h0 h4 n0 n1
  rw [q8] at tb
  have co := fun u Q => s_colsOf (sc := sc) (σ := snS σ s) (u := u) (Q := Q) (d := d - 1) (h := h) (t := σ 378 (200 * h + n)) h0 h4 ta.1 ta.2
  rw [q4] at co
  have tm := fun u Q => s_term (sc := sc) (σ := snS σ s) (u := u) (Q := Q) (d := d - 1) (h := h) (n := n) (c := c) h0 h4 n0 n1 c0 c2
  rw [q9] at tm
  have tbb := tab_b (s := s)
  generalize σ 379 (3 * (200 * h + n) + c) = x at *
  generalize σ 374 (26 * h + σ 378 (200 * h + n)) = m at *
  unfold isTm at tr'
  rw [x219_38]
  by_cases hx : 1000 ≤ x
  · have sx := hs (x - 1000) (by omega) (by omega)
    have sa : snS σ s 388 (x - 1000) = s (x - 1000) := by rw [snS_at]
    by_cases hz : s (x - 1000) = 0
    · have em : mk1 s x = bup s (x - 1000) 1 := by unfold mk1; rw [if_pos hx, if_pos hz]
      have et := tab_bup1 (C := s) (t := x - 1000) (v := 1) hz (by omega) 100 0 (by omega) (by omega)
      rw [em, et]
      simp (disch := first | omega | exact notL_I | exact notL_N | exact notL_R | exact oM | exact catS_le (Nat.le_of_ble_eq_true rfl) | exact Nat.le_of_ble_eq_true rfl | rfl) only [x219_0, x219_1, x219_2, x219_3, x219_5, x219_8, x219_9, x219_12, x219_13, x219_14, x219_15, x219_18, x219_21, x219_22, x219_23, x219_24, x219_25, x219_26, x219_27, x219_30, x219_31, x219_32, x219_35, x219_36, x219_40, x219_41, x219_44, x219_45, x219_46, x219_47, x219_50, x219_53, x219_55, x219_56, x219_57, x219_58, x219_59, x219_60, x219_63, x219_66, x219_69, x219_70, x219_71, x219_72, x219_74, x219_77, x219_79, x219_81, x219_84, x219_87, x219_88, x219_91, x219_93, x219_96, x219_97, x219_98, x219_101, x219_104, x219_105, x219_108, x219_110, x219_113, x219_114, x219_115, x219_116, x219_119, x219_122, x219_125, x219_128, x219_131, x219_132, it, tb, co, tm, gM_seen, RM_seen, WM_seen, sa, hz, snS_su, Kc_some, if_pos, if_neg, ↓reduceIte, not_true_eq_false, not_false_eq_true]
    · have em : mk1 s x = s := by unfold mk1; rw [if_pos hx, if_neg hz]
      rw [em]
      simp (disch := first | omega | exact notL_I | exact notL_N | exact notL_R | exact oM | exact catS_le (Nat.le_of_ble_eq_true rfl) | exact Nat.le_of_ble_eq_true rfl | rfl) only [x219_0, x219_1, x219_2, x219_3, x219_5, x219_8, x219_9, x219_12, x219_13, x219_14, x219_15, x219_18, x219_21, x219_22, x219_23, x219_24, x219_25, x219_26, x219_27, x219_30, x219_31, x219_32, x219_35, x219_36, x219_40, x219_41, x219_44, x219_45, x219_46, x219_47, x219_50, x219_53, x219_55, x219_56, x219_57, x219_58, x219_59, x219_60, x219_63, x219_66, x219_69, x219_70, x219_71, x219_72, x219_74, x219_77, x219_79, x219_81, x219_84, x219_87, x219_88, x219_91, x219_93, x219_96, x219_97, x219_98, x219_101, x219_104, x219_105, x219_108, x219_110, x219_113, x219_114, x219_115, x219_116, x219_119, x219_122, x219_125, x219_128, x219_131, x219_132, it, tb, co, tm, gM_seen, RM_seen, sa, Kc_some, if_pos, if_neg, ↓reduceIte, not_true_eq_false, not_false_eq_true]
  · have em : mk1 s x = s := by unfold mk1; rw [if_neg hx]
    rw [em]
    simp (disch := first | omega | exact notL_I | exact notL_N | exact notL_R | exact oM | exact catS_le (Nat.le_of_ble_eq_true rfl) | exact Nat.le_of_ble_eq_true rfl | rfl) only [x219_0, x219_1, x219_2, x219_3, x219_5, x219_8, x219_9, x219_12, x219_13, x219_14, x219_15, x219_18, x219_21, x219_22, x219_23, x219_24, x219_25, x219_26, x219_27, x219_30, x219_31, x219_32, x219_35, x219_36, x219_40, x219_41, x219_44, x219_45, x219_46, x219_47, x219_50, x219_53, x219_55, x219_56, x219_57, x219_58, x219_59, x219_60, x219_63, x219_66, x219_69, x219_70, x219_71, x219_72, x219_74, x219_77, x219_79, x219_81, x219_84, x219_87, x219_88, x219_91, x219_93, x219_96, x219_97, x219_98, x219_101, x219_104, x219_105, x219_108, x219_110, x219_113, x219_114, x219_115, x219_116, x219_119, x219_122, x219_125, x219_128, x219_131, x219_132, it, tb, co, tm, Kc_some, if_pos, if_neg, ↓reduceIte, not_true_eq_false, not_false_eq_true]
end Oj
