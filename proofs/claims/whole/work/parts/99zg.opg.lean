/-! rows are told, both -/
def rvL (w : Rw) (c : Int) : Int := if c = 0 then w.1 else if c = 1 then w.2.1 else if c = 2 then w.2.2.1 else if c = 3 then w.2.2.2.1 else if c = 4 then w.2.2.2.2 else -1
def rgL : List Rw → Int → Int → Int
  | [], _, _ => -1
  | w :: L, q, c => if q = 0 then rvL w c else rgL L (q - 1) c
theorem rgL_at {c : Int} : ∀ (L : List Rw) (q : Int) (w : Rw), 0 ≤ q → L[q.toNat]? = some w → rgL L q c = rvL w c := by
  intro L
  induction L with
  | nil => intro q w _ h; cases h
  | cons a L ih =>
    intro q w q0 h
    rw [rgL]
    by_cases e : q = 0
    · rw [if_pos e]
      rw [e] at h
      have : a = w := Option.some.inj h
      rw [this]
    · rw [if_neg e]
      rw [show q.toNat = (q - 1).toNat + 1 by omega, List.getElem?_cons_succ] at h
      exact ih (q - 1) w (by omega) h
theorem rgL_no {c : Int} : ∀ (L : List Rw) (q : Int), q < 0 ∨ (L.length : Int) ≤ q → rgL L q c = -1 := by
  intro L
  induction L with
  | nil => intro q _; rfl
  | cons a L ih =>
    intro q h
    rw [List.length_cons] at h
    rw [rgL, if_neg (by omega)]
    exact ih (q - 1) (by omega)
section Oh
variable {sc : Scr} {d : Nat} {σ τ X : St} {A : AS}
set_option maxHeartbeats 1000000 in
theorem l_rowR {h p c : Int} (hd : 5 ≤ d) (W : WfM σ) (h0 : 0 ≤ h) (h2 : h ≤ 4) (hp : inR p) (hc : inR c) (hcol : ∀ n, 0 ≤ n → n < σ 381 h → σ 377 (200 * h + n) = 1 → 1 ≤ σ 374 (26 * h + σ 378 (200 * h + n))) : ∀ (k : Nat) (n i : Int), 0 ≤ i → i ≤ n → (p < 0 ∨ i ≤ p) → 0 ≤ n → n + k = σ 381 h →
    ∀ (u : Bool × Nat × Nat × Int) (Q : Rs → HS → Prop), Ex sc d 221 19 [some (vR 373), some (vI h), some (vI p), some (vI c), some (vI i), some (vI n)] [] (wH σ u) Q ↔ Q (.inl (some (vI (rgL (rsF σ h k n) (p - i) c)))) (wH σ u) := by
  have wn := W.nxt h0 h2
  obtain ⟨p1, p2⟩ := hp
  intro k
  induction k with
  | zero =>
    intro n i i0 iN ip n0 hn u Q
    rw [x221_19, rsF, rgL]
    simp (disch := first | omega | exact notL_I | exact notL_N | exact notL_R | exact oM | exact catS_le (Nat.le_of_ble_eq_true rfl) | exact Nat.le_of_ble_eq_true rfl | rfl) only [x221_0, x221_1, x221_2, x221_5, x221_8, x221_11, x221_12, x221_13, x221_14, x221_16, x221_17, x221_21, x221_22, x221_25, x221_26, x221_27, x221_30, x221_31, x221_32, x221_34, x221_37, x221_40, x221_43, x221_45, x221_46, x221_49, x221_50, x221_53, x221_55, x221_58, x221_59, x221_60, x221_63, x221_64, x221_65, x221_67, x221_70, x221_73, x221_74, x221_75, x221_76, x221_77, x221_78, x221_79, x221_80, x221_82, x221_85, x221_88, x221_89, x221_92, x221_95, x221_96, x221_97, x221_99, x221_100, x221_101, x221_102, x221_105, x221_108, x221_109, x221_110, x221_113, x221_116, x221_119, x221_120, gM_nextRow, RM_nextRow, if_pos, if_neg, ↓reduceIte, not_true_eq_false, not_false_eq_true]
  | succ k ih =>
    intro n i i0 iN ip n0 hn u Q
    have wt := W.thr h0 h2 n0 (show n ≤ 199 by omega)
    have it := fun u Q => s_isThere (sc := sc) (σ := σ) (u := u) (Q := Q) (d := d - 1) (h := h) (n := n) h0 h2 n0 (by omega) wt
    rw [x221_19, rsF]
    by_cases t1 : σ 377 (200 * h + n) = 1
    · simp only [if_pos t1] at it
      rw [if_pos t1, rgL]
      by_cases e : i = p
      · rw [if_pos (by omega)]
        have ta := W.tab h0 h2 n0 (show n ≤ 199 by omega)
        have hm := hcol n n0 (by omega) t1
        have wc := W.col h0 h2 ta.1 ta.2
        have tb := fun u Q => s_table (sc := sc) (σ := σ) (u := u) (Q := Q) (d := d - 1) (h := h) (n := n) h0 h2 n0 (by omega)
        have co := fun u Q => s_colsOf (sc := sc) (σ := σ) (u := u) (Q := Q) (d := d - 1) (h := h) (t := σ 378 (200 * h + n)) h0 h2 ta.1 ta.2
        have is1 := fun u Q => s_isIn (sc := sc) (σ := σ) (u := u) (Q := Q) (d := d - 1) (v := c) (a := 2) (b := 1 + σ 374 (26 * h + σ 378 (200 * h + n))) hc ⟨by decide, by decide⟩ ⟨by omega, by omega⟩
        have e1 : (rwR σ h n).1 = n := rfl
        have e2 : (rwR σ h n).2.1 = σ 378 (200 * h + n) := rfl
        have e3 : (rwR σ h n).2.2.1 = σ 379 (3 * (200 * h + n)) := rfl
        have e4 : (rwR σ h n).2.2.2.1 = if 2 ≤ σ 374 (26 * h + σ 378 (200 * h + n)) then σ 379 (3 * (200 * h + n) + 1) else -1 := rfl
        have e5 : (rwR σ h n).2.2.2.2 = if 3 ≤ σ 374 (26 * h + σ 378 (200 * h + n)) then σ 379 (3 * (200 * h + n) + 2) else -1 := rfl
        have tm := fun (q : Int) (q0 : 0 ≤ q) (q2 : q ≤ 2) u Q => s_term (sc := sc) (σ := σ) (u := u) (Q := Q) (d := d - 1) (h := h) (n := n) (c := q) h0 h2 n0 (by omega) q0 q2
        unfold rvL
        rw [e1, e2, e3, e4, e5]
        clear e1 e2 e3 e4 e5
        obtain ⟨c1, c2⟩ := hc
        generalize σ 374 (26 * h + σ 378 (200 * h + n)) = m at *
        by_cases q0 : c = 0
        · rw [if_pos q0]
          simp (disch := first | omega | exact notL_I | exact notL_N | exact notL_R | exact oM | exact catS_le (Nat.le_of_ble_eq_true rfl) | exact Nat.le_of_ble_eq_true rfl | rfl) only [x221_0, x221_1, x221_2, x221_5, x221_8, x221_11, x221_12, x221_13, x221_14, x221_16, x221_17, x221_21, x221_22, x221_25, x221_26, x221_27, x221_30, x221_31, x221_32, x221_34, x221_37, x221_40, x221_43, x221_45, x221_46, x221_49, x221_50, x221_53, x221_55, x221_58, x221_59, x221_60, x221_63, x221_64, x221_65, x221_67, x221_70, x221_73, x221_74, x221_75, x221_76, x221_77, x221_78, x221_79, x221_80, x221_82, x221_85, x221_88, x221_89, x221_92, x221_95, x221_96, x221_97, x221_99, x221_100, x221_101, x221_102, x221_105, x221_108, x221_109, x221_110, x221_113, x221_116, x221_119, x221_120, gM_nextRow, RM_nextRow, it, Kc_some, if_pos, if_neg, ↓reduceIte, not_true_eq_false, not_false_eq_true]
        · rw [if_neg q0]
          by_cases q1 : c = 1
          · rw [if_pos q1]
            simp (disch := first | omega | exact notL_I | exact notL_N | exact notL_R | exact oM | exact catS_le (Nat.le_of_ble_eq_true rfl) | exact Nat.le_of_ble_eq_true rfl | rfl) only [x221_0, x221_1, x221_2, x221_5, x221_8, x221_11, x221_12, x221_13, x221_14, x221_16, x221_17, x221_21, x221_22, x221_25, x221_26, x221_27, x221_30, x221_31, x221_32, x221_34, x221_37, x221_40, x221_43, x221_45, x221_46, x221_49, x221_50, x221_53, x221_55, x221_58, x221_59, x221_60, x221_63, x221_64, x221_65, x221_67, x221_70, x221_73, x221_74, x221_75, x221_76, x221_77, x221_78, x221_79, x221_80, x221_82, x221_85, x221_88, x221_89, x221_92, x221_95, x221_96, x221_97, x221_99, x221_100, x221_101, x221_102, x221_105, x221_108, x221_109, x221_110, x221_113, x221_116, x221_119, x221_120, gM_nextRow, RM_nextRow, it, tb, Kc_some, if_pos, if_neg, ↓reduceIte, not_true_eq_false, not_false_eq_true]
          · rw [if_neg q1]
            by_cases qi : 2 ≤ c ∧ c ≤ 1 + m
            · simp only [if_pos qi] at is1
              have t9 := tm (c - 2) (by omega) (by omega)
              by_cases q2 : c = 2
              · rw [if_pos q2]
                rw [show 3 * (200 * h + n) + (c - 2) = 3 * (200 * h + n) by omega] at t9
                simp (disch := first | omega | exact notL_I | exact notL_N | exact notL_R | exact oM | exact catS_le (Nat.le_of_ble_eq_true rfl) | exact Nat.le_of_ble_eq_true rfl | rfl) only [x221_0, x221_1, x221_2, x221_5, x221_8, x221_11, x221_12, x221_13, x221_14, x221_16, x221_17, x221_21, x221_22, x221_25, x221_26, x221_27, x221_30, x221_31, x221_32, x221_34, x221_37, x221_40, x221_43, x221_45, x221_46, x221_49, x221_50, x221_53, x221_55, x221_58, x221_59, x221_60, x221_63, x221_64, x221_65, x221_67, x221_70, x221_73, x221_74, x221_75, x221_76, x221_77, x221_78, x221_79, x221_80, x221_82, x221_85, x221_88, x221_89, x221_92, x221_95, x221_96, x221_97, x221_99, x221_100, x221_101, x221_102, x221_105, x221_108, x221_109, x221_110, x221_113, x221_116, x221_119, x221_120, gM_nextRow, RM_nextRow, it, tb, co, is1, t9, Kc_some, if_pos, if_neg, ↓reduceIte, not_true_eq_false, not_false_eq_true]
              · rw [if_neg q2]
                by_cases q3 : c = 3
                · rw [if_pos q3, if_pos (by omega)]
                  rw [show 3 * (200 * h + n) + (c - 2) = 3 * (200 * h + n) + 1 by omega] at t9
                  simp (disch := first | omega | exact notL_I | exact notL_N | exact notL_R | exact oM | exact catS_le (Nat.le_of_ble_eq_true rfl) | exact Nat.le_of_ble_eq_true rfl | rfl) only [x221_0, x221_1, x221_2, x221_5, x221_8, x221_11, x221_12, x221_13, x221_14, x221_16, x221_17, x221_21, x221_22, x221_25, x221_26, x221_27, x221_30, x221_31, x221_32, x221_34, x221_37, x221_40, x221_43, x221_45, x221_46, x221_49, x221_50, x221_53, x221_55, x221_58, x221_59, x221_60, x221_63, x221_64, x221_65, x221_67, x221_70, x221_73, x221_74, x221_75, x221_76, x221_77, x221_78, x221_79, x221_80, x221_82, x221_85, x221_88, x221_89, x221_92, x221_95, x221_96, x221_97, x221_99, x221_100, x221_101, x221_102, x221_105, x221_108, x221_109, x221_110, x221_113, x221_116, x221_119, x221_120, gM_nextRow, RM_nextRow, it, tb, co, is1, t9, Kc_some, if_pos, if_neg, ↓reduceIte, not_true_eq_false, not_false_eq_true]
                · rw [if_neg q3, if_pos (by omega), if_pos (by omega)]
                  rw [show 3 * (200 * h + n) + (c - 2) = 3 * (200 * h + n) + 2 by omega] at t9
                  simp (disch := first | omega | exact notL_I | exact notL_N | exact notL_R | exact oM | exact catS_le (Nat.le_of_ble_eq_true rfl) | exact Nat.le_of_ble_eq_true rfl | rfl) only [x221_0, x221_1, x221_2, x221_5, x221_8, x221_11, x221_12, x221_13, x221_14, x221_16, x221_17, x221_21, x221_22, x221_25, x221_26, x221_27, x221_30, x221_31, x221_32, x221_34, x221_37, x221_40, x221_43, x221_45, x221_46, x221_49, x221_50, x221_53, x221_55, x221_58, x221_59, x221_60, x221_63, x221_64, x221_65, x221_67, x221_70, x221_73, x221_74, x221_75, x221_76, x221_77, x221_78, x221_79, x221_80, x221_82, x221_85, x221_88, x221_89, x221_92, x221_95, x221_96, x221_97, x221_99, x221_100, x221_101, x221_102, x221_105, x221_108, x221_109, x221_110, x221_113, x221_116, x221_119, x221_120, gM_nextRow, RM_nextRow, it, tb, co, is1, t9, Kc_some, if_pos, if_neg, ↓reduceIte, not_true_eq_false, not_false_eq_true]
            · simp only [if_neg qi] at is1
              have ev : (if c = 2 then σ 379 (3 * (200 * h + n)) else if c = 3 then (if 2 ≤ m then σ 379 (3 * (200 * h + n) + 1) else -1) else if c = 4 then (if 3 ≤ m then σ 379 (3 * (200 * h + n) + 2) else -1) else -1) = -1 := by
                by_cases q2 : c = 2
                · omega
                · rw [if_neg q2]
                  by_cases q3 : c = 3
                  · rw [if_pos q3, if_neg (by omega)]
                  · rw [if_neg q3]
                    by_cases q4 : c = 4
                    · rw [if_pos q4, if_neg (by omega)]
                    · rw [if_neg q4]
              rw [ev]
              simp (disch := first | omega | exact notL_I | exact notL_N | exact notL_R | exact oM | exact catS_le (Nat.le_of_ble_eq_true rfl) | exact Nat.le_of_ble_eq_true rfl | rfl) only [x221_0, x221_1, x221_2, x221_5, x221_8, x221_11, x221_12, x221_13, x221_14, x221_16, x221_17, x221_21, x221_22, x221_25, x221_26, x221_27, x221_30, x221_31, x221_32, x221_34, x221_37, x221_40, x221_43, x221_45, x221_46, x221_49, x221_50, x221_53, x221_55, x221_58, x221_59, x221_60, x221_63, x221_64, x221_65, x221_67, x221_70, x221_73, x221_74, x221_75, x221_76, x221_77, x221_78, x221_79, x221_80, x221_82, x221_85, x221_88, x221_89, x221_92, x221_95, x221_96, x221_97, x221_99, x221_100, x221_101, x221_102, x221_105, x221_108, x221_109, x221_110, x221_113, x221_116, x221_119, x221_120, gM_nextRow, RM_nextRow, it, tb, co, is1, Kc_some, if_pos, if_neg, ↓reduceIte, not_true_eq_false, not_false_eq_true]
      · rw [if_neg (by omega)]
        have := ih (n + 1) (i + 1) (by omega) (by omega) (by omega) (by omega) (by omega) u Q
        rw [show p - i - 1 = p - (i + 1) by omega, ← this]
        simp (disch := first | omega | exact notL_I | exact notL_N | exact notL_R | exact oM | exact catS_le (Nat.le_of_ble_eq_true rfl) | exact Nat.le_of_ble_eq_true rfl | rfl) only [x221_0, x221_1, x221_2, x221_5, x221_8, x221_11, x221_12, x221_13, x221_14, x221_16, x221_17, x221_21, x221_22, x221_25, x221_26, x221_27, x221_30, x221_31, x221_32, x221_34, x221_37, x221_40, x221_43, x221_45, x221_46, x221_49, x221_50, x221_53, x221_55, x221_58, x221_59, x221_60, x221_63, x221_64, x221_65, x221_67, x221_70, x221_73, x221_74, x221_75, x221_76, x221_77, x221_78, x221_79, x221_80, x221_82, x221_85, x221_88, x221_89, x221_92, x221_95, x221_96, x221_97, x221_99, x221_100, x221_101, x221_102, x221_105, x221_108, x221_109, x221_110, x221_113, x221_116, x221_119, x221_120, gM_nextRow, RM_nextRow, it, Kc_some, if_pos, if_neg, ↓reduceIte, not_true_eq_false, not_false_eq_true]
    · simp only [if_neg t1] at it
      rw [if_neg t1, ← ih (n + 1) i i0 (by omega) ip (by omega) (by omega) u Q]
      simp (disch := first | omega | exact notL_I | exact notL_N | exact notL_R | exact oM | exact catS_le (Nat.le_of_ble_eq_true rfl) | exact Nat.le_of_ble_eq_true rfl | rfl) only [x221_0, x221_1, x221_2, x221_5, x221_8, x221_11, x221_12, x221_13, x221_14, x221_16, x221_17, x221_21, x221_22, x221_25, x221_26, x221_27, x221_30, x221_31, x221_32, x221_34, x221_37, x221_40, x221_43, x221_45, x221_46, x221_49, x221_50, x221_53, x221_55, x221_58, x221_59, x221_60, x221_63, x221_64, x221_65, x221_67, x221_70, x221_73, x221_74, x221_75, x221_76, x221_77, x221_78, x221_79, x221_80, x221_82, x221_85, x221_88, x221_89, x221_92, x221_95, x221_96, x221_97, x221_99, x221_100, x221_101, x221_102, x221_105, x221_108, x221_109, x221_110, x221_113, x221_116, x221_119, x221_120, gM_nextRow, RM_nextRow, it, Kc_some, if_pos, if_neg, ↓reduceIte, not_true_eq_false, not_false_eq_true]
end Oh
