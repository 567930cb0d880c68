/-! a row is put, both: to the end -/
section Of
variable {sc : Scr} {d : Nat} {σ τ X : St} {A : AS}
theorem m_chkP {h t x y z m : Int} (hd : 10 ≤ d) (h0 : 0 ≤ h) (h2 : h ≤ 2) (ht : 0 ≤ t ∧ t ≤ 25) (hx : inR x) (hy : inR y) (hz : inR z) (hm : su X 373 0 0 374 (26 * h + t) = m) (m1 : 1 ≤ m) (m3 : m ≤ 3) (u : Bool × Nat × Nat × Int) (Q : Rs → HS → Prop) :
    (tmOk m x y z → (Ex sc d 222 0 [some (vR 373), some (vI h), some (vI t), some (vI x), some (vI y), some (vI z), none, none] [] (wH X u) Q ↔ Ex sc d 222 79 [some (vR 373), some (vI h), some (vI t), some (vI x), some (vI y), some (vI z), some (vI m), none] [] (wH (su X 373 0 0) u) Q)) ∧ (¬ tmOk m x y z → (Ex sc d 222 0 [some (vR 373), some (vI h), some (vI t), some (vI x), some (vI y), some (vI z), none, none] [] (wH X u) Q ↔ Q (.inl (some (vI (-1)))) (wH (su X 373 0 0) u))) := by
  have ry := r_yes (sc := sc) (d := d - 1) (σ := X) (h := h) (by omega) h0 h2
  have fa := fun u Q => s_fails (sc := sc) (σ := X) (u := u) (Q := Q) (d := d - 1) (b := 0) (Or.inl rfl)
  have is1 := fun u Q => s_isIn (sc := sc) (σ := su X 373 0 0) (u := u) (Q := Q) (d := d - 1) (v := t) (a := 0) (b := 25) ⟨by omega, by omega⟩ ⟨by decide, by decide⟩ ⟨by decide, by decide⟩
  simp only [if_pos ht] at is1
  have co := fun u Q => s_colsOf (sc := sc) (σ := su X 373 0 0) (u := u) (Q := Q) (d := d - 1) (h := h) (t := t) h0 (by omega) ht.1 ht.2
  rw [hm] at co
  have tm : ∀ w : Int, inR w → ∃ c : Bool, (c = true ↔ isTm w) ∧ ∀ u Q, Ex sc (d - 1) 223 0 [some (vI w)] [] (wH (su X 373 0 0) u) Q ↔ Q (.inl (some (vI (bI c)))) (wH (su X 373 0 0) u) := fun w hw => by
    have q := fun u Q => s_isTerm (sc := sc) (σ := su X 373 0 0) (u := u) (Q := Q) (d := d - 1) (t := w) (by omega) hw
    by_cases e : isTm w
    · refine ⟨true, ⟨fun _ => e, fun _ => rfl⟩, fun u Q => ?_⟩
      have e' : (0 ≤ w ∧ w ≤ 99) ∨ (1000 ≤ w ∧ w ≤ 1099) := e
      rw [q u Q, if_pos e', bI_t]
    · refine ⟨false, ⟨(fun z => by cases z), fun z => absurd z e⟩, fun u Q => ?_⟩
      have e' : ¬ ((0 ≤ w ∧ w ≤ 99) ∨ (1000 ≤ w ∧ w ≤ 1099)) := e
      rw [q u Q, if_neg e', bI_f]
  obtain ⟨cx, ex, tx⟩ := tm x hx
  obtain ⟨cy, ey, ty⟩ := tm y hy
  obtain ⟨cz, ez, tz⟩ := tm z hz
  unfold tmOk
  rw [← ex, ← ey, ← ez]
  clear ex ey ez tm
  rcases (show m = 1 ∨ m = 2 ∨ m = 3 by omega) with rfl | rfl | rfl
  · cases cx
    · rw [bI_f] at tx
      refine ⟨(fun q => by cases q.1), fun _ => ?_⟩
      simp (disch := first | omega | exact notL_I | exact notL_N | exact notL_R | exact oM | exact catS_le (Nat.le_of_ble_eq_true rfl) | exact Nat.le_of_ble_eq_true rfl | rfl) only [x222_0, x222_1, x222_2, x222_5, x222_8, x222_11, x222_12, x222_13, x222_14, x222_15, x222_17, x222_20, x222_23, x222_24, x222_25, x222_26, x222_29, x222_32, x222_33, x222_34, x222_35, x222_36, x222_37, x222_40, x222_42, x222_43, x222_46, x222_49, x222_51, x222_52, x222_55, x222_57, x222_60, x222_63, x222_65, x222_66, x222_69, x222_71, x222_74, x222_77, x222_78, x222_80, x222_81, x222_82, x222_83, x222_85, x222_87, x222_90, x222_92, x222_94, x222_95, x222_98, x222_100, x222_101, x222_102, x222_103, x222_106, x222_108, x222_111, x222_112, x222_115, x222_116, x222_117, x222_120, x222_123, x222_124, x222_125, x222_126, x222_129, x222_130, x222_131, x222_132, x222_133, x222_134, x222_135, x222_136, x222_138, x222_139, x222_142, x222_144, x222_147, x222_148, x222_150, x222_151, x222_154, x222_156, x222_159, x222_160, x222_163, ry, fa, is1, co, tx, Kc_some, if_pos, if_neg, ↓reduceIte, not_true_eq_false, not_false_eq_true]
    · rw [bI_t] at tx
      refine ⟨fun _ => ?_, fun q => absurd ⟨rfl, (fun w => by omega), (fun w => by omega)⟩ q⟩
      simp (disch := first | omega | exact notL_I | exact notL_N | exact notL_R | exact oM | exact catS_le (Nat.le_of_ble_eq_true rfl) | exact Nat.le_of_ble_eq_true rfl | rfl) only [x222_0, x222_1, x222_2, x222_5, x222_8, x222_11, x222_12, x222_13, x222_14, x222_15, x222_17, x222_20, x222_23, x222_24, x222_25, x222_26, x222_29, x222_32, x222_33, x222_34, x222_35, x222_36, x222_37, x222_40, x222_42, x222_43, x222_46, x222_49, x222_51, x222_52, x222_55, x222_57, x222_60, x222_63, x222_65, x222_66, x222_69, x222_71, x222_74, x222_77, x222_78, x222_80, x222_81, x222_82, x222_83, x222_85, x222_87, x222_90, x222_92, x222_94, x222_95, x222_98, x222_100, x222_101, x222_102, x222_103, x222_106, x222_108, x222_111, x222_112, x222_115, x222_116, x222_117, x222_120, x222_123, x222_124, x222_125, x222_126, x222_129, x222_130, x222_131, x222_132, x222_133, x222_134, x222_135, x222_136, x222_138, x222_139, x222_142, x222_144, x222_147, x222_148, x222_150, x222_151, x222_154, x222_156, x222_159, x222_160, x222_163, ry, fa, is1, co, tx, Kc_some, if_pos, if_neg, ↓reduceIte, not_true_eq_false, not_false_eq_true]
  · cases cx
    · rw [bI_f] at tx
      refine ⟨(fun q => by cases q.1), fun _ => ?_⟩
      simp (disch := first | omega | exact notL_I | exact notL_N | exact notL_R | exact oM | exact catS_le (Nat.le_of_ble_eq_true rfl) | exact Nat.le_of_ble_eq_true rfl | rfl) only [x222_0, x222_1, x222_2, x222_5, x222_8, x222_11, x222_12, x222_13, x222_14, x222_15, x222_17, x222_20, x222_23, x222_24, x222_25, x222_26, x222_29, x222_32, x222_33, x222_34, x222_35, x222_36, x222_37, x222_40, x222_42, x222_43, x222_46, x222_49, x222_51, x222_52, x222_55, x222_57, x222_60, x222_63, x222_65, x222_66, x222_69, x222_71, x222_74, x222_77, x222_78, x222_80, x222_81, x222_82, x222_83, x222_85, x222_87, x222_90, x222_92, x222_94, x222_95, x222_98, x222_100, x222_101, x222_102, x222_103, x222_106, x222_108, x222_111, x222_112, x222_115, x222_116, x222_117, x222_120, x222_123, x222_124, x222_125, x222_126, x222_129, x222_130, x222_131, x222_132, x222_133, x222_134, x222_135, x222_136, x222_138, x222_139, x222_142, x222_144, x222_147, x222_148, x222_150, x222_151, x222_154, x222_156, x222_159, x222_160, x222_163, ry, fa, is1, co, tx, Kc_some, if_pos, if_neg, ↓reduceIte, not_true_eq_false, not_false_eq_true]
    · rw [bI_t] at tx
      cases cy
      · rw [bI_f] at ty
        refine ⟨(fun q => by cases q.2.1 (by omega)), fun _ => ?_⟩
        simp (disch := first | omega | exact notL_I | exact notL_N | exact notL_R | exact oM | exact catS_le (Nat.le_of_ble_eq_true rfl) | exact Nat.le_of_ble_eq_true rfl | rfl) only [x222_0, x222_1, x222_2, x222_5, x222_8, x222_11, x222_12, x222_13, x222_14, x222_15, x222_17, x222_20, x222_23, x222_24, x222_25, x222_26, x222_29, x222_32, x222_33, x222_34, x222_35, x222_36, x222_37, x222_40, x222_42, x222_43, x222_46, x222_49, x222_51, x222_52, x222_55, x222_57, x222_60, x222_63, x222_65, x222_66, x222_69, x222_71, x222_74, x222_77, x222_78, x222_80, x222_81, x222_82, x222_83, x222_85, x222_87, x222_90, x222_92, x222_94, x222_95, x222_98, x222_100, x222_101, x222_102, x222_103, x222_106, x222_108, x222_111, x222_112, x222_115, x222_116, x222_117, x222_120, x222_123, x222_124, x222_125, x222_126, x222_129, x222_130, x222_131, x222_132, x222_133, x222_134, x222_135, x222_136, x222_138, x222_139, x222_142, x222_144, x222_147, x222_148, x222_150, x222_151, x222_154, x222_156, x222_159, x222_160, x222_163, ry, fa, is1, co, tx, ty, Kc_some, if_pos, if_neg, ↓reduceIte, not_true_eq_false, not_false_eq_true]
      · rw [bI_t] at ty
        refine ⟨fun _ => ?_, fun q => absurd ⟨rfl, (fun _ => rfl), (fun w => by omega)⟩ q⟩
        simp (disch := first | omega | exact notL_I | exact notL_N | exact notL_R | exact oM | exact catS_le (Nat.le_of_ble_eq_true rfl) | exact Nat.le_of_ble_eq_true rfl | rfl) only [x222_0, x222_1, x222_2, x222_5, x222_8, x222_11, x222_12, x222_13, x222_14, x222_15, x222_17, x222_20, x222_23, x222_24, x222_25, x222_26, x222_29, x222_32, x222_33, x222_34, x222_35, x222_36, x222_37, x222_40, x222_42, x222_43, x222_46, x222_49, x222_51, x222_52, x222_55, x222_57, x222_60, x222_63, x222_65, x222_66, x222_69, x222_71, x222_74, x222_77, x222_78, x222_80, x222_81, x222_82, x222_83, x222_85, x222_87, x222_90, x222_92, x222_94, x222_95, x222_98, x222_100, x222_101, x222_102, x222_103, x222_106, x222_108, x222_111, x222_112, x222_115, x222_116, x222_117, x222_120, x222_123, x222_124, x222_125, x222_126, x222_129, x222_130, x222_131, x222_132, x222_133, x222_134, x222_135, x222_136, x222_138, x222_139, x222_142, x222_144, x222_147, x222_148, x222_150, x222_151, x222_154, x222_156, x222_159, x222_160, x222_163, ry, fa, is1, co, tx, ty, Kc_some, if_pos, if_neg, ↓reduceIte, not_true_eq_false, not_false_eq_true]
  · cases cx
    · rw [bI_f] at tx
      refine ⟨(fun q => by cases q.1), fun _ => ?_⟩
      simp (disch := first | omega | exact notL_I | exact notL_N | exact notL_R | exact oM | exact catS_le (Nat.le_of_ble_eq_true rfl) | exact Nat.le_of_ble_eq_true rfl | rfl) only [x222_0, x222_1, x222_2, x222_5, x222_8, x222_11, x222_12, x222_13, x222_14, x222_15, x222_17, x222_20, x222_23, x222_24, x222_25, x222_26, x222_29, x222_32, x222_33, x222_34, x222_35, x222_36, x222_37, x222_40, x222_42, x222_43, x222_46, x222_49, x222_51, x222_52, x222_55, x222_57, x222_60, x222_63, x222_65, x222_66, x222_69, x222_71, x222_74, x222_77, x222_78, x222_80, x222_81, x222_82, x222_83, x222_85, x222_87, x222_90, x222_92, x222_94, x222_95, x222_98, x222_100, x222_101, x222_102, x222_103, x222_106, x222_108, x222_111, x222_112, x222_115, x222_116, x222_117, x222_120, x222_123, x222_124, x222_125, x222_126, x222_129, x222_130, x222_131, x222_132, x222_133, x222_134, x222_135, x222_136, x222_138, x222_139, x222_142, x222_144, x222_147, x222_148, x222_150, x222_151, x222_154, x222_156, x222_159, x222_160, x222_163, ry, fa, is1, co, tx, Kc_some, if_pos, if_neg, ↓reduceIte, not_true_eq_false, not_false_eq_true]
    · rw [bI_t] at tx
      cases cy
      · rw [bI_f] at ty
        refine ⟨(fun q => by cases q.2.1 (by omega)), fun _ => ?_⟩
        simp (disch := first | omega | exact notL_I | exact notL_N | exact notL_R | exact oM | exact catS_le (Nat.le_of_ble_eq_true rfl) | exact Nat.le_of_ble_eq_true rfl | rfl) only [x222_0, x222_1, x222_2, x222_5, x222_8, x222_11, x222_12, x222_13, x222_14, x222_15, x222_17, x222_20, x222_23, x222_24, x222_25, x222_26, x222_29, x222_32, x222_33, x222_34, x222_35, x222_36, x222_37, x222_40, x222_42, x222_43, x222_46, x222_49, x222_51, x222_52, x222_55, x222_57, x222_60, x222_63, x222_65, x222_66, x222_69, x222_71, x222_74, x222_77, x222_78, x222_80, x222_81, x222_82, x222_83, x222_85, x222_87, x222_90, x222_92, x222_94, x222_95, x222_98, x222_100, x222_101, x222_102, x222_103, x222_106, x222_108, x222_111, x222_112, x222_115, x222_116, x222_117, x222_120, x222_123, x222_124, x222_125, x222_126, x222_129, x222_130, x222_131, x222_132, x222_133, x222_134, x222_135, x222_136, x222_138, x222_139, x222_142, x222_144, x222_147, x222_148, x222_150, x222_151, x222_154, x222_156, x222_159, x222_160, x222_163, ry, fa, is1, co, tx, ty, Kc_some, if_pos, if_neg, ↓reduceIte, not_true_eq_false, not_false_eq_true]
      · rw [bI_t] at ty
        cases cz
        · rw [bI_f] at tz
          refine ⟨(fun q => by cases q.2.2 (by omega)), fun _ => ?_⟩
          simp (disch := first | omega | exact notL_I | exact notL_N | exact notL_R | exact oM | exact catS_le (Nat.le_of_ble_eq_true rfl) | exact Nat.le_of_ble_eq_true rfl | rfl) only [x222_0, x222_1, x222_2, x222_5, x222_8, x222_11, x222_12, x222_13, x222_14, x222_15, x222_17, x222_20, x222_23, x222_24, x222_25, x222_26, x222_29, x222_32, x222_33, x222_34, x222_35, x222_36, x222_37, x222_40, x222_42, x222_43, x222_46, x222_49, x222_51, x222_52, x222_55, x222_57, x222_60, x222_63, x222_65, x222_66, x222_69, x222_71, x222_74, x222_77, x222_78, x222_80, x222_81, x222_82, x222_83, x222_85, x222_87, x222_90, x222_92, x222_94, x222_95, x222_98, x222_100, x222_101, x222_102, x222_103, x222_106, x222_108, x222_111, x222_112, x222_115, x222_116, x222_117, x222_120, x222_123, x222_124, x222_125, x222_126, x222_129, x222_130, x222_131, x222_132, x222_133, x222_134, x222_135, x222_136, x222_138, x222_139, x222_142, x222_144, x222_147, x222_148, x222_150, x222_151, x222_154, x222_156, x222_159, x222_160, x222_163, ry, fa, is1, co, tx, ty, tz, Kc_some, if_pos, if_neg, ↓reduceIte, not_true_eq_false, not_false_eq_true]
        · rw [bI_t] at tz
          refine ⟨fun _ => ?_, fun q => absurd ⟨rfl, (fun _ => rfl), (fun _ => rfl)⟩ q⟩
          simp (disch := first | omega | exact notL_I | exact notL_N | exact notL_R | exact oM | exact catS_le (Nat.le_of_ble_eq_true rfl) | exact Nat.le_of_ble_eq_true rfl | rfl) only [x222_0, x222_1, x222_2, x222_5, x222_8, x222_11, x222_12, x222_13, x222_14, x222_15, x222_17, x222_20, x222_23, x222_24, x222_25, x222_26, x222_29, x222_32, x222_33, x222_34, x222_35, x222_36, x222_37, x222_40, x222_42, x222_43, x222_46, x222_49, x222_51, x222_52, x222_55, x222_57, x222_60, x222_63, x222_65, x222_66, x222_69, x222_71, x222_74, x222_77, x222_78, x222_80, x222_81, x222_82, x222_83, x222_85, x222_87, x222_90, x222_92, x222_94, x222_95, x222_98, x222_100, x222_101, x222_102, x222_103, x222_106, x222_108, x222_111, x222_112, x222_115, x222_116, x222_117, x222_120, x222_123, x222_124, x222_125, x222_126, x222_129, x222_130, x222_131, x222_132, x222_133, x222_134, x222_135, x222_136, x222_138, x222_139, x222_142, x222_144, x222_147, x222_148, x222_150, x222_151, x222_154, x222_156, x222_159, x222_160, x222_163, ry, fa, is1, co, tx, ty, tz, Kc_some, if_pos, if_neg, ↓reduceIte, not_true_eq_false, not_false_eq_true]
theorem nrm_b {m x y z : Int} (h : tmOk m x y z) : (-1 ≤ x ∧ x ≤ 1099) ∧ (-1 ≤ (nrm m x y z).2.1 ∧ (nrm m x y z).2.1 ≤ 1099) ∧ (-1 ≤ (nrm m x y z).2.2 ∧ (nrm m x y z).2.2 ≤ 1099) := by
  obtain ⟨a, b, c⟩ := h
  have ax := isTm_ne a
  unfold nrm
  refine ⟨by omega, ?_, ?_⟩
  · dsimp only
    split
    · rename_i e; have := isTm_ne (b e); omega
    · omega
  · dsimp only
    split
    · rename_i e; have := isTm_ne (c e); omega
    · omega
/-- as the reference puts it: zeros beyond the columns -/
theorem nrm_0 {m x y z : Int} : nrm m x (if 1 < m then y else 0) (if 2 < m then z else 0) = nrm m x y z := by
  unfold nrm
  by_cases h2 : 2 ≤ m
  · rw [if_pos h2, if_pos (by omega), if_pos h2]
    by_cases h3 : 3 ≤ m
    · rw [if_pos h3, if_pos (by omega), if_pos h3]
    · rw [if_neg h3, if_neg h3]
  · rw [if_neg h2, if_neg h2, if_neg (by omega), if_neg (by omega)]
end Of
