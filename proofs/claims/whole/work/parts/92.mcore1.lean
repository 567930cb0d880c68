/-! the core of the reference: marks, rows that go -/
section J1
variable {sc : Scr} {h : Int}
theorem l_stays0 {σ : St} {d : Nat} {u : Bool × Nat × Nat × Int} {Q : Rs → HS → Prop} {l2 l3 l4 : Option V} : ∀ (k : Nat) (i : Int), 0 ≤ i → i + k = 200 → (Ex sc d 261 84 [some (vR 373), some (vI h), l2, l3, l4, some (vI i)] [] (wH (fl σ 397 0 i 0) u) Q ↔ Ex sc d 261 106 [some (vR 373), some (vI h), l2, l3, l4, some (vI 200)] [] (wH (fl σ 397 0 200 0) u) Q) := by
  intro k
  induction k with
  | zero =>
    intro i i0 ik
    obtain rfl : i = 200 := by omega
    rw [x261_84]
    simp (disch := first | omega | exact notL_I | exact notL_N | exact notL_R | exact oM | exact catS_le (Nat.le_of_ble_eq_true rfl) | exact Nat.le_of_ble_eq_true rfl | rfl) only [x261_0, x261_1, x261_2, x261_5, x261_8, x261_11, x261_12, x261_13, x261_14, x261_15, x261_16, x261_19, x261_20, x261_21, x261_22, x261_24, x261_25, x261_28, x261_29, x261_30, x261_33, x261_34, x261_35, x261_36, x261_39, x261_42, x261_45, x261_48, x261_49, x261_52, x261_53, x261_54, x261_55, x261_56, x261_57, x261_60, x261_62, x261_64, x261_65, x261_68, x261_69, x261_70, x261_72, x261_75, x261_78, x261_81, x261_82, x261_86, x261_89, x261_92, x261_93, x261_96, x261_98, x261_99, x261_100, x261_103, x261_107, x261_109, x261_111, x261_112, x261_115, x261_116, x261_117, x261_120, x261_121, x261_122, x261_124, x261_127, x261_130, x261_131, x261_134, x261_135, x261_138, x261_140, x261_141, x261_142, x261_143, x261_146, x261_149, x261_150, x261_152, x261_154, x261_155, x261_158, x261_159, x261_160, x261_163, x261_164, x261_165, x261_167, x261_170, x261_173, x261_174, x261_177, x261_179, x261_180, x261_183, x261_186, x261_187, x261_190, x261_193, x261_195, x261_196, x261_197, x261_198, x261_201, x261_204, x261_207, x261_208, x261_209, x261_212, x261_213, x261_215, x261_217, x261_220, x261_223, x261_224, x261_227, x261_230, x261_231, x261_232, x261_234, x261_235, x261_236, x261_239, x261_242, x261_244, x261_245, x261_246, x261_247, x261_250, x261_253, x261_254, if_pos, if_neg, ↓reduceIte, not_true_eq_false, not_false_eq_true]
  | succ k ih =>
    intro i i0 ik
    rw [x261_84, ← ih (i + 1) (by omega) (by omega), ← fl_su i0]
    simp (disch := first | omega | exact notL_I | exact notL_N | exact notL_R | exact oM | exact catS_le (Nat.le_of_ble_eq_true rfl) | exact Nat.le_of_ble_eq_true rfl | rfl) only [x261_0, x261_1, x261_2, x261_5, x261_8, x261_11, x261_12, x261_13, x261_14, x261_15, x261_16, x261_19, x261_20, x261_21, x261_22, x261_24, x261_25, x261_28, x261_29, x261_30, x261_33, x261_34, x261_35, x261_36, x261_39, x261_42, x261_45, x261_48, x261_49, x261_52, x261_53, x261_54, x261_55, x261_56, x261_57, x261_60, x261_62, x261_64, x261_65, x261_68, x261_69, x261_70, x261_72, x261_75, x261_78, x261_81, x261_82, x261_86, x261_89, x261_92, x261_93, x261_96, x261_98, x261_99, x261_100, x261_103, x261_107, x261_109, x261_111, x261_112, x261_115, x261_116, x261_117, x261_120, x261_121, x261_122, x261_124, x261_127, x261_130, x261_131, x261_134, x261_135, x261_138, x261_140, x261_141, x261_142, x261_143, x261_146, x261_149, x261_150, x261_152, x261_154, x261_155, x261_158, x261_159, x261_160, x261_163, x261_164, x261_165, x261_167, x261_170, x261_173, x261_174, x261_177, x261_179, x261_180, x261_183, x261_186, x261_187, x261_190, x261_193, x261_195, x261_196, x261_197, x261_198, x261_201, x261_204, x261_207, x261_208, x261_209, x261_212, x261_213, x261_215, x261_217, x261_220, x261_223, x261_224, x261_227, x261_230, x261_231, x261_232, x261_234, x261_235, x261_236, x261_239, x261_242, x261_244, x261_245, x261_246, x261_247, x261_250, x261_253, x261_254, gM_stays, WM_stays, if_pos, if_neg, ↓reduceIte, not_true_eq_false, not_false_eq_true]
theorem l_stays1 {σ0 : St} {d : Nat} (W : WfM σ0) (hd : 1 ≤ d) (him : ∀ n, 0 ≤ n → n < σ0 381 3 → σ0 377 (600 + n) = 1 → 0 ≤ σ0 395 n ∧ σ0 395 n ≤ 199) {l2 l3 l4 : Option V} : ∀ (k : Nat) (i : Int) (τ : St), 0 ≤ i → i + k = σ0 381 3 → (∀ c, c ≠ 397 → τ c = σ0 c) → (∀ j, 0 ≤ j → j ≤ 199 → τ 397 j = 0 ∨ τ 397 j = 1) →
    ∃ ρ, (∀ c, c ≠ 397 → ρ c = σ0 c) ∧ (∀ j, 0 ≤ j → j ≤ 199 → (ρ 397 j = 0 ∨ ρ 397 j = 1) ∧ (ρ 397 j = 1 ↔ τ 397 j = 1 ∨ ∃ n, i ≤ n ∧ n < σ0 381 3 ∧ σ0 377 (600 + n) = 1 ∧ σ0 395 n = j)) ∧ ∀ (u : Bool × Nat × Nat × Int) (Q : Rs → HS → Prop), Ex sc d 261 109 [some (vR 373), some (vI h), l2, l3, l4, some (vI i)] [] (wH τ u) Q ↔ Ex sc d 261 149 [some (vR 373), some (vI h), l2, l3, l4, some (vI (σ0 381 3))] [] (wH ρ u) Q := by
  have wn := W.nxt (h := 3) (by omega) (by omega)
  intro k
  induction k with
  | zero =>
    intro i τ i0 ik F hb
    obtain rfl : i = σ0 381 3 := by omega
    refine ⟨τ, F, fun j j0 j1 => ⟨hb j j0 j1, ⟨Or.inl, fun z => z.elim id (fun ⟨n, a, b, _⟩ => by omega)⟩⟩, fun u Q => ?_⟩
    rw [x261_109]
    simp (disch := first | omega | exact notL_I | exact notL_N | exact notL_R | exact oM | exact catS_le (Nat.le_of_ble_eq_true rfl) | exact Nat.le_of_ble_eq_true rfl | rfl) only [x261_0, x261_1, x261_2, x261_5, x261_8, x261_11, x261_12, x261_13, x261_14, x261_15, x261_16, x261_19, x261_20, x261_21, x261_22, x261_24, x261_25, x261_28, x261_29, x261_30, x261_33, x261_34, x261_35, x261_36, x261_39, x261_42, x261_45, x261_48, x261_49, x261_52, x261_53, x261_54, x261_55, x261_56, x261_57, x261_60, x261_62, x261_64, x261_65, x261_68, x261_69, x261_70, x261_72, x261_75, x261_78, x261_81, x261_82, x261_86, x261_89, x261_92, x261_93, x261_96, x261_98, x261_99, x261_100, x261_103, x261_106, x261_107, x261_111, x261_112, x261_115, x261_116, x261_117, x261_120, x261_121, x261_122, x261_124, x261_127, x261_130, x261_131, x261_134, x261_135, x261_138, x261_140, x261_141, x261_142, x261_143, x261_146, x261_150, x261_152, x261_154, x261_155, x261_158, x261_159, x261_160, x261_163, x261_164, x261_165, x261_167, x261_170, x261_173, x261_174, x261_177, x261_179, x261_180, x261_183, x261_186, x261_187, x261_190, x261_193, x261_195, x261_196, x261_197, x261_198, x261_201, x261_204, x261_207, x261_208, x261_209, x261_212, x261_213, x261_215, x261_217, x261_220, x261_223, x261_224, x261_227, x261_230, x261_231, x261_232, x261_234, x261_235, x261_236, x261_239, x261_242, x261_244, x261_245, x261_246, x261_247, x261_250, x261_253, x261_254, gM_nextRow, RM_nextRow, F, if_pos, if_neg, ↓reduceIte, not_true_eq_false, not_false_eq_true]
  | succ k ih =>
    intro i τ i0 ik F hb
    have w3 := W.thr (h := 3) (n := i) (by omega) (by omega) i0 (by omega)
    have e6 : (200 : Int) * 3 + i = 600 + i := by omega
    rw [e6] at w3
    have e77 : τ 377 = σ0 377 := F 377 (by omega)
    have e81 : τ 381 = σ0 381 := F 381 (by omega)
    have e95 : τ 395 = σ0 395 := F 395 (by omega)
    have it := fun u Q => s_isThere (sc := sc) (σ := τ) (u := u) (Q := Q) (d := d - 1) (h := 3) (n := i) (by omega) (by omega) i0 (by omega) (by rw [e6, e77]; exact w3)
    rw [e6, e77] at it
    rcases w3 with w3 | w3
    · obtain ⟨ρ, y1, y2, y3⟩ := ih (i + 1) τ (by omega) (by omega) F hb
      refine ⟨ρ, y1, fun j j0 j1 => ⟨(y2 j j0 j1).1, (y2 j j0 j1).2.trans ?_⟩, fun u Q => ?_⟩
      · constructor
        · rintro (z | ⟨n, a, b, c⟩)
          · exact Or.inl z
          · exact Or.inr ⟨n, by omega, b, c⟩
        · rintro (z | ⟨n, a, b, c, e⟩)
          · exact Or.inl z
          · by_cases hn : n = i
            · subst hn
              omega
            · exact Or.inr ⟨n, by omega, b, c, e⟩
      · rw [← y3 u Q, x261_109]
        simp (disch := first | omega | exact notL_I | exact notL_N | exact notL_R | exact oM | exact catS_le (Nat.le_of_ble_eq_true rfl) | exact Nat.le_of_ble_eq_true rfl | rfl) only [x261_0, x261_1, x261_2, x261_5, x261_8, x261_11, x261_12, x261_13, x261_14, x261_15, x261_16, x261_19, x261_20, x261_21, x261_22, x261_24, x261_25, x261_28, x261_29, x261_30, x261_33, x261_34, x261_35, x261_36, x261_39, x261_42, x261_45, x261_48, x261_49, x261_52, x261_53, x261_54, x261_55, x261_56, x261_57, x261_60, x261_62, x261_64, x261_65, x261_68, x261_69, x261_70, x261_72, x261_75, x261_78, x261_81, x261_82, x261_86, x261_89, x261_92, x261_93, x261_96, x261_98, x261_99, x261_100, x261_103, x261_106, x261_107, x261_111, x261_112, x261_115, x261_116, x261_117, x261_120, x261_121, x261_122, x261_124, x261_127, x261_130, x261_131, x261_134, x261_135, x261_138, x261_140, x261_141, x261_142, x261_143, x261_146, x261_150, x261_152, x261_154, x261_155, x261_158, x261_159, x261_160, x261_163, x261_164, x261_165, x261_167, x261_170, x261_173, x261_174, x261_177, x261_179, x261_180, x261_183, x261_186, x261_187, x261_190, x261_193, x261_195, x261_196, x261_197, x261_198, x261_201, x261_204, x261_207, x261_208, x261_209, x261_212, x261_213, x261_215, x261_217, x261_220, x261_223, x261_224, x261_227, x261_230, x261_231, x261_232, x261_234, x261_235, x261_236, x261_239, x261_242, x261_244, x261_245, x261_246, x261_247, x261_250, x261_253, x261_254, gM_nextRow, RM_nextRow, e81, it, w3, Kc_some, if_pos, if_neg, ↓reduceIte, not_true_eq_false, not_false_eq_true]
    · have im := him i i0 (by omega) w3
      obtain ⟨ρ, y1, y2, y3⟩ := ih (i + 1) (su τ 397 (σ0 395 i) 1) (by omega) (by omega) (fun c hc => by rw [su_ne hc]; exact F c hc) (fun j j0 j1 => by
        by_cases e : j = σ0 395 i
        · subst e
          rw [su_eq]
          exact Or.inr rfl
        · rw [su_off e]
          exact hb j j0 j1)
      refine ⟨ρ, y1, fun j j0 j1 => ⟨(y2 j j0 j1).1, (y2 j j0 j1).2.trans ?_⟩, fun u Q => ?_⟩
      · constructor
        · rintro (z | ⟨n, a, b, c⟩)
          · by_cases e : j = σ0 395 i
            · exact Or.inr ⟨i, by omega, by omega, w3, e.symm⟩
            · rw [su_off e] at z
              exact Or.inl z
          · exact Or.inr ⟨n, by omega, b, c⟩
        · rintro (z | ⟨n, a, b, c, e⟩)
          · by_cases e : j = σ0 395 i
            · subst e
              rw [su_eq]
              exact Or.inl rfl
            · rw [su_off e]
              exact Or.inl z
          · by_cases hn : n = i
            · subst hn
              subst e
              rw [su_eq]
              exact Or.inl rfl
            · exact Or.inr ⟨n, by omega, b, c, e⟩
      · rw [← y3 u Q, x261_109]
        simp (disch := first | omega | exact notL_I | exact notL_N | exact notL_R | exact oM | exact catS_le (Nat.le_of_ble_eq_true rfl) | exact Nat.le_of_ble_eq_true rfl | rfl) only [x261_0, x261_1, x261_2, x261_5, x261_8, x261_11, x261_12, x261_13, x261_14, x261_15, x261_16, x261_19, x261_20, x261_21, x261_22, x261_24, x261_25, x261_28, x261_29, x261_30, x261_33, x261_34, x261_35, x261_36, x261_39, x261_42, x261_45, x261_48, x261_49, x261_52, x261_53, x261_54, x261_55, x261_56, x261_57, x261_60, x261_62, x261_64, x261_65, x261_68, x261_69, x261_70, x261_72, x261_75, x261_78, x261_81, x261_82, x261_86, x261_89, x261_92, x261_93, x261_96, x261_98, x261_99, x261_100, x261_103, x261_106, x261_107, x261_111, x261_112, x261_115, x261_116, x261_117, x261_120, x261_121, x261_122, x261_124, x261_127, x261_130, x261_131, x261_134, x261_135, x261_138, x261_140, x261_141, x261_142, x261_143, x261_146, x261_150, x261_152, x261_154, x261_155, x261_158, x261_159, x261_160, x261_163, x261_164, x261_165, x261_167, x261_170, x261_173, x261_174, x261_177, x261_179, x261_180, x261_183, x261_186, x261_187, x261_190, x261_193, x261_195, x261_196, x261_197, x261_198, x261_201, x261_204, x261_207, x261_208, x261_209, x261_212, x261_213, x261_215, x261_217, x261_220, x261_223, x261_224, x261_227, x261_230, x261_231, x261_232, x261_234, x261_235, x261_236, x261_239, x261_242, x261_244, x261_245, x261_246, x261_247, x261_250, x261_253, x261_254, gM_nextRow, RM_nextRow, gM_stays, WM_stays, gM_image, RM_image, e81, e95, it, w3, Kc_some, if_pos, if_neg, ↓reduceIte, not_true_eq_false, not_false_eq_true]
def goS (σ : St) (k : Int) : St := fun c => if c = 377 then (fun j => if 600 ≤ j ∧ j < 600 + k ∧ σ 397 (j - 600) = 0 then 0 else σ 377 j) else σ c
theorem goS_ne {σ : St} {k : Int} {c : Nat} (hc : c ≠ 377) : goS σ k c = σ c := by unfold goS; rw [if_neg hc]
theorem goS_at {σ : St} {k j : Int} : goS σ k 377 j = if 600 ≤ j ∧ j < 600 + k ∧ σ 397 (j - 600) = 0 then 0 else σ 377 j := by unfold goS; rw [if_pos rfl]
theorem goS_0 {σ : St} : goS σ 0 = σ := by
  apply st_ext (a := 377)
  · intro c hc
    exact goS_ne hc
  · intro j
    rw [goS_at, if_neg (by omega)]
theorem goS_y {σ : St} {i : Int} (i0 : 0 ≤ i) (hz : σ 397 i = 0) : su (goS σ i) 377 (600 + i) 0 = goS σ (i + 1) := by
  apply st_ext (a := 377)
  · intro c hc
    rw [su_ne hc, goS_ne hc, goS_ne hc]
  · intro j
    by_cases e : j = 600 + i
    · subst e
      rw [su_eq, goS_at, if_pos ⟨by omega, by omega, by rw [show 600 + i - 600 = i by omega]; exact hz⟩]
    · rw [su_off e, goS_at, goS_at]
      by_cases c : 600 ≤ j ∧ j < 600 + i ∧ σ 397 (j - 600) = 0
      · rw [if_pos c, if_pos ⟨c.1, by omega, c.2.2⟩]
      · rw [if_neg c, if_neg (fun z => c ⟨z.1, by omega, z.2.2⟩)]
theorem goS_n {σ : St} {i : Int} (hz : σ 397 i ≠ 0 ∨ σ 377 (600 + i) = 0) : goS σ i = goS σ (i + 1) := by
  apply st_ext (a := 377)
  · intro c hc
    rw [goS_ne hc, goS_ne hc]
  · intro j
    rw [goS_at, goS_at]
    by_cases e : j = 600 + i
    · subst e
      rw [show 600 + i - 600 = i by omega]
      rw [if_neg (by omega)]
      split
      · rename_i z
        rcases hz with hz | hz
        · exact absurd z.2.2 hz
        · exact hz
      · rfl
    · by_cases c : 600 ≤ j ∧ j < 600 + i ∧ σ 397 (j - 600) = 0
      · rw [if_pos c, if_pos ⟨c.1, by omega, c.2.2⟩]
      · rw [if_neg c, if_neg (fun z => c ⟨z.1, by omega, z.2.2⟩)]
theorem l_gone {σ : St} {d : Nat} {u : Bool × Nat × Nat × Int} {Q : Rs → HS → Prop} (W : WfM σ) (hd : 1 ≤ d) (hb : ∀ j, 0 ≤ j → j ≤ 199 → σ 397 j = 0 ∨ σ 397 j = 1) {l3 l4 : Option V} : ∀ (k : Nat) (i wt : Int), 0 ≤ i → i + k = σ 381 3 →
    (Ex sc d 261 152 [some (vR 373), some (vI h), some (vI wt), l3, l4, some (vI i)] [] (wH (goS σ i) u) Q ↔ Ex sc d 261 207 [some (vR 373), some (vI h), some (vI (wt + ((rsF σ 3 k i).length - ((rsF σ 3 k i).filter (fun w => decide (σ 397 w.1 = 1))).length : Int))), l3, l4, some (vI (σ 381 3))] [] (wH (goS σ (σ 381 3)) u) Q) := by
  have wn := W.nxt (h := 3) (by omega) (by omega)
  intro k
  induction k with
  | zero =>
    intro i wt i0 ik
    obtain rfl : i = σ 381 3 := by omega
    rw [x261_152]
    simp (disch := first | omega | exact notL_I | exact notL_N | exact notL_R | exact oM | exact catS_le (Nat.le_of_ble_eq_true rfl) | exact Nat.le_of_ble_eq_true rfl | rfl) only [x261_0, x261_1, x261_2, x261_5, x261_8, x261_11, x261_12, x261_13, x261_14, x261_15, x261_16, x261_19, x261_20, x261_21, x261_22, x261_24, x261_25, x261_28, x261_29, x261_30, x261_33, x261_34, x261_35, x261_36, x261_39, x261_42, x261_45, x261_48, x261_49, x261_52, x261_53, x261_54, x261_55, x261_56, x261_57, x261_60, x261_62, x261_64, x261_65, x261_68, x261_69, x261_70, x261_72, x261_75, x261_78, x261_81, x261_82, x261_86, x261_89, x261_92, x261_93, x261_96, x261_98, x261_99, x261_100, x261_103, x261_106, x261_107, x261_111, x261_112, x261_115, x261_116, x261_117, x261_120, x261_121, x261_122, x261_124, x261_127, x261_130, x261_131, x261_134, x261_135, x261_138, x261_140, x261_141, x261_142, x261_143, x261_146, x261_149, x261_150, x261_154, x261_155, x261_158, x261_159, x261_160, x261_163, x261_164, x261_165, x261_167, x261_170, x261_173, x261_174, x261_177, x261_179, x261_180, x261_183, x261_186, x261_187, x261_190, x261_193, x261_195, x261_196, x261_197, x261_198, x261_201, x261_204, x261_208, x261_209, x261_212, x261_213, x261_215, x261_217, x261_220, x261_223, x261_224, x261_227, x261_230, x261_231, x261_232, x261_234, x261_235, x261_236, x261_239, x261_242, x261_244, x261_245, x261_246, x261_247, x261_250, x261_253, x261_254, gM_nextRow, RM_nextRow, goS_ne, rsF, if_pos, if_neg, ↓reduceIte, not_true_eq_false, not_false_eq_true]
    simp
  | succ k ih =>
    intro i wt i0 ik
    have w3 := W.thr (h := 3) (n := i) (by omega) (by omega) i0 (by omega)
    have e6 : (200 : Int) * 3 + i = 600 + i := by omega
    rw [e6] at w3
    have g77 : goS σ i 377 (600 + i) = σ 377 (600 + i) := by rw [goS_at, if_neg (by omega)]
    have it := fun u Q => s_isThere (sc := sc) (σ := goS σ i) (u := u) (Q := Q) (d := d - 1) (h := 3) (n := i) (by omega) (by omega) i0 (by omega) (by rw [e6, g77]; exact w3)
    rw [e6, g77] at it
    have en : (rwR σ 3 i).1 = i := rfl
    have hbi := hb i i0 (by omega)
    have ih2 := fun wt => ih (i + 1) wt (by omega) (by omega)
    rw [rsF, e6]
    rcases w3 with w3 | w3
    · rw [if_neg (by omega), ← ih2, ← goS_n (Or.inr w3), x261_152]
      simp (disch := first | omega | exact notL_I | exact notL_N | exact notL_R | exact oM | exact catS_le (Nat.le_of_ble_eq_true rfl) | exact Nat.le_of_ble_eq_true rfl | rfl) only [x261_0, x261_1, x261_2, x261_5, x261_8, x261_11, x261_12, x261_13, x261_14, x261_15, x261_16, x261_19, x261_20, x261_21, x261_22, x261_24, x261_25, x261_28, x261_29, x261_30, x261_33, x261_34, x261_35, x261_36, x261_39, x261_42, x261_45, x261_48, x261_49, x261_52, x261_53, x261_54, x261_55, x261_56, x261_57, x261_60, x261_62, x261_64, x261_65, x261_68, x261_69, x261_70, x261_72, x261_75, x261_78, x261_81, x261_82, x261_86, x261_89, x261_92, x261_93, x261_96, x261_98, x261_99, x261_100, x261_103, x261_106, x261_107, x261_111, x261_112, x261_115, x261_116, x261_117, x261_120, x261_121, x261_122, x261_124, x261_127, x261_130, x261_131, x261_134, x261_135, x261_138, x261_140, x261_141, x261_142, x261_143, x261_146, x261_149, x261_150, x261_154, x261_155, x261_158, x261_159, x261_160, x261_163, x261_164, x261_165, x261_167, x261_170, x261_173, x261_174, x261_177, x261_179, x261_180, x261_183, x261_186, x261_187, x261_190, x261_193, x261_195, x261_196, x261_197, x261_198, x261_201, x261_204, x261_208, x261_209, x261_212, x261_213, x261_215, x261_217, x261_220, x261_223, x261_224, x261_227, x261_230, x261_231, x261_232, x261_234, x261_235, x261_236, x261_239, x261_242, x261_244, x261_245, x261_246, x261_247, x261_250, x261_253, x261_254, gM_nextRow, RM_nextRow, goS_ne, it, w3, Kc_some, if_pos, if_neg, ↓reduceIte, not_true_eq_false, not_false_eq_true]
    · rw [if_pos w3]
      rcases hbi with hz | hz
      · rw [List.filter_cons_of_neg (by rw [decide_eq_true_eq, en, hz]; decide), List.length_cons]
        have ec : wt + (((rsF σ 3 k (i + 1)).length + 1 : Nat) - ((rsF σ 3 k (i + 1)).filter (fun w => decide (σ 397 w.1 = 1))).length : Int) = wt + 1 + ((rsF σ 3 k (i + 1)).length - ((rsF σ 3 k (i + 1)).filter (fun w => decide (σ 397 w.1 = 1))).length : Int) := by omega
        rw [ec, ← ih2, ← goS_y i0 hz, x261_152]
        simp (disch := first | omega | exact notL_I | exact notL_N | exact notL_R | exact oM | exact catS_le (Nat.le_of_ble_eq_true rfl) | exact Nat.le_of_ble_eq_true rfl | rfl) only [x261_0, x261_1, x261_2, x261_5, x261_8, x261_11, x261_12, x261_13, x261_14, x261_15, x261_16, x261_19, x261_20, x261_21, x261_22, x261_24, x261_25, x261_28, x261_29, x261_30, x261_33, x261_34, x261_35, x261_36, x261_39, x261_42, x261_45, x261_48, x261_49, x261_52, x261_53, x261_54, x261_55, x261_56, x261_57, x261_60, x261_62, x261_64, x261_65, x261_68, x261_69, x261_70, x261_72, x261_75, x261_78, x261_81, x261_82, x261_86, x261_89, x261_92, x261_93, x261_96, x261_98, x261_99, x261_100, x261_103, x261_106, x261_107, x261_111, x261_112, x261_115, x261_116, x261_117, x261_120, x261_121, x261_122, x261_124, x261_127, x261_130, x261_131, x261_134, x261_135, x261_138, x261_140, x261_141, x261_142, x261_143, x261_146, x261_149, x261_150, x261_154, x261_155, x261_158, x261_159, x261_160, x261_163, x261_164, x261_165, x261_167, x261_170, x261_173, x261_174, x261_177, x261_179, x261_180, x261_183, x261_186, x261_187, x261_190, x261_193, x261_195, x261_196, x261_197, x261_198, x261_201, x261_204, x261_208, x261_209, x261_212, x261_213, x261_215, x261_217, x261_220, x261_223, x261_224, x261_227, x261_230, x261_231, x261_232, x261_234, x261_235, x261_236, x261_239, x261_242, x261_244, x261_245, x261_246, x261_247, x261_250, x261_253, x261_254, gM_nextRow, RM_nextRow, gM_stays, RM_stays, gM_there, WM_there, goS_ne, it, w3, hz, Kc_some, if_pos, if_neg, ↓reduceIte, not_true_eq_false, not_false_eq_true]
      · rw [List.filter_cons_of_pos (by rw [decide_eq_true_eq, en]; exact hz), List.length_cons, List.length_cons]
        have ec : wt + (((rsF σ 3 k (i + 1)).length + 1 : Nat) - (((rsF σ 3 k (i + 1)).filter (fun w => decide (σ 397 w.1 = 1))).length + 1 : Nat) : Int) = wt + ((rsF σ 3 k (i + 1)).length - ((rsF σ 3 k (i + 1)).filter (fun w => decide (σ 397 w.1 = 1))).length : Int) := by omega
        rw [ec, ← ih2, ← goS_n (Or.inl (by rw [hz]; decide)), x261_152]
        simp (disch := first | omega | exact notL_I | exact notL_N | exact notL_R | exact oM | exact catS_le (Nat.le_of_ble_eq_true rfl) | exact Nat.le_of_ble_eq_true rfl | rfl) only [x261_0, x261_1, x261_2, x261_5, x261_8, x261_11, x261_12, x261_13, x261_14, x261_15, x261_16, x261_19, x261_20, x261_21, x261_22, x261_24, x261_25, x261_28, x261_29, x261_30, x261_33, x261_34, x261_35, x261_36, x261_39, x261_42, x261_45, x261_48, x261_49, x261_52, x261_53, x261_54, x261_55, x261_56, x261_57, x261_60, x261_62, x261_64, x261_65, x261_68, x261_69, x261_70, x261_72, x261_75, x261_78, x261_81, x261_82, x261_86, x261_89, x261_92, x261_93, x261_96, x261_98, x261_99, x261_100, x261_103, x261_106, x261_107, x261_111, x261_112, x261_115, x261_116, x261_117, x261_120, x261_121, x261_122, x261_124, x261_127, x261_130, x261_131, x261_134, x261_135, x261_138, x261_140, x261_141, x261_142, x261_143, x261_146, x261_149, x261_150, x261_154, x261_155, x261_158, x261_159, x261_160, x261_163, x261_164, x261_165, x261_167, x261_170, x261_173, x261_174, x261_177, x261_179, x261_180, x261_183, x261_186, x261_187, x261_190, x261_193, x261_195, x261_196, x261_197, x261_198, x261_201, x261_204, x261_208, x261_209, x261_212, x261_213, x261_215, x261_217, x261_220, x261_223, x261_224, x261_227, x261_230, x261_231, x261_232, x261_234, x261_235, x261_236, x261_239, x261_242, x261_244, x261_245, x261_246, x261_247, x261_250, x261_253, x261_254, gM_nextRow, RM_nextRow, gM_stays, RM_stays, goS_ne, it, w3, hz, Kc_some, if_pos, if_neg, ↓reduceIte, not_true_eq_false, not_false_eq_true]
theorem l_back0 {σ : St} {d : Nat} {u : Bool × Nat × Nat × Int} {Q : Rs → HS → Prop} (h1 : 0 ≤ h) (h2 : h ≤ 2) {wt : Int} {l3 l5 : Option V} : ∀ (k : Nat) (i : Int), 0 ≤ i → i + k = 200 → (Ex sc d 261 215 [some (vR 373), some (vI h), some (vI wt), l3, some (vI i), l5] [] (wH (scp σ 377 600 377 (200 * h) i) u) Q ↔ Q (.inl (some (vI (wt)))) (wH (scp σ 377 600 377 (200 * h) 200) u)) := by
  intro k
  induction k with
  | zero =>
    intro i i0 ik
    obtain rfl : i = 200 := by omega
    rw [x261_215]
    simp (disch := first | omega | exact notL_I | exact notL_N | exact notL_R | exact oM | exact catS_le (Nat.le_of_ble_eq_true rfl) | exact Nat.le_of_ble_eq_true rfl | rfl) only [x261_0, x261_1, x261_2, x261_5, x261_8, x261_11, x261_12, x261_13, x261_14, x261_15, x261_16, x261_19, x261_20, x261_21, x261_22, x261_24, x261_25, x261_28, x261_29, x261_30, x261_33, x261_34, x261_35, x261_36, x261_39, x261_42, x261_45, x261_48, x261_49, x261_52, x261_53, x261_54, x261_55, x261_56, x261_57, x261_60, x261_62, x261_64, x261_65, x261_68, x261_69, x261_70, x261_72, x261_75, x261_78, x261_81, x261_82, x261_86, x261_89, x261_92, x261_93, x261_96, x261_98, x261_99, x261_100, x261_103, x261_106, x261_107, x261_111, x261_112, x261_115, x261_116, x261_117, x261_120, x261_121, x261_122, x261_124, x261_127, x261_130, x261_131, x261_134, x261_135, x261_138, x261_140, x261_141, x261_142, x261_143, x261_146, x261_149, x261_150, x261_154, x261_155, x261_158, x261_159, x261_160, x261_163, x261_164, x261_165, x261_167, x261_170, x261_173, x261_174, x261_177, x261_179, x261_180, x261_183, x261_186, x261_187, x261_190, x261_193, x261_195, x261_196, x261_197, x261_198, x261_201, x261_204, x261_207, x261_208, x261_209, x261_212, x261_213, x261_217, x261_220, x261_223, x261_224, x261_227, x261_230, x261_231, x261_232, x261_234, x261_235, x261_236, x261_239, x261_242, x261_244, x261_245, x261_246, x261_247, x261_250, x261_253, x261_254, if_pos, if_neg, ↓reduceIte, not_true_eq_false, not_false_eq_true]
  | succ k ih =>
    intro i i0 ik
    have er : scp σ 377 600 377 (200 * h) i 377 (600 + i) = σ 377 (600 + i) := by rw [scp_at, if_neg (by omega)]
    rw [x261_215, ← ih (i + 1) (by omega) (by omega), ← scp_su (x := σ 377 (600 + i)) (i := 200 * h + i) i0 rfl rfl]
    simp (disch := first | omega | exact notL_I | exact notL_N | exact notL_R | exact oM | exact catS_le (Nat.le_of_ble_eq_true rfl) | exact Nat.le_of_ble_eq_true rfl | rfl) only [x261_0, x261_1, x261_2, x261_5, x261_8, x261_11, x261_12, x261_13, x261_14, x261_15, x261_16, x261_19, x261_20, x261_21, x261_22, x261_24, x261_25, x261_28, x261_29, x261_30, x261_33, x261_34, x261_35, x261_36, x261_39, x261_42, x261_45, x261_48, x261_49, x261_52, x261_53, x261_54, x261_55, x261_56, x261_57, x261_60, x261_62, x261_64, x261_65, x261_68, x261_69, x261_70, x261_72, x261_75, x261_78, x261_81, x261_82, x261_86, x261_89, x261_92, x261_93, x261_96, x261_98, x261_99, x261_100, x261_103, x261_106, x261_107, x261_111, x261_112, x261_115, x261_116, x261_117, x261_120, x261_121, x261_122, x261_124, x261_127, x261_130, x261_131, x261_134, x261_135, x261_138, x261_140, x261_141, x261_142, x261_143, x261_146, x261_149, x261_150, x261_154, x261_155, x261_158, x261_159, x261_160, x261_163, x261_164, x261_165, x261_167, x261_170, x261_173, x261_174, x261_177, x261_179, x261_180, x261_183, x261_186, x261_187, x261_190, x261_193, x261_195, x261_196, x261_197, x261_198, x261_201, x261_204, x261_207, x261_208, x261_209, x261_212, x261_213, x261_217, x261_220, x261_223, x261_224, x261_227, x261_230, x261_231, x261_232, x261_234, x261_235, x261_236, x261_239, x261_242, x261_244, x261_245, x261_246, x261_247, x261_250, x261_253, x261_254, gM_there, RM_there, WM_there, er, if_pos, if_neg, ↓reduceIte, not_true_eq_false, not_false_eq_true]
end J1
