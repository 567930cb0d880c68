/-! ways of the reference: ranks -/
def rkM (σ : St) : Int → Int := fun i => if 0 ≤ i ∧ i < 78 then σ 402 i else 0
theorem rkM_in {σ : St} {i : Int} (h0 : 0 ≤ i) (h1 : i < 78) : rkM σ i = σ 402 i := by unfold rkM; rw [if_pos ⟨h0, h1⟩]
theorem rkM_su {σ : St} {i v : Int} (h0 : 0 ≤ i) (h1 : i < 78) : rkM (su σ 402 i v) = bup (rkM σ) i v := by
  funext j
  unfold rkM bup
  by_cases e : j = i
  · subst e
    rw [if_pos ⟨h0, h1⟩, if_pos rfl, su_eq]
  · rw [if_neg e, su_off e]
section N2
variable {sc : Scr} {h t c : Int}
set_option maxHeartbeats 1000000 in
theorem l_rkB {E : Eg} {Pl : List Int} {d : Nat} {a : Int} (h01 : E01 E) (hP : ∀ a b k, E a b k → a ∈ Pl ∧ b ∈ Pl) (hn : Pl.Nodup) (hl : Pl.length ≤ 18) (nr : ¬ Ring E) (a0 : 0 ≤ a) (a1 : a < 78) : ∀ (k : Nat) (b : Int) (τ : St) (s : Wy), 0 ≤ b → b + k = 78 → WysI E τ → WyI E Pl s → rkM τ = s.1 →
    ∃ ρ s', (∀ c, c ≠ 402 → ρ c = τ c) ∧ WyI E Pl s' ∧ WyU Pl s s' ∧ rkM ρ = s'.1 ∧ (s'.2.1 = false → s' = s ∧ ∀ y, b ≤ y → y < 78 → ∀ k, E a y k → s.1 a + k ≤ s.1 y) ∧ ∀ (u : Bool × Nat × Nat × Int) (Q : Rs → HS → Prop) (l7 : Option V), ∃ l7', Ex sc d 272 97 [some (vR 373), some (vI h), some (vI t), some (vI c), some (vI (bI s.2.1)), some (vI a), some (vI b), l7] [] (wH τ u) Q ↔ Ex sc d 272 184 [some (vR 373), some (vI h), some (vI t), some (vI c), some (vI (bI s'.2.1)), some (vI a), some (vI 78), l7'] [] (wH ρ u) Q := by
  intro k
  induction k with
  | zero =>
    intro b τ s b0 bk HW I hk
    obtain rfl : b = 78 := by omega
    refine ⟨τ, s, fun _ _ => rfl, I, WyU.refl, hk, fun _ => ⟨rfl, fun y y0 y1 => by omega⟩, fun u Q l7 => ⟨l7, ?_⟩⟩
    rw [x272_97]
    simp (disch := first | omega | exact notL_I | exact notL_N | exact notL_R | exact oM | exact catS_le (Nat.le_of_ble_eq_true rfl) | exact Nat.le_of_ble_eq_true rfl | rfl) only [x272_0, x272_1, x272_2, x272_5, x272_8, x272_11, x272_12, x272_13, x272_14, x272_15, x272_17, x272_20, x272_23, x272_24, x272_25, x272_26, x272_27, x272_28, x272_31, x272_32, x272_33, x272_36, x272_39, x272_40, x272_41, x272_44, x272_47, x272_48, x272_49, x272_50, x272_52, x272_54, x272_56, x272_59, x272_60, x272_63, x272_65, x272_66, x272_67, x272_70, x272_73, x272_74, x272_78, x272_81, x272_82, x272_84, x272_85, x272_89, x272_91, x272_94, x272_95, x272_99, x272_101, x272_104, x272_105, x272_108, x272_110, x272_111, x272_112, x272_115, x272_117, x272_119, x272_120, x272_122, x272_123, x272_124, x272_127, x272_128, x272_131, x272_132, x272_133, x272_135, x272_136, x272_139, x272_141, x272_143, x272_144, x272_146, x272_147, x272_148, x272_151, x272_153, x272_154, x272_157, x272_159, x272_160, x272_163, x272_166, x272_167, x272_170, x272_172, x272_174, x272_175, x272_176, x272_178, x272_181, x272_187, x272_190, x272_193, x272_194, x272_197, x272_198, x272_199, x272_200, x272_201, x272_202, x272_203, if_pos, if_neg, ↓reduceIte, not_true_eq_false, not_false_eq_true]
  | succ k ih =>
    intro b τ s b0 bk HW I hk
    have low : s.2.2 = false ∧ ∀ y, 0 ≤ s.1 y ∧ s.1 y < 18 := by
      have q : s.2.2 = false := by
        cases q : s.2.2 with
        | true => exact absurd (I.2.1 q) nr
        | false => rfl
      exact ⟨q, fun y => ⟨(I.1 y).1, I.2.2.1 q y⟩⟩
    have ra := low.2 a
    have rb := low.2 b
    have ea : τ 402 a = s.1 a := by rw [← hk, rkM_in a0 a1]
    have eb : τ 402 b = s.1 b := by rw [← hk, rkM_in b0 (by omega)]
    have w := HW a b a0 a1 b0 (by omega)
    have b01 : bI s.2.1 = 0 ∨ bI s.2.1 = 1 := by cases s.2.1 <;> simp [bI]
    -- going on behind b
    have go : ∀ (τ1 : St) (s1 : Wy), (∀ c, c ≠ 402 → τ1 c = τ c) → WyI E Pl s1 → WyU Pl s s1 → rkM τ1 = s1.1 → (s1.2.1 = false → s1 = s ∧ ∀ k, E a b k → s.1 a + k ≤ s.1 b) → (∀ (u : Bool × Nat × Nat × Int) (Q : Rs → HS → Prop) (l7 : Option V), ∃ l7', Ex sc d 272 97 [some (vR 373), some (vI h), some (vI t), some (vI c), some (vI (bI s.2.1)), some (vI a), some (vI b), l7] [] (wH τ u) Q ↔ Ex sc d 272 97 [some (vR 373), some (vI h), some (vI t), some (vI c), some (vI (bI s1.2.1)), some (vI a), some (vI (b + 1)), l7'] [] (wH τ1 u) Q) →
        ∃ ρ s', (∀ c, c ≠ 402 → ρ c = τ c) ∧ WyI E Pl s' ∧ WyU Pl s s' ∧ rkM ρ = s'.1 ∧ (s'.2.1 = false → s' = s ∧ ∀ y, b ≤ y → y < 78 → ∀ k, E a y k → s.1 a + k ≤ s.1 y) ∧ ∀ (u : Bool × Nat × Nat × Int) (Q : Rs → HS → Prop) (l7 : Option V), ∃ l7', Ex sc d 272 97 [some (vR 373), some (vI h), some (vI t), some (vI c), some (vI (bI s.2.1)), some (vI a), some (vI b), l7] [] (wH τ u) Q ↔ Ex sc d 272 184 [some (vR 373), some (vI h), some (vI t), some (vI c), some (vI (bI s'.2.1)), some (vI a), some (vI 78), l7'] [] (wH ρ u) Q := by
      intro τ1 s1 f1 I1 U1 k1 q1 x1
      have HW1 : WysI E τ1 := fun x y p1 p2 p3 p4 => by rw [f1 400 (by omega), f1 401 (by omega)]; exact HW x y p1 p2 p3 p4
      obtain ⟨ρ, s', z1, z2, z3, z4, z5, z6⟩ := ih (b + 1) τ1 s1 (by omega) (by omega) HW1 I1 k1
      refine ⟨ρ, s', fun c hc => (z1 c hc).trans (f1 c hc), z2, U1.trans z3, z4, fun hf => ?_, fun u Q l7 => ?_⟩
      · obtain ⟨e1, e2⟩ := z5 hf
        rw [e1] at hf
        obtain ⟨e3, e4⟩ := q1 hf
        refine ⟨e1.trans e3, fun y y0 y1 k hE => ?_⟩
        by_cases e : y = b
        · subst e
          exact e4 k hE
        · have := e2 y (by omega) y1 k hE
          rw [e3] at this
          exact this
      · obtain ⟨l7', y1⟩ := x1 u Q l7
        obtain ⟨l7'', y2⟩ := z6 u Q l7'
        exact ⟨l7'', y1.trans y2⟩
    rcases w.1.1 with q1 | q1
    · -- no way
      have no : ∀ k, ¬ E a b k := fun k hE => by have := w.1.2.mpr ⟨k, hE⟩; omega
      refine go τ s (fun _ _ => rfl) I WyU.refl hk (fun _ => ⟨rfl, fun k hE => absurd hE (no k)⟩) (fun u Q l7 => ?_)
      rcases w.2.1 with q2 | q2
      · refine ⟨some (vI (s.1 a + 0)), ?_⟩
        rw [x272_97]
        simp (disch := first | omega | exact notL_I | exact notL_N | exact notL_R | exact oM | exact catS_le (Nat.le_of_ble_eq_true rfl) | exact Nat.le_of_ble_eq_true rfl | rfl) only [x272_0, x272_1, x272_2, x272_5, x272_8, x272_11, x272_12, x272_13, x272_14, x272_15, x272_17, x272_20, x272_23, x272_24, x272_25, x272_26, x272_27, x272_28, x272_31, x272_32, x272_33, x272_36, x272_39, x272_40, x272_41, x272_44, x272_47, x272_48, x272_49, x272_50, x272_52, x272_54, x272_56, x272_59, x272_60, x272_63, x272_65, x272_66, x272_67, x272_70, x272_73, x272_74, x272_78, x272_81, x272_82, x272_84, x272_85, x272_89, x272_91, x272_94, x272_95, x272_99, x272_101, x272_104, x272_105, x272_108, x272_110, x272_111, x272_112, x272_115, x272_117, x272_119, x272_120, x272_122, x272_123, x272_124, x272_127, x272_128, x272_131, x272_132, x272_133, x272_135, x272_136, x272_139, x272_141, x272_143, x272_144, x272_146, x272_147, x272_148, x272_151, x272_153, x272_154, x272_157, x272_159, x272_160, x272_163, x272_166, x272_167, x272_170, x272_172, x272_174, x272_175, x272_176, x272_178, x272_181, x272_187, x272_190, x272_193, x272_194, x272_197, x272_198, x272_199, x272_200, x272_201, x272_202, x272_203, gM_ranks, RM_ranks, gM_isNew, RM_isNew, gM_leadsTo, RM_leadsTo, ea, q1, q2, if_pos, if_neg, ↓reduceIte, not_true_eq_false, not_false_eq_true]
      · refine ⟨some (vI (s.1 a + 1)), ?_⟩
        rw [x272_97]
        simp (disch := first | omega | exact notL_I | exact notL_N | exact notL_R | exact oM | exact catS_le (Nat.le_of_ble_eq_true rfl) | exact Nat.le_of_ble_eq_true rfl | rfl) only [x272_0, x272_1, x272_2, x272_5, x272_8, x272_11, x272_12, x272_13, x272_14, x272_15, x272_17, x272_20, x272_23, x272_24, x272_25, x272_26, x272_27, x272_28, x272_31, x272_32, x272_33, x272_36, x272_39, x272_40, x272_41, x272_44, x272_47, x272_48, x272_49, x272_50, x272_52, x272_54, x272_56, x272_59, x272_60, x272_63, x272_65, x272_66, x272_67, x272_70, x272_73, x272_74, x272_78, x272_81, x272_82, x272_84, x272_85, x272_89, x272_91, x272_94, x272_95, x272_99, x272_101, x272_104, x272_105, x272_108, x272_110, x272_111, x272_112, x272_115, x272_117, x272_119, x272_120, x272_122, x272_123, x272_124, x272_127, x272_128, x272_131, x272_132, x272_133, x272_135, x272_136, x272_139, x272_141, x272_143, x272_144, x272_146, x272_147, x272_148, x272_151, x272_153, x272_154, x272_157, x272_159, x272_160, x272_163, x272_166, x272_167, x272_170, x272_172, x272_174, x272_175, x272_176, x272_178, x272_181, x272_187, x272_190, x272_193, x272_194, x272_197, x272_198, x272_199, x272_200, x272_201, x272_202, x272_203, gM_ranks, RM_ranks, gM_isNew, RM_isNew, gM_leadsTo, RM_leadsTo, ea, q1, q2, if_pos, if_neg, ↓reduceIte, not_true_eq_false, not_false_eq_true]
    · obtain ⟨k0, hE0⟩ := w.1.2.mp q1
      rcases w.2.1 with q2 | q2
      · have hk0 : k0 = 0 := by
          rcases h01 _ _ _ hE0 with z | z
          · exact z
          · subst z
            have := w.2.2.mpr hE0
            omega
        subst hk0
        have all : ∀ k, E a b k → k = 0 := fun k hE => by
          rcases h01 _ _ _ hE with z | z
          · exact z
          · subst z
            have := w.2.2.mpr hE
            omega
        have rr := rai_I (s := s) (x := a) (b := b) (k := s.1 a) (v := 0) h01 hP hn hl I hE0 ra.1 (I.1 a).2
        rw [Int.add_zero] at rr
        by_cases hv : s.1 a ≤ s.1 b
        · refine go τ s (fun _ _ => rfl) I WyU.refl hk (fun _ => ⟨rfl, fun k hE => by rw [all k hE]; omega⟩) (fun u Q l7 => ⟨some (vI (s.1 a + 0)), ?_⟩)
          rw [x272_97]
          simp (disch := first | omega | exact notL_I | exact notL_N | exact notL_R | exact oM | exact catS_le (Nat.le_of_ble_eq_true rfl) | exact Nat.le_of_ble_eq_true rfl | rfl) only [x272_0, x272_1, x272_2, x272_5, x272_8, x272_11, x272_12, x272_13, x272_14, x272_15, x272_17, x272_20, x272_23, x272_24, x272_25, x272_26, x272_27, x272_28, x272_31, x272_32, x272_33, x272_36, x272_39, x272_40, x272_41, x272_44, x272_47, x272_48, x272_49, x272_50, x272_52, x272_54, x272_56, x272_59, x272_60, x272_63, x272_65, x272_66, x272_67, x272_70, x272_73, x272_74, x272_78, x272_81, x272_82, x272_84, x272_85, x272_89, x272_91, x272_94, x272_95, x272_99, x272_101, x272_104, x272_105, x272_108, x272_110, x272_111, x272_112, x272_115, x272_117, x272_119, x272_120, x272_122, x272_123, x272_124, x272_127, x272_128, x272_131, x272_132, x272_133, x272_135, x272_136, x272_139, x272_141, x272_143, x272_144, x272_146, x272_147, x272_148, x272_151, x272_153, x272_154, x272_157, x272_159, x272_160, x272_163, x272_166, x272_167, x272_170, x272_172, x272_174, x272_175, x272_176, x272_178, x272_181, x272_187, x272_190, x272_193, x272_194, x272_197, x272_198, x272_199, x272_200, x272_201, x272_202, x272_203, gM_ranks, RM_ranks, gM_isNew, RM_isNew, gM_leadsTo, RM_leadsTo, ea, eb, q1, q2, if_pos, if_neg, ↓reduceIte, not_true_eq_false, not_false_eq_true]
        · have er : raiF b (s.1 a) s = (bup s.1 b (s.1 a), true, s.2.2 || decide (18 ≤ s.1 a)) := if_neg hv
          rw [er] at rr
          refine go (su τ 402 b (s.1 a)) _ (fun c hc => su_ne hc) rr.1 rr.2 (by rw [rkM_su b0 (by omega), hk]) (fun hf => by cases hf) (fun u Q l7 => ⟨some (vI (s.1 a + 0)), ?_⟩)
          have e0 : s.1 a + 0 = s.1 a := Int.add_zero _
          rw [x272_97]
          simp (disch := first | omega | exact notL_I | exact notL_N | exact notL_R | exact oM | exact catS_le (Nat.le_of_ble_eq_true rfl) | exact Nat.le_of_ble_eq_true rfl | rfl) only [x272_0, x272_1, x272_2, x272_5, x272_8, x272_11, x272_12, x272_13, x272_14, x272_15, x272_17, x272_20, x272_23, x272_24, x272_25, x272_26, x272_27, x272_28, x272_31, x272_32, x272_33, x272_36, x272_39, x272_40, x272_41, x272_44, x272_47, x272_48, x272_49, x272_50, x272_52, x272_54, x272_56, x272_59, x272_60, x272_63, x272_65, x272_66, x272_67, x272_70, x272_73, x272_74, x272_78, x272_81, x272_82, x272_84, x272_85, x272_89, x272_91, x272_94, x272_95, x272_99, x272_101, x272_104, x272_105, x272_108, x272_110, x272_111, x272_112, x272_115, x272_117, x272_119, x272_120, x272_122, x272_123, x272_124, x272_127, x272_128, x272_131, x272_132, x272_133, x272_135, x272_136, x272_139, x272_141, x272_143, x272_144, x272_146, x272_147, x272_148, x272_151, x272_153, x272_154, x272_157, x272_159, x272_160, x272_163, x272_166, x272_167, x272_170, x272_172, x272_174, x272_175, x272_176, x272_178, x272_181, x272_187, x272_190, x272_193, x272_194, x272_197, x272_198, x272_199, x272_200, x272_201, x272_202, x272_203, gM_ranks, RM_ranks, WM_ranks, gM_isNew, RM_isNew, gM_leadsTo, RM_leadsTo, ea, eb, e0, q1, q2, bI_t, if_pos, if_neg, ↓reduceIte, not_true_eq_false, not_false_eq_true]
      · have hE1 := w.2.2.mp q2
        have rr := rai_I (s := s) (x := a) (b := b) (k := s.1 a) (v := 1) h01 hP hn hl I hE1 ra.1 (I.1 a).2
        by_cases hv : s.1 a + 1 ≤ s.1 b
        · refine go τ s (fun _ _ => rfl) I WyU.refl hk (fun _ => ⟨rfl, fun k hE => by have := h01 _ _ _ hE; omega⟩) (fun u Q l7 => ⟨some (vI (s.1 a + 1)), ?_⟩)
          rw [x272_97]
          simp (disch := first | omega | exact notL_I | exact notL_N | exact notL_R | exact oM | exact catS_le (Nat.le_of_ble_eq_true rfl) | exact Nat.le_of_ble_eq_true rfl | rfl) only [x272_0, x272_1, x272_2, x272_5, x272_8, x272_11, x272_12, x272_13, x272_14, x272_15, x272_17, x272_20, x272_23, x272_24, x272_25, x272_26, x272_27, x272_28, x272_31, x272_32, x272_33, x272_36, x272_39, x272_40, x272_41, x272_44, x272_47, x272_48, x272_49, x272_50, x272_52, x272_54, x272_56, x272_59, x272_60, x272_63, x272_65, x272_66, x272_67, x272_70, x272_73, x272_74, x272_78, x272_81, x272_82, x272_84, x272_85, x272_89, x272_91, x272_94, x272_95, x272_99, x272_101, x272_104, x272_105, x272_108, x272_110, x272_111, x272_112, x272_115, x272_117, x272_119, x272_120, x272_122, x272_123, x272_124, x272_127, x272_128, x272_131, x272_132, x272_133, x272_135, x272_136, x272_139, x272_141, x272_143, x272_144, x272_146, x272_147, x272_148, x272_151, x272_153, x272_154, x272_157, x272_159, x272_160, x272_163, x272_166, x272_167, x272_170, x272_172, x272_174, x272_175, x272_176, x272_178, x272_181, x272_187, x272_190, x272_193, x272_194, x272_197, x272_198, x272_199, x272_200, x272_201, x272_202, x272_203, gM_ranks, RM_ranks, gM_isNew, RM_isNew, gM_leadsTo, RM_leadsTo, ea, eb, q1, q2, if_pos, if_neg, ↓reduceIte, not_true_eq_false, not_false_eq_true]
        · have er : raiF b (s.1 a + 1) s = (bup s.1 b (s.1 a + 1), true, s.2.2 || decide (18 ≤ s.1 a + 1)) := if_neg hv
          rw [er] at rr
          refine go (su τ 402 b (s.1 a + 1)) _ (fun c hc => su_ne hc) rr.1 rr.2 (by rw [rkM_su b0 (by omega), hk]) (fun hf => by cases hf) (fun u Q l7 => ⟨some (vI (s.1 a + 1)), ?_⟩)
          rw [x272_97]
          simp (disch := first | omega | exact notL_I | exact notL_N | exact notL_R | exact oM | exact catS_le (Nat.le_of_ble_eq_true rfl) | exact Nat.le_of_ble_eq_true rfl | rfl) only [x272_0, x272_1, x272_2, x272_5, x272_8, x272_11, x272_12, x272_13, x272_14, x272_15, x272_17, x272_20, x272_23, x272_24, x272_25, x272_26, x272_27, x272_28, x272_31, x272_32, x272_33, x272_36, x272_39, x272_40, x272_41, x272_44, x272_47, x272_48, x272_49, x272_50, x272_52, x272_54, x272_56, x272_59, x272_60, x272_63, x272_65, x272_66, x272_67, x272_70, x272_73, x272_74, x272_78, x272_81, x272_82, x272_84, x272_85, x272_89, x272_91, x272_94, x272_95, x272_99, x272_101, x272_104, x272_105, x272_108, x272_110, x272_111, x272_112, x272_115, x272_117, x272_119, x272_120, x272_122, x272_123, x272_124, x272_127, x272_128, x272_131, x272_132, x272_133, x272_135, x272_136, x272_139, x272_141, x272_143, x272_144, x272_146, x272_147, x272_148, x272_151, x272_153, x272_154, x272_157, x272_159, x272_160, x272_163, x272_166, x272_167, x272_170, x272_172, x272_174, x272_175, x272_176, x272_178, x272_181, x272_187, x272_190, x272_193, x272_194, x272_197, x272_198, x272_199, x272_200, x272_201, x272_202, x272_203, gM_ranks, RM_ranks, WM_ranks, gM_isNew, RM_isNew, gM_leadsTo, RM_leadsTo, ea, eb, q1, q2, bI_t, if_pos, if_neg, ↓reduceIte, not_true_eq_false, not_false_eq_true]
theorem l_rkA {E : Eg} {Pl : List Int} {d : Nat} (h01 : E01 E) (hP : ∀ a b k, E a b k → a ∈ Pl ∧ b ∈ Pl) (hn : Pl.Nodup) (hl : Pl.length ≤ 18) (nr : ¬ Ring E) : ∀ (k : Nat) (a : Int) (τ : St) (s : Wy), 0 ≤ a → a + k = 78 → WysI E τ → WyI E Pl s → rkM τ = s.1 →
    ∃ ρ s', (∀ c, c ≠ 402 → ρ c = τ c) ∧ WyI E Pl s' ∧ WyU Pl s s' ∧ rkM ρ = s'.1 ∧ (s'.2.1 = false → s' = s ∧ ∀ x y, a ≤ x → x < 78 → 0 ≤ y → y < 78 → ∀ k, E x y k → s.1 x + k ≤ s.1 y) ∧ ∀ (u : Bool × Nat × Nat × Int) (Q : Rs → HS → Prop) (l6 l7 : Option V), ∃ l6' l7', Ex sc d 272 87 [some (vR 373), some (vI h), some (vI t), some (vI c), some (vI (bI s.2.1)), some (vI a), l6, l7] [] (wH τ u) Q ↔ Ex sc d 272 76 [some (vR 373), some (vI h), some (vI t), some (vI c), some (vI (bI s'.2.1)), some (vI 78), l6', l7'] [] (wH ρ u) Q := by
  intro k
  induction k with
  | zero =>
    intro a τ s a0 ak HW I hk
    obtain rfl : a = 78 := by omega
    refine ⟨τ, s, fun _ _ => rfl, I, WyU.refl, hk, fun _ => ⟨rfl, fun x y x0 x1 => by omega⟩, fun u Q l6 l7 => ⟨l6, l7, ?_⟩⟩
    rw [x272_87]
    simp (disch := first | omega | exact notL_I | exact notL_N | exact notL_R | exact oM | exact catS_le (Nat.le_of_ble_eq_true rfl) | exact Nat.le_of_ble_eq_true rfl | rfl) only [x272_0, x272_1, x272_2, x272_5, x272_8, x272_11, x272_12, x272_13, x272_14, x272_15, x272_17, x272_20, x272_23, x272_24, x272_25, x272_26, x272_27, x272_28, x272_31, x272_32, x272_33, x272_36, x272_39, x272_40, x272_41, x272_44, x272_47, x272_48, x272_49, x272_50, x272_52, x272_54, x272_56, x272_59, x272_60, x272_63, x272_65, x272_66, x272_67, x272_70, x272_73, x272_74, x272_78, x272_81, x272_82, x272_84, x272_85, x272_89, x272_91, x272_94, x272_95, x272_99, x272_101, x272_104, x272_105, x272_108, x272_110, x272_111, x272_112, x272_115, x272_117, x272_119, x272_120, x272_122, x272_123, x272_124, x272_127, x272_128, x272_131, x272_132, x272_133, x272_135, x272_136, x272_139, x272_141, x272_143, x272_144, x272_146, x272_147, x272_148, x272_151, x272_153, x272_154, x272_157, x272_159, x272_160, x272_163, x272_166, x272_167, x272_170, x272_172, x272_174, x272_175, x272_176, x272_178, x272_181, x272_187, x272_190, x272_193, x272_194, x272_197, x272_198, x272_199, x272_200, x272_201, x272_202, x272_203, if_pos, if_neg, ↓reduceIte, not_true_eq_false, not_false_eq_true]
  | succ k ih =>
    intro a τ s a0 ak HW I hk
    obtain ⟨τ1, s1, p1, p2, p3, p4, p5, p6⟩ := l_rkB (sc := sc) (h := h) (t := t) (c := c) (d := d) h01 hP hn hl nr a0 (by omega) 78 0 τ s (by omega) (by omega) HW I hk
    have HW1 : WysI E τ1 := fun x y q1 q2 q3 q4 => by rw [p1 400 (by omega), p1 401 (by omega)]; exact HW x y q1 q2 q3 q4
    obtain ⟨ρ, s', z1, z2, z3, z4, z5, z6⟩ := ih (a + 1) τ1 s1 (by omega) (by omega) HW1 p2 p4
    refine ⟨ρ, s', fun c hc => (z1 c hc).trans (p1 c hc), z2, p3.trans z3, z4, fun hf => ?_, fun u Q l6 l7 => ?_⟩
    · obtain ⟨e1, e2⟩ := z5 hf
      rw [e1] at hf
      obtain ⟨e3, e4⟩ := p5 hf
      refine ⟨e1.trans e3, fun x y x0 x1 y0 y1 k hE => ?_⟩
      by_cases e : x = a
      · subst e
        exact e4 y y0 y1 k hE
      · have := e2 x y (by omega) x1 y0 y1 k hE
        rw [e3] at this
        exact this
    · obtain ⟨l7', y1⟩ := p6 u Q l7
      obtain ⟨l6'', l7'', y2⟩ := z6 u Q (some (vI 78)) l7'
      refine ⟨l6'', l7'', Iff.trans ?_ y2⟩
      rw [x272_87]
      simp (disch := first | omega | exact notL_I | exact notL_N | exact notL_R | exact oM | exact catS_le (Nat.le_of_ble_eq_true rfl) | exact Nat.le_of_ble_eq_true rfl | rfl) only [x272_0, x272_1, x272_2, x272_5, x272_8, x272_11, x272_12, x272_13, x272_14, x272_15, x272_17, x272_20, x272_23, x272_24, x272_25, x272_26, x272_27, x272_28, x272_31, x272_32, x272_33, x272_36, x272_39, x272_40, x272_41, x272_44, x272_47, x272_48, x272_49, x272_50, x272_52, x272_54, x272_56, x272_59, x272_60, x272_63, x272_65, x272_66, x272_67, x272_70, x272_73, x272_74, x272_78, x272_81, x272_82, x272_84, x272_85, x272_89, x272_91, x272_94, x272_95, x272_99, x272_101, x272_104, x272_105, x272_108, x272_110, x272_111, x272_112, x272_115, x272_117, x272_119, x272_120, x272_122, x272_123, x272_124, x272_127, x272_128, x272_131, x272_132, x272_133, x272_135, x272_136, x272_139, x272_141, x272_143, x272_144, x272_146, x272_147, x272_148, x272_151, x272_153, x272_154, x272_157, x272_159, x272_160, x272_163, x272_166, x272_167, x272_170, x272_172, x272_174, x272_175, x272_176, x272_178, x272_181, x272_187, x272_190, x272_193, x272_194, x272_197, x272_198, x272_199, x272_200, x272_201, x272_202, x272_203, if_pos, if_neg, ↓reduceIte, not_true_eq_false, not_false_eq_true]
      rw [y1, x272_184]
      simp (disch := first | omega | exact notL_I | exact notL_N | exact notL_R | exact oM | exact catS_le (Nat.le_of_ble_eq_true rfl) | exact Nat.le_of_ble_eq_true rfl | rfl) only [x272_0, x272_1, x272_2, x272_5, x272_8, x272_11, x272_12, x272_13, x272_14, x272_15, x272_17, x272_20, x272_23, x272_24, x272_25, x272_26, x272_27, x272_28, x272_31, x272_32, x272_33, x272_36, x272_39, x272_40, x272_41, x272_44, x272_47, x272_48, x272_49, x272_50, x272_52, x272_54, x272_56, x272_59, x272_60, x272_63, x272_65, x272_66, x272_67, x272_70, x272_73, x272_74, x272_78, x272_81, x272_82, x272_84, x272_85, x272_89, x272_91, x272_94, x272_95, x272_99, x272_101, x272_104, x272_105, x272_108, x272_110, x272_111, x272_112, x272_115, x272_117, x272_119, x272_120, x272_122, x272_123, x272_124, x272_127, x272_128, x272_131, x272_132, x272_133, x272_135, x272_136, x272_139, x272_141, x272_143, x272_144, x272_146, x272_147, x272_148, x272_151, x272_153, x272_154, x272_157, x272_159, x272_160, x272_163, x272_166, x272_167, x272_170, x272_172, x272_174, x272_175, x272_176, x272_178, x272_181, x272_187, x272_190, x272_193, x272_194, x272_197, x272_198, x272_199, x272_200, x272_201, x272_202, x272_203]
theorem l_rkW {E : Eg} {Pl : List Int} {d : Nat} (h01 : E01 E) (hE : ∀ a b k, E a b k → 0 ≤ a ∧ a < 78 ∧ 0 ≤ b ∧ b < 78) (hP : ∀ a b k, E a b k → a ∈ Pl ∧ b ∈ Pl) (hn : Pl.Nodup) (hl : Pl.length ≤ 18) (nr : ¬ Ring E) : ∀ (n : Nat) (τ : St) (s : Wy), WysI E τ → WyI E Pl s → rkM τ = s.1 → s.2.1 = true → 307 - (n : Int) ≤ smP Pl s.1 →
    ∃ ρ, (∀ c, c ≠ 402 → ρ c = τ c) ∧ Clo E (rkM ρ) ∧ Rch E (rkM ρ) ∧ ∀ (u : Bool × Nat × Nat × Int) (Q : Rs → HS → Prop) (l5 l6 l7 : Option V), ∃ l5' l6' l7', Ex sc d 272 76 [some (vR 373), some (vI h), some (vI t), some (vI c), some (vI 1), l5, l6, l7] [] (wH τ u) Q ↔ Ex sc d 272 193 [some (vR 373), some (vI h), some (vI t), some (vI c), some (vI 0), l5', l6', l7'] [] (wH ρ u) Q := by
  intro n
  induction n with
  | zero =>
    intro τ s HW I hk h1 hs
    exfalso
    have q : s.2.2 = false := by
      cases q : s.2.2 with
      | true => exact absurd (I.2.1 q) nr
      | false => rfl
    have hb := I.2.2.1 q
    have := smP_le (Pl := Pl) (ρ := s.1) (m := 17) (fun b => by have := hb b; omega)
    omega
  | succ n ih =>
    intro τ s HW I hk h1 hs
    have I0 : WyI E Pl (s.1, false, s.2.2) := I
    obtain ⟨τ1, s1, p1, p2, p3, p4, p5, p6⟩ := l_rkA (sc := sc) (h := h) (t := t) (c := c) (d := d) h01 hP hn hl nr 78 0 τ (s.1, false, s.2.2) (by omega) (by omega) HW I0 hk
    have HW1 : WysI E τ1 := fun x y q1 q2 q3 q4 => by rw [p1 400 (by omega), p1 401 (by omega)]; exact HW x y q1 q2 q3 q4
    have st : ∀ (u : Bool × Nat × Nat × Int) (Q : Rs → HS → Prop) (l5 l6 l7 : Option V), ∃ l6' l7', Ex sc d 272 76 [some (vR 373), some (vI h), some (vI t), some (vI c), some (vI 1), l5, l6, l7] [] (wH τ u) Q ↔ Ex sc d 272 76 [some (vR 373), some (vI h), some (vI t), some (vI c), some (vI (bI s1.2.1)), some (vI 78), l6', l7'] [] (wH τ1 u) Q := by
      intro u Q l5 l6 l7
      obtain ⟨l6', l7', y⟩ := p6 u Q l6 l7
      refine ⟨l6', l7', ?_⟩
      rw [← y, x272_76]
      simp (disch := first | omega | exact notL_I | exact notL_N | exact notL_R | exact oM | exact catS_le (Nat.le_of_ble_eq_true rfl) | exact Nat.le_of_ble_eq_true rfl | rfl) only [x272_0, x272_1, x272_2, x272_5, x272_8, x272_11, x272_12, x272_13, x272_14, x272_15, x272_17, x272_20, x272_23, x272_24, x272_25, x272_26, x272_27, x272_28, x272_31, x272_32, x272_33, x272_36, x272_39, x272_40, x272_41, x272_44, x272_47, x272_48, x272_49, x272_50, x272_52, x272_54, x272_56, x272_59, x272_60, x272_63, x272_65, x272_66, x272_67, x272_70, x272_73, x272_74, x272_78, x272_81, x272_82, x272_84, x272_85, x272_89, x272_91, x272_94, x272_95, x272_99, x272_101, x272_104, x272_105, x272_108, x272_110, x272_111, x272_112, x272_115, x272_117, x272_119, x272_120, x272_122, x272_123, x272_124, x272_127, x272_128, x272_131, x272_132, x272_133, x272_135, x272_136, x272_139, x272_141, x272_143, x272_144, x272_146, x272_147, x272_148, x272_151, x272_153, x272_154, x272_157, x272_159, x272_160, x272_163, x272_166, x272_167, x272_170, x272_172, x272_174, x272_175, x272_176, x272_178, x272_181, x272_187, x272_190, x272_194, x272_197, x272_198, x272_199, x272_200, x272_201, x272_202, x272_203, bI_f, if_pos, if_neg, ↓reduceIte, not_true_eq_false, not_false_eq_true]
    cases hq : s1.2.1 with
    | true =>
      have hs1 : 307 - (n : Int) ≤ smP Pl s1.1 := by
        rcases p3.2 hq with z | z
        · cases z
        · dsimp only at z
          omega
      obtain ⟨ρ, z1, z2, z3, z4⟩ := ih τ1 s1 HW1 p2 p4 hq hs1
      refine ⟨ρ, fun c hc => (z1 c hc).trans (p1 c hc), z2, z3, fun u Q l5 l6 l7 => ?_⟩
      obtain ⟨l6', l7', y1⟩ := st u Q l5 l6 l7
      rw [hq, bI_t] at y1
      obtain ⟨l5'', l6'', l7'', y2⟩ := z4 u Q (some (vI 78)) l6' l7'
      exact ⟨l5'', l6'', l7'', y1.trans y2⟩
    | false =>
      obtain ⟨e1, e2⟩ := p5 hq
      refine ⟨τ1, p1, ?_, ?_, fun u Q l5 l6 l7 => ?_⟩
      · rw [p4, e1]
        intro a b k hab
        have r := hE a b k hab
        exact e2 a b r.1 r.2.1 r.2.2.1 r.2.2.2 k hab
      · rw [p4, e1]
        exact I.1
      · obtain ⟨l6', l7', y1⟩ := st u Q l5 l6 l7
        rw [hq, bI_f] at y1
        refine ⟨some (vI 78), l6', l7', y1.trans ?_⟩
        rw [x272_76]
        simp (disch := first | omega | exact notL_I | exact notL_N | exact notL_R | exact oM | exact catS_le (Nat.le_of_ble_eq_true rfl) | exact Nat.le_of_ble_eq_true rfl | rfl) only [x272_0, x272_1, x272_2, x272_5, x272_8, x272_11, x272_12, x272_13, x272_14, x272_15, x272_17, x272_20, x272_23, x272_24, x272_25, x272_26, x272_27, x272_28, x272_31, x272_32, x272_33, x272_36, x272_39, x272_40, x272_41, x272_44, x272_47, x272_48, x272_49, x272_50, x272_52, x272_54, x272_56, x272_59, x272_60, x272_63, x272_65, x272_66, x272_67, x272_70, x272_73, x272_74, x272_78, x272_81, x272_82, x272_84, x272_85, x272_89, x272_91, x272_94, x272_95, x272_99, x272_101, x272_104, x272_105, x272_108, x272_110, x272_111, x272_112, x272_115, x272_117, x272_119, x272_120, x272_122, x272_123, x272_124, x272_127, x272_128, x272_131, x272_132, x272_133, x272_135, x272_136, x272_139, x272_141, x272_143, x272_144, x272_146, x272_147, x272_148, x272_151, x272_153, x272_154, x272_157, x272_159, x272_160, x272_163, x272_166, x272_167, x272_170, x272_172, x272_174, x272_175, x272_176, x272_178, x272_181, x272_187, x272_190, x272_194, x272_197, x272_198, x272_199, x272_200, x272_201, x272_202, x272_203, if_pos, if_neg, ↓reduceIte, not_true_eq_false, not_false_eq_true]
theorem l_rk0 {σ : St} {d : Nat} {u : Bool × Nat × Nat × Int} {Q : Rs → HS → Prop} {l5 l6 l7 : Option V} : ∀ (k : Nat) (i : Int), 0 ≤ i → i + k = 78 → (Ex sc d 272 52 [some (vR 373), some (vI h), some (vI t), some (vI c), some (vI i), l5, l6, l7] [] (wH (fl σ 402 0 i 0) u) Q ↔ Ex sc d 272 76 [some (vR 373), some (vI h), some (vI t), some (vI c), some (vI 1), l5, l6, l7] [] (wH (fl σ 402 0 78 0) u) Q) := by
  intro k
  induction k with
  | zero =>
    intro i i0 ik
    obtain rfl : i = 78 := by omega
    rw [x272_52]
    simp (disch := first | omega | exact notL_I | exact notL_N | exact notL_R | exact oM | exact catS_le (Nat.le_of_ble_eq_true rfl) | exact Nat.le_of_ble_eq_true rfl | rfl) only [x272_0, x272_1, x272_2, x272_5, x272_8, x272_11, x272_12, x272_13, x272_14, x272_15, x272_17, x272_20, x272_23, x272_24, x272_25, x272_26, x272_27, x272_28, x272_31, x272_32, x272_33, x272_36, x272_39, x272_40, x272_41, x272_44, x272_47, x272_48, x272_49, x272_50, x272_54, x272_56, x272_59, x272_60, x272_63, x272_65, x272_66, x272_67, x272_70, x272_73, x272_74, x272_78, x272_81, x272_82, x272_84, x272_85, x272_89, x272_91, x272_94, x272_95, x272_99, x272_101, x272_104, x272_105, x272_108, x272_110, x272_111, x272_112, x272_115, x272_117, x272_119, x272_120, x272_122, x272_123, x272_124, x272_127, x272_128, x272_131, x272_132, x272_133, x272_135, x272_136, x272_139, x272_141, x272_143, x272_144, x272_146, x272_147, x272_148, x272_151, x272_153, x272_154, x272_157, x272_159, x272_160, x272_163, x272_166, x272_167, x272_170, x272_172, x272_174, x272_175, x272_176, x272_178, x272_181, x272_187, x272_190, x272_194, x272_197, x272_198, x272_199, x272_200, x272_201, x272_202, x272_203, if_pos, if_neg, ↓reduceIte, not_true_eq_false, not_false_eq_true]
  | succ k ih =>
    intro i i0 ik
    rw [x272_52, ← ih (i + 1) (by omega) (by omega), ← fl_su i0]
    simp (disch := first | omega | exact notL_I | exact notL_N | exact notL_R | exact oM | exact catS_le (Nat.le_of_ble_eq_true rfl) | exact Nat.le_of_ble_eq_true rfl | rfl) only [x272_0, x272_1, x272_2, x272_5, x272_8, x272_11, x272_12, x272_13, x272_14, x272_15, x272_17, x272_20, x272_23, x272_24, x272_25, x272_26, x272_27, x272_28, x272_31, x272_32, x272_33, x272_36, x272_39, x272_40, x272_41, x272_44, x272_47, x272_48, x272_49, x272_50, x272_54, x272_56, x272_59, x272_60, x272_63, x272_65, x272_66, x272_67, x272_70, x272_73, x272_74, x272_78, x272_81, x272_82, x272_84, x272_85, x272_89, x272_91, x272_94, x272_95, x272_99, x272_101, x272_104, x272_105, x272_108, x272_110, x272_111, x272_112, x272_115, x272_117, x272_119, x272_120, x272_122, x272_123, x272_124, x272_127, x272_128, x272_131, x272_132, x272_133, x272_135, x272_136, x272_139, x272_141, x272_143, x272_144, x272_146, x272_147, x272_148, x272_151, x272_153, x272_154, x272_157, x272_159, x272_160, x272_163, x272_166, x272_167, x272_170, x272_172, x272_174, x272_175, x272_176, x272_178, x272_181, x272_187, x272_190, x272_194, x272_197, x272_198, x272_199, x272_200, x272_201, x272_202, x272_203, gM_ranks, WM_ranks, if_pos, if_neg, ↓reduceIte, not_true_eq_false, not_false_eq_true]
/-- the ranks of the reference, behind mustEnd -/
theorem s_ranks {σ : St} {d : Nat} {C : Int → Int} {rs : List Ru} (hok : ∀ r ∈ rs, okRl C r) (c3 : ∀ t, 0 ≤ C t ∧ C t ≤ 3) (c6 : tabF C 26 0 ≤ 6) (nr : ¬ Ring (EgR rs)) (HW : WysI (EgR rs) σ) (t0 : 0 ≤ t) (t1 : t ≤ 25) (c0 : 0 ≤ c) (c2 : c ≤ 2) :
    ∃ ρ, (∀ c, c ≠ 402 → ρ c = σ c) ∧ Clo (EgR rs) (rkM ρ) ∧ Rch (EgR rs) (rkM ρ) ∧ ∀ (u : Bool × Nat × Nat × Int) (Q : Rs → HS → Prop), Ex sc d 272 49 [some (vR 373), some (vI h), some (vI t), some (vI c), none, none, none, none] [] (wH σ u) Q ↔ Q (.inl (some (vI (rkM ρ (3 * t + c))))) (wH ρ u) := by
  have h01 : E01 (EgR rs) := fun _ _ _ z => EgR_01 z
  have hE : ∀ a b k, EgR rs a b k → 0 ≤ a ∧ a < 78 ∧ 0 ≤ b ∧ b < 78 := by
    rintro a b k ⟨q, hq, h0, x, hx, c, hc, rfl, -, -, y, hy, e, he, rfl, -⟩
    have o1 := (hok q hq).2.1 x hx
    have o2 := (hok q hq).2.2.1 y hy
    have a1 := o1.1
    have a2 := o1.2.1
    have b1 := o2.1
    have b2 := o2.2.1
    omega
  have HW1 : WysI (EgR rs) (fl σ 402 0 78 0) := fun x y q1 q2 q3 q4 => by rw [fl_ne (by omega), fl_ne (by omega)]; exact HW x y q1 q2 q3 q4
  have hk : rkM (fl σ 402 0 78 0) = fun _ => 0 := by
    funext i
    unfold rkM
    rw [fl_at]
    split <;> rfl
  obtain ⟨ρ, z1, z2, z3, z4⟩ := l_rkW (sc := sc) (h := h) (t := t) (c := c) (d := d) h01 hE (fun x y k z => EgR_pl hok z) (plcs_nd (fun t => (c3 t).2)) (plcs_len (fun t => (c3 t).1) (fun t => (c3 t).2) c6) nr 307 (fl σ 402 0 78 0) (fun _ => 0, true, false) HW1 ⟨Rch.zero, (fun z => by cases z), fun _ _ => (by show (0 : Int) < 18; decide), fun _ _ => rfl⟩ hk rfl (by rw [smP_0]; omega)
  refine ⟨ρ, fun c hc => by rw [z1 c hc, fl_ne hc], z2, z3, fun u Q => ?_⟩
  have r0 := l_rk0 (sc := sc) (h := h) (t := t) (c := c) (σ := σ) (d := d) (u := u) (Q := Q) (l5 := none) (l6 := none) (l7 := none) 78 0 (by omega) (by omega)
  rw [fl_0] at r0
  obtain ⟨l5', l6', l7', z5⟩ := z4 u Q none none none
  rw [x272_49]
  simp (disch := first | omega | exact notL_I | exact notL_N | exact notL_R | exact oM | exact catS_le (Nat.le_of_ble_eq_true rfl) | exact Nat.le_of_ble_eq_true rfl | rfl) only [x272_0, x272_1, x272_2, x272_5, x272_8, x272_11, x272_12, x272_13, x272_14, x272_15, x272_17, x272_20, x272_23, x272_24, x272_25, x272_26, x272_27, x272_28, x272_31, x272_32, x272_33, x272_36, x272_39, x272_40, x272_41, x272_44, x272_47, x272_48, x272_49, x272_50, x272_54, x272_56, x272_59, x272_60, x272_63, x272_65, x272_66, x272_67, x272_70, x272_73, x272_74, x272_78, x272_81, x272_82, x272_84, x272_85, x272_89, x272_91, x272_94, x272_95, x272_99, x272_101, x272_104, x272_105, x272_108, x272_110, x272_111, x272_112, x272_115, x272_117, x272_119, x272_120, x272_122, x272_123, x272_124, x272_127, x272_128, x272_131, x272_132, x272_133, x272_135, x272_136, x272_139, x272_141, x272_143, x272_144, x272_146, x272_147, x272_148, x272_151, x272_153, x272_154, x272_157, x272_159, x272_160, x272_163, x272_166, x272_167, x272_170, x272_172, x272_174, x272_175, x272_176, x272_178, x272_181, x272_187, x272_190, x272_194, x272_197, x272_198, x272_199, x272_200, x272_201, x272_202, x272_203]
  rw [r0, z5, x272_193, rkM_in (by omega) (by omega)]
  simp (disch := first | omega | exact notL_I | exact notL_N | exact notL_R | exact oM | exact catS_le (Nat.le_of_ble_eq_true rfl) | exact Nat.le_of_ble_eq_true rfl | rfl) only [x272_0, x272_1, x272_2, x272_5, x272_8, x272_11, x272_12, x272_13, x272_14, x272_15, x272_17, x272_20, x272_23, x272_24, x272_25, x272_26, x272_27, x272_28, x272_31, x272_32, x272_33, x272_36, x272_39, x272_40, x272_41, x272_44, x272_47, x272_48, x272_49, x272_50, x272_54, x272_56, x272_59, x272_60, x272_63, x272_65, x272_66, x272_67, x272_70, x272_73, x272_74, x272_78, x272_81, x272_82, x272_84, x272_85, x272_89, x272_91, x272_94, x272_95, x272_99, x272_101, x272_104, x272_105, x272_108, x272_110, x272_111, x272_112, x272_115, x272_117, x272_119, x272_120, x272_122, x272_123, x272_124, x272_127, x272_128, x272_131, x272_132, x272_133, x272_135, x272_136, x272_139, x272_141, x272_143, x272_144, x272_146, x272_147, x272_148, x272_151, x272_153, x272_154, x272_157, x272_159, x272_160, x272_163, x272_166, x272_167, x272_170, x272_172, x272_174, x272_175, x272_176, x272_178, x272_181, x272_187, x272_190, x272_194, x272_197, x272_198, x272_199, x272_200, x272_201, x272_202, x272_203, gM_ranks, RM_ranks, if_pos, if_neg, ↓reduceIte, not_true_eq_false, not_false_eq_true]
end N2
