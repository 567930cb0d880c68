/-! questions to the reference: an answer -/
section P7
variable {sc : Scr}
theorem trm_in {A : List Int} {g : Int → Int} (hv : ∀ v ∈ A, 0 ≤ v ∧ v ≤ 25) (hb : ∀ v ∈ A, isTm (g v)) (k : Nat) : (trm A (cB g) k = 0 ∧ A.length ≤ k) ∨ (isTm (trm A (cB g) k) ∧ k < A.length ∧ ∃ v, A[k]? = some v ∧ trm A (cB g) k = g v) := by
  unfold trm
  cases h : A[k]? with
  | none => exact Or.inl ⟨rfl, List.getElem?_eq_none_iff.mp h⟩
  | some v =>
    have hm := List.mem_of_getElem? h
    have := hv v hm
    dsimp only
    rw [cB_in this.1 this.2]
    exact Or.inr ⟨hb v hm, (List.getElem?_eq_some_iff.mp h).1, v, rfl, rfl⟩
theorem tm_vOk {t : Int} (h : t = 0 ∨ isTm t) : (vOk t ∧ t < 1000) ∨ (¬ vOk t ∧ 1000 ≤ t ∧ t ≤ 1099) := by
  unfold isTm at h
  unfold vOk
  omega
set_option maxHeartbeats 1000000 in
theorem s_answers {A l : List Int} {τ : St} {d : Nat} {q : List Rw} (hd : 2 ≤ d) (H : AnI A l τ) (a1 : 1 ≤ A.length) (a3 : A.length ≤ 3) (hl : l.length ≤ 1600) (hl2 : (ansF A l (q, cB (τ 389))).length ≤ 1600) (hb : ∀ v ∈ A, isTm (τ 389 v)) :
    ∃ τ', (∀ c, c ≠ 373 → c ≠ 398 → τ' c = τ c) ∧ (∀ j, j ≠ 42 → τ' 373 j = τ 373 j) ∧ AnI A (ansF A l (q, cB (τ 389))) τ' ∧ RnA sc d 237 0 [some (vR 373), none, none, none, none, none, none] τ none τ' := by
  obtain ⟨H1, H2, H3, H4, H5, H6⟩ := H
  have hv : ∀ v ∈ A, 0 ≤ v ∧ v ≤ 25 := fun v hv => by
    obtain ⟨k, hk, ek⟩ := List.mem_iff_getElem.mp hv
    exact (H6 k v (by rw [List.getElem?_eq_getElem hk, ek])).2
  have t0 := trm_in hv hb 0
  have t1 := trm_in hv hb 1
  have t2 := trm_in hv hb 2
  have ent : ∀ (u : Bool × Nat × Nat × Int) (Q : Rs → HS → Prop), Ex sc d 237 0 [some (vR 373), none, none, none, none, none, none] [] (wH τ u) Q ↔ Ex sc d 237 60 [some (vR 373), some (vI (trm A (cB (τ 389)) 0)), some (vI (trm A (cB (τ 389)) 1)), some (vI (trm A (cB (τ 389)) 2)), none, none, none] [] (wH τ u) Q := by
    intro u Q
    rcases t0 with ⟨z0, y0⟩ | ⟨z0, y0, v0, g0, e0⟩
    · omega
    have k0 := H6 0 v0 g0
    rw [e0]
    have k0' : τ 399 0 = v0 := k0.1
    rcases t1 with ⟨z1, y1⟩ | ⟨z1, y1, v1, g1, e1⟩
    · have z2 : trm A (cB (τ 389)) 2 = 0 := by
        rcases t2 with ⟨z2, _⟩ | ⟨_, y2, _⟩
        · exact z2
        · omega
      rw [z1, z2]
      simp (disch := first | omega | exact notL_I | exact notL_N | exact notL_R | exact oM | exact catS_le (Nat.le_of_ble_eq_true rfl) | exact Nat.le_of_ble_eq_true rfl | rfl) only [x237_0, x237_1, x237_4, x237_5, x237_8, x237_9, x237_10, x237_11, x237_12, x237_13, x237_16, x237_17, x237_20, x237_21, x237_24, x237_25, x237_28, x237_29, x237_30, x237_31, x237_34, x237_35, x237_36, x237_37, x237_40, x237_41, x237_44, x237_45, x237_48, x237_49, x237_52, x237_53, x237_54, x237_55, x237_58, x237_59, x237_61, x237_64, x237_67, x237_68, x237_71, x237_74, x237_75, x237_78, x237_81, x237_82, x237_83, x237_86, x237_90, x237_93, x237_94, x237_96, x237_97, x237_98, x237_99, x237_100, x237_101, x237_104, x237_107, x237_110, x237_115, x237_118, x237_119, x237_121, x237_122, x237_123, x237_124, x237_125, x237_126, x237_129, x237_132, x237_133, x237_134, x237_137, x237_141, x237_143, x237_146, x237_147, x237_149, x237_151, x237_152, x237_155, x237_156, x237_159, x237_160, x237_162, x237_163, x237_165, x237_166, x237_167, x237_170, x237_171, x237_173, x237_174, x237_175, x237_176, x237_178, x237_179, x237_180, x237_181, x237_184, x237_187, x237_190, x237_194, x237_197, x237_198, x237_200, x237_201, x237_202, x237_203, x237_204, x237_207, x237_208, x237_210, x237_211, x237_212, x237_213, x237_214, x237_215, x237_216, x237_219, x237_220, x237_222, x237_223, x237_224, x237_225, x237_226, x237_227, x237_228I, x237_228, x237_229, x237_232, x237_233, x237_234, x237_237, gM_bound, RM_bound, gM_asked, RM_asked, gM_askedMany, H5, k0', if_pos, if_neg, ↓reduceIte, not_true_eq_false, not_false_eq_true]
    · have k1 := H6 1 v1 g1
      have k1' : τ 399 1 = v1 := k1.1
      rw [e1]
      rcases t2 with ⟨z2, y2⟩ | ⟨z2, y2, v2, g2, e2⟩
      · rw [z2]
        simp (disch := first | omega | exact notL_I | exact notL_N | exact notL_R | exact oM | exact catS_le (Nat.le_of_ble_eq_true rfl) | exact Nat.le_of_ble_eq_true rfl | rfl) only [x237_0, x237_1, x237_4, x237_5, x237_8, x237_9, x237_10, x237_11, x237_12, x237_13, x237_16, x237_17, x237_20, x237_21, x237_24, x237_25, x237_28, x237_29, x237_30, x237_31, x237_34, x237_35, x237_36, x237_37, x237_40, x237_41, x237_44, x237_45, x237_48, x237_49, x237_52, x237_53, x237_54, x237_55, x237_58, x237_59, x237_61, x237_64, x237_67, x237_68, x237_71, x237_74, x237_75, x237_78, x237_81, x237_82, x237_83, x237_86, x237_90, x237_93, x237_94, x237_96, x237_97, x237_98, x237_99, x237_100, x237_101, x237_104, x237_107, x237_110, x237_115, x237_118, x237_119, x237_121, x237_122, x237_123, x237_124, x237_125, x237_126, x237_129, x237_132, x237_133, x237_134, x237_137, x237_141, x237_143, x237_146, x237_147, x237_149, x237_151, x237_152, x237_155, x237_156, x237_159, x237_160, x237_162, x237_163, x237_165, x237_166, x237_167, x237_170, x237_171, x237_173, x237_174, x237_175, x237_176, x237_178, x237_179, x237_180, x237_181, x237_184, x237_187, x237_190, x237_194, x237_197, x237_198, x237_200, x237_201, x237_202, x237_203, x237_204, x237_207, x237_208, x237_210, x237_211, x237_212, x237_213, x237_214, x237_215, x237_216, x237_219, x237_220, x237_222, x237_223, x237_224, x237_225, x237_226, x237_227, x237_228I, x237_228, x237_229, x237_232, x237_233, x237_234, x237_237, gM_bound, RM_bound, gM_asked, RM_asked, gM_askedMany, H5, k0', k1', if_pos, if_neg, ↓reduceIte, not_true_eq_false, not_false_eq_true]
      · have k2 := H6 2 v2 g2
        have k2' : τ 399 2 = v2 := k2.1
        rw [e2]
        simp (disch := first | omega | exact notL_I | exact notL_N | exact notL_R | exact oM | exact catS_le (Nat.le_of_ble_eq_true rfl) | exact Nat.le_of_ble_eq_true rfl | rfl) only [x237_0, x237_1, x237_4, x237_5, x237_8, x237_9, x237_10, x237_11, x237_12, x237_13, x237_16, x237_17, x237_20, x237_21, x237_24, x237_25, x237_28, x237_29, x237_30, x237_31, x237_34, x237_35, x237_36, x237_37, x237_40, x237_41, x237_44, x237_45, x237_48, x237_49, x237_52, x237_53, x237_54, x237_55, x237_58, x237_59, x237_61, x237_64, x237_67, x237_68, x237_71, x237_74, x237_75, x237_78, x237_81, x237_82, x237_83, x237_86, x237_90, x237_93, x237_94, x237_96, x237_97, x237_98, x237_99, x237_100, x237_101, x237_104, x237_107, x237_110, x237_115, x237_118, x237_119, x237_121, x237_122, x237_123, x237_124, x237_125, x237_126, x237_129, x237_132, x237_133, x237_134, x237_137, x237_141, x237_143, x237_146, x237_147, x237_149, x237_151, x237_152, x237_155, x237_156, x237_159, x237_160, x237_162, x237_163, x237_165, x237_166, x237_167, x237_170, x237_171, x237_173, x237_174, x237_175, x237_176, x237_178, x237_179, x237_180, x237_181, x237_184, x237_187, x237_190, x237_194, x237_197, x237_198, x237_200, x237_201, x237_202, x237_203, x237_204, x237_207, x237_208, x237_210, x237_211, x237_212, x237_213, x237_214, x237_215, x237_216, x237_219, x237_220, x237_222, x237_223, x237_224, x237_225, x237_226, x237_227, x237_228I, x237_228, x237_229, x237_232, x237_233, x237_234, x237_237, gM_bound, RM_bound, gM_asked, RM_asked, gM_askedMany, H5, k0', k1', k2', if_pos, if_neg, ↓reduceIte, not_true_eq_false, not_false_eq_true]
  have b0 := tm_vOk (t0.elim (fun z => Or.inl z.1) (fun z => Or.inr z.1))
  have b1 := tm_vOk (t1.elim (fun z => Or.inl z.1) (fun z => Or.inr z.1))
  have b2 := tm_vOk (t2.elim (fun z => Or.inl z.1) (fun z => Or.inr z.1))
  unfold ansF ansC at hl2 ⊢
  clear t0 t1 t2
  dsimp only at hl2 ⊢
  generalize trm A (cB (τ 389)) 0 = x at *
  generalize trm A (cB (τ 389)) 1 = y at *
  generalize trm A (cB (τ 389)) 2 = z at *
  by_cases hvv : vOk x ∧ vOk y ∧ vOk z
  · rw [if_pos hvv] at hl2 ⊢
    dsimp only at hl2 ⊢
    obtain ⟨hx, hy, hz⟩ := hvv
    have hx' := hx
    have hy' := hy
    have hz' := hz
    unfold vOk at hx' hy' hz'
    have e88 : ∀ (u : Bool × Nat × Nat × Int) (Q : Rs → HS → Prop), Ex sc d 237 60 [some (vR 373), some (vI x), some (vI y), some (vI z), none, none, none] [] (wH τ u) Q ↔ Ex sc d 237 88 [some (vR 373), some (vI x), some (vI y), some (vI z), some (vI ((l.length : Int))), none, none] [] (wH τ u) Q := by
      intro u Q
      rw [x237_60]
      simp (disch := first | omega | exact notL_I | exact notL_N | exact notL_R | exact oM | exact catS_le (Nat.le_of_ble_eq_true rfl) | exact Nat.le_of_ble_eq_true rfl | rfl) only [x237_0, x237_1, x237_4, x237_5, x237_8, x237_9, x237_10, x237_11, x237_12, x237_13, x237_16, x237_17, x237_20, x237_21, x237_24, x237_25, x237_28, x237_29, x237_30, x237_31, x237_34, x237_35, x237_36, x237_37, x237_40, x237_41, x237_44, x237_45, x237_48, x237_49, x237_52, x237_53, x237_54, x237_55, x237_58, x237_59, x237_61, x237_64, x237_67, x237_68, x237_71, x237_74, x237_75, x237_78, x237_81, x237_82, x237_83, x237_86, x237_90, x237_93, x237_94, x237_96, x237_97, x237_98, x237_99, x237_100, x237_101, x237_104, x237_107, x237_110, x237_115, x237_118, x237_119, x237_121, x237_122, x237_123, x237_124, x237_125, x237_126, x237_129, x237_132, x237_133, x237_134, x237_137, x237_141, x237_143, x237_146, x237_147, x237_149, x237_151, x237_152, x237_155, x237_156, x237_159, x237_160, x237_162, x237_163, x237_165, x237_166, x237_167, x237_170, x237_171, x237_173, x237_174, x237_175, x237_176, x237_178, x237_179, x237_180, x237_181, x237_184, x237_187, x237_190, x237_194, x237_197, x237_198, x237_200, x237_201, x237_202, x237_203, x237_204, x237_207, x237_208, x237_210, x237_211, x237_212, x237_213, x237_214, x237_215, x237_216, x237_219, x237_220, x237_222, x237_223, x237_224, x237_225, x237_226, x237_227, x237_228I, x237_228, x237_229, x237_232, x237_233, x237_234, x237_237, gM_foundMany, H1, if_pos, if_neg, ↓reduceIte, not_true_eq_false, not_false_eq_true]
    obtain ⟨k', p1, p2, p3, -⟩ := l_ansW (sc := sc) (d := d) (u := (true, 0, 0, 0)) (Q := fun _ _ => True) (l5 := none) (l6 := none) (by omega) ⟨H1, H2, H3, H4, H5, H6⟩ hl hx hy hz l.length (Nat.le_refl _) (fun b hb => by rw [List.drop_length] at hb; cases hb)
    have loop : ∀ (u : Bool × Nat × Nat × Int) (Q : Rs → HS → Prop), Ex sc d 237 88 [some (vR 373), some (vI x), some (vI y), some (vI z), some (vI ((l.length : Int))), none, none] [] (wH τ u) Q ↔ Ex sc d 237 113 [some (vR 373), some (vI x), some (vI y), some (vI z), some (vI ((k' : Int))), none, none] [] (wH τ u) Q := by
      intro u Q
      obtain ⟨k2, q1, q2, q3, q4⟩ := l_ansW (sc := sc) (d := d) (u := u) (Q := Q) (l5 := none) (l6 := none) (by omega) ⟨H1, H2, H3, H4, H5, H6⟩ hl hx hy hz l.length (Nat.le_refl _) (fun b hb => by rw [List.drop_length] at hb; cases hb)
      have : k2 = k' := by
        have key : ∀ a b : Nat, a ≤ l.length → (∀ e ∈ l.drop a, (x * 100 + y) * 100 + z < e) → (b = 0 ∨ ∃ c, l[b - 1]? = some c ∧ c ≤ (x * 100 + y) * 100 + z) → b ≤ a := by
          intro a b _ h1 h2
          rcases h2 with h2 | ⟨c, c1, c2⟩
          · omega
          · by_cases hba : b ≤ a
            · exact hba
            · exfalso
              have hm : c ∈ l.drop a := by
                rw [List.mem_iff_getElem?]
                refine ⟨b - 1 - a, ?_⟩
                rw [List.getElem?_drop, show a + (b - 1 - a) = b - 1 by omega]
                exact c1
              have := h1 c hm
              omega
        have x1 := key k2 k' q1 q2 p3
        have x2 := key k' k2 p1 p2 q3
        omega
      subst this
      exact q4
    have nk : k' ≤ l.length := p1
    by_cases hm : (x * 100 + y) * 100 + z ∈ l
    · rw [ins_r2 l H3 hm]
      refine ⟨τ, fun _ _ _ => rfl, fun _ _ => rfl, ⟨H1, H2, H3, H4, H5, H6⟩, fun u Q => ?_⟩
      -- it is the one ahead
      have hk : ∃ c, 1 ≤ k' ∧ l[k' - 1]? = some c ∧ c = (x * 100 + y) * 100 + z := by
        obtain ⟨i, hi, ei⟩ := List.mem_iff_getElem.mp hm
        have hik : i < k' := by
          by_cases c : i < k'
          · exact c
          · exfalso
            have : l[i] ∈ l.drop k' := by
              rw [List.mem_iff_getElem?]
              refine ⟨i - k', ?_⟩
              rw [List.getElem?_drop, show k' + (i - k') = i by omega]
              exact List.getElem?_eq_getElem hi
            have := p2 _ this
            omega
        rcases p3 with p3 | ⟨c, c1, c2⟩
        · omega
        · refine ⟨c, by omega, c1, ?_⟩
          by_cases hic : i = k' - 1
          · subst hic
            rw [List.getElem?_eq_getElem hi] at c1
            exact (Option.some.inj c1).symm.trans ei
          · have := srtC_lt H3 (List.getElem?_eq_getElem hi) c1 (by omega)
            omega
      obtain ⟨c, hk1, c1, ce⟩ := hk
      have cr := H4 c (List.mem_of_getElem? c1)
      have cf := H2 (k' - 1) c c1
      have ek : ((k' - 1 : Nat) : Int) = (k' : Int) - 1 := by omega
      rw [ek] at cf
      have cp := fun u Q => s_compared (sc := sc) (σ := τ) (d := d - 1) (u := u) (Q := Q) (k := (k' : Int) - 1) (by omega) (by omega) cr cf.1 cf.2.1 cf.2.2 hx hy hz
      have cv := cmpC_v cr hx hy hz
      have hp := cv.2.1.mpr ce
      unfold cmpC at hp
      rw [ent u Q, e88 u Q, loop u Q, x237_113]
      simp only [hp] at cp
      simp (disch := first | omega | exact notL_I | exact notL_N | exact notL_R | exact oM | exact catS_le (Nat.le_of_ble_eq_true rfl) | exact Nat.le_of_ble_eq_true rfl | rfl) only [x237_0, x237_1, x237_4, x237_5, x237_8, x237_9, x237_10, x237_11, x237_12, x237_13, x237_16, x237_17, x237_20, x237_21, x237_24, x237_25, x237_28, x237_29, x237_30, x237_31, x237_34, x237_35, x237_36, x237_37, x237_40, x237_41, x237_44, x237_45, x237_48, x237_49, x237_52, x237_53, x237_54, x237_55, x237_58, x237_59, x237_61, x237_64, x237_67, x237_68, x237_71, x237_74, x237_75, x237_78, x237_81, x237_82, x237_83, x237_86, x237_90, x237_93, x237_94, x237_96, x237_97, x237_98, x237_99, x237_100, x237_101, x237_104, x237_107, x237_110, x237_115, x237_118, x237_119, x237_121, x237_122, x237_123, x237_124, x237_125, x237_126, x237_129, x237_132, x237_133, x237_134, x237_137, x237_141, x237_143, x237_146, x237_147, x237_149, x237_151, x237_152, x237_155, x237_156, x237_159, x237_160, x237_162, x237_163, x237_165, x237_166, x237_167, x237_170, x237_171, x237_173, x237_174, x237_175, x237_176, x237_178, x237_179, x237_180, x237_181, x237_184, x237_187, x237_190, x237_194, x237_197, x237_198, x237_200, x237_201, x237_202, x237_203, x237_204, x237_207, x237_208, x237_210, x237_211, x237_212, x237_213, x237_214, x237_215, x237_216, x237_219, x237_220, x237_222, x237_223, x237_224, x237_225, x237_226, x237_227, x237_228I, x237_228, x237_229, x237_232, x237_233, x237_234, x237_237, cp, Kc_some, if_pos, if_neg, ↓reduceIte, not_true_eq_false, not_false_eq_true]
    · have htk : ∀ a ∈ l.take k', a < (x * 100 + y) * 100 + z := by
        rcases p3 with p3 | ⟨c, c1, c2⟩
        · subst p3
          intro a ha
          rw [List.take_zero] at ha
          cases ha
        · have hne : c ≠ (x * 100 + y) * 100 + z := fun e => hm (by rw [← e]; exact List.mem_of_getElem? c1)
          have hk1 : 1 ≤ k' := by
            by_cases c : 1 ≤ k'
            · exact c
            · exfalso
              obtain rfl : k' = 0 := by omega
              have := p2 _ (by rw [List.drop_zero]; exact List.mem_of_getElem? c1)
              omega
          have := take_lt H3 c1 (show c < (x * 100 + y) * 100 + z by omega)
          rw [Nat.sub_add_cancel hk1] at this
          exact this
      have ei := ins_r1 p2 htk
      rw [ei] at hl2 ⊢
      have hlen : (l.take k' ++ ((x * 100 + y) * 100 + z) :: l.drop k').length = l.length + 1 := by
        rw [List.length_append, List.length_cons, List.length_take, List.length_drop]
        omega
      rw [hlen] at hl2
      -- the one ahead is less
      have e133 : ∀ (u : Bool × Nat × Nat × Int) (Q : Rs → HS → Prop), Ex sc d 237 113 [some (vR 373), some (vI x), some (vI y), some (vI z), some (vI ((k' : Int))), none, none] [] (wH τ u) Q ↔ Ex sc d 237 139 [some (vR 373), some (vI x), some (vI y), some (vI z), some (vI ((k' : Int))), some (vI ((l.length : Int))), none] [] (wH τ u) Q := by
        intro u Q
        rcases p3 with p3 | ⟨c, c1, c2⟩
        · subst p3
          rw [x237_113]
          simp (disch := first | omega | exact notL_I | exact notL_N | exact notL_R | exact oM | exact catS_le (Nat.le_of_ble_eq_true rfl) | exact Nat.le_of_ble_eq_true rfl | rfl) only [x237_0, x237_1, x237_4, x237_5, x237_8, x237_9, x237_10, x237_11, x237_12, x237_13, x237_16, x237_17, x237_20, x237_21, x237_24, x237_25, x237_28, x237_29, x237_30, x237_31, x237_34, x237_35, x237_36, x237_37, x237_40, x237_41, x237_44, x237_45, x237_48, x237_49, x237_52, x237_53, x237_54, x237_55, x237_58, x237_59, x237_61, x237_64, x237_67, x237_68, x237_71, x237_74, x237_75, x237_78, x237_81, x237_82, x237_83, x237_86, x237_90, x237_93, x237_94, x237_96, x237_97, x237_98, x237_99, x237_100, x237_101, x237_104, x237_107, x237_110, x237_115, x237_118, x237_119, x237_121, x237_122, x237_123, x237_124, x237_125, x237_126, x237_129, x237_132, x237_133, x237_134, x237_137, x237_141, x237_143, x237_146, x237_147, x237_149, x237_151, x237_152, x237_155, x237_156, x237_159, x237_160, x237_162, x237_163, x237_165, x237_166, x237_167, x237_170, x237_171, x237_173, x237_174, x237_175, x237_176, x237_178, x237_179, x237_180, x237_181, x237_184, x237_187, x237_190, x237_194, x237_197, x237_198, x237_200, x237_201, x237_202, x237_203, x237_204, x237_207, x237_208, x237_210, x237_211, x237_212, x237_213, x237_214, x237_215, x237_216, x237_219, x237_220, x237_222, x237_223, x237_224, x237_225, x237_226, x237_227, x237_228I, x237_228, x237_229, x237_232, x237_233, x237_234, x237_237, gM_foundMany, H1, Int.natCast_zero, if_pos, if_neg, ↓reduceIte, not_true_eq_false, not_false_eq_true]
        · have hne : c ≠ (x * 100 + y) * 100 + z := fun e => hm (by rw [← e]; exact List.mem_of_getElem? c1)
          by_cases hk1 : k' = 0
          · subst hk1
            rw [x237_113]
            simp (disch := first | omega | exact notL_I | exact notL_N | exact notL_R | exact oM | exact catS_le (Nat.le_of_ble_eq_true rfl) | exact Nat.le_of_ble_eq_true rfl | rfl) only [x237_0, x237_1, x237_4, x237_5, x237_8, x237_9, x237_10, x237_11, x237_12, x237_13, x237_16, x237_17, x237_20, x237_21, x237_24, x237_25, x237_28, x237_29, x237_30, x237_31, x237_34, x237_35, x237_36, x237_37, x237_40, x237_41, x237_44, x237_45, x237_48, x237_49, x237_52, x237_53, x237_54, x237_55, x237_58, x237_59, x237_61, x237_64, x237_67, x237_68, x237_71, x237_74, x237_75, x237_78, x237_81, x237_82, x237_83, x237_86, x237_90, x237_93, x237_94, x237_96, x237_97, x237_98, x237_99, x237_100, x237_101, x237_104, x237_107, x237_110, x237_115, x237_118, x237_119, x237_121, x237_122, x237_123, x237_124, x237_125, x237_126, x237_129, x237_132, x237_133, x237_134, x237_137, x237_141, x237_143, x237_146, x237_147, x237_149, x237_151, x237_152, x237_155, x237_156, x237_159, x237_160, x237_162, x237_163, x237_165, x237_166, x237_167, x237_170, x237_171, x237_173, x237_174, x237_175, x237_176, x237_178, x237_179, x237_180, x237_181, x237_184, x237_187, x237_190, x237_194, x237_197, x237_198, x237_200, x237_201, x237_202, x237_203, x237_204, x237_207, x237_208, x237_210, x237_211, x237_212, x237_213, x237_214, x237_215, x237_216, x237_219, x237_220, x237_222, x237_223, x237_224, x237_225, x237_226, x237_227, x237_228I, x237_228, x237_229, x237_232, x237_233, x237_234, x237_237, gM_foundMany, H1, Int.natCast_zero, if_pos, if_neg, ↓reduceIte, not_true_eq_false, not_false_eq_true]
          · have cr := H4 c (List.mem_of_getElem? c1)
            have cf := H2 (k' - 1) c c1
            have ek : ((k' - 1 : Nat) : Int) = (k' : Int) - 1 := by omega
            rw [ek] at cf
            have cp := fun u Q => s_compared (sc := sc) (σ := τ) (d := d - 1) (u := u) (Q := Q) (k := (k' : Int) - 1) (by omega) (by omega) cr cf.1 cf.2.1 cf.2.2 hx hy hz
            have cv := cmpC_v cr hx hy hz
            have hp : ¬ cmpC c x y z = 0 := fun w => hne (cv.2.1.mp w)
            have hr := cv.2.2
            have cp' : ∀ (u : Bool × Nat × Nat × Int) (Q : Rs → HS → Prop), Ex sc (d - 1) 238 0 [some (vR 373), some (vI ((k' : Int) - 1)), some (vI x), some (vI y), some (vI z)] [] (wH τ u) Q ↔ Q (.inl (some (vI (cmpC c x y z)))) (wH τ u) := cp
            generalize cmpC c x y z = X at *
            rw [x237_113]
            simp (disch := first | omega | exact notL_I | exact notL_N | exact notL_R | exact oM | exact catS_le (Nat.le_of_ble_eq_true rfl) | exact Nat.le_of_ble_eq_true rfl | rfl) only [x237_0, x237_1, x237_4, x237_5, x237_8, x237_9, x237_10, x237_11, x237_12, x237_13, x237_16, x237_17, x237_20, x237_21, x237_24, x237_25, x237_28, x237_29, x237_30, x237_31, x237_34, x237_35, x237_36, x237_37, x237_40, x237_41, x237_44, x237_45, x237_48, x237_49, x237_52, x237_53, x237_54, x237_55, x237_58, x237_59, x237_61, x237_64, x237_67, x237_68, x237_71, x237_74, x237_75, x237_78, x237_81, x237_82, x237_83, x237_86, x237_90, x237_93, x237_94, x237_96, x237_97, x237_98, x237_99, x237_100, x237_101, x237_104, x237_107, x237_110, x237_115, x237_118, x237_119, x237_121, x237_122, x237_123, x237_124, x237_125, x237_126, x237_129, x237_132, x237_133, x237_134, x237_137, x237_141, x237_143, x237_146, x237_147, x237_149, x237_151, x237_152, x237_155, x237_156, x237_159, x237_160, x237_162, x237_163, x237_165, x237_166, x237_167, x237_170, x237_171, x237_173, x237_174, x237_175, x237_176, x237_178, x237_179, x237_180, x237_181, x237_184, x237_187, x237_190, x237_194, x237_197, x237_198, x237_200, x237_201, x237_202, x237_203, x237_204, x237_207, x237_208, x237_210, x237_211, x237_212, x237_213, x237_214, x237_215, x237_216, x237_219, x237_220, x237_222, x237_223, x237_224, x237_225, x237_226, x237_227, x237_228I, x237_228, x237_229, x237_232, x237_233, x237_234, x237_237, gM_foundMany, H1, cp', Kc_some, if_pos, if_neg, ↓reduceIte, not_true_eq_false, not_false_eq_true]
      have z0 : shS τ (3 * (l.length : Int) + 3) (3 * (l.length : Int) + 3) = τ := shS_0
      have hfin : ∀ (u : Bool × Nat × Nat × Int) (Q : Rs → HS → Prop) (l6 : Option V), Ex sc d 237 193 [some (vR 373), some (vI x), some (vI y), some (vI z), some (vI ((k' : Int))), some (vI ((k' : Int))), l6] [] (wH (shS τ (3 * (k' : Int) + 3) (3 * (l.length : Int) + 3)) u) Q ↔ Q (.inl none) (wH (su (su (su (su (shS τ (3 * (k' : Int) + 3) (3 * (l.length : Int) + 3)) 398 (3 * (k' : Int)) x) 398 (3 * (k' : Int) + 1) y) 398 (3 * (k' : Int) + 2) z) 373 42 ((l.length : Int) + 1)) u) := by
        intro u Q l6
        have h42 : shS τ (3 * (k' : Int) + 3) (3 * (l.length : Int) + 3) 373 42 = (l.length : Int) := by rw [shS_ne (by omega)]; exact H1
        rw [x237_193]
        simp (disch := first | omega | exact notL_I | exact notL_N | exact notL_R | exact oM | exact catS_le (Nat.le_of_ble_eq_true rfl) | exact Nat.le_of_ble_eq_true rfl | rfl) only [x237_0, x237_1, x237_4, x237_5, x237_8, x237_9, x237_10, x237_11, x237_12, x237_13, x237_16, x237_17, x237_20, x237_21, x237_24, x237_25, x237_28, x237_29, x237_30, x237_31, x237_34, x237_35, x237_36, x237_37, x237_40, x237_41, x237_44, x237_45, x237_48, x237_49, x237_52, x237_53, x237_54, x237_55, x237_58, x237_59, x237_61, x237_64, x237_67, x237_68, x237_71, x237_74, x237_75, x237_78, x237_81, x237_82, x237_83, x237_86, x237_90, x237_93, x237_94, x237_96, x237_97, x237_98, x237_99, x237_100, x237_101, x237_104, x237_107, x237_110, x237_115, x237_118, x237_119, x237_121, x237_122, x237_123, x237_124, x237_125, x237_126, x237_129, x237_132, x237_133, x237_134, x237_137, x237_141, x237_143, x237_146, x237_147, x237_149, x237_151, x237_152, x237_155, x237_156, x237_159, x237_160, x237_162, x237_163, x237_165, x237_166, x237_167, x237_170, x237_171, x237_173, x237_174, x237_175, x237_176, x237_178, x237_179, x237_180, x237_181, x237_184, x237_187, x237_190, x237_194, x237_197, x237_198, x237_200, x237_201, x237_202, x237_203, x237_204, x237_207, x237_208, x237_210, x237_211, x237_212, x237_213, x237_214, x237_215, x237_216, x237_219, x237_220, x237_222, x237_223, x237_224, x237_225, x237_226, x237_227, x237_228I, x237_228, x237_229, x237_232, x237_233, x237_234, x237_237, gM_found, WM_found, gM_foundMany, pM_foundMany, su_ne, h42, if_pos, if_neg, ↓reduceIte, not_true_eq_false, not_false_eq_true]
      refine ⟨su (su (su (su (shS τ (3 * (k' : Int) + 3) (3 * (l.length : Int) + 3)) 398 (3 * (k' : Int)) x) 398 (3 * (k' : Int) + 1) y) 398 (3 * (k' : Int) + 2) z) 373 42 ((l.length : Int) + 1), fun c a b => ?_, fun j hj => ?_, ⟨?_, ?_, ?_, ?_, ?_, fun k v hk => ?_⟩, fun u Q => ?_⟩
      rotate_left 8
      · obtain ⟨l6', sh⟩ := l_ansS (sc := sc) (σ := τ) (d := d) (u := u) (Q := Q) (x := x) (y := y) (z := z) (k := (k' : Int)) (N := (l.length : Int)) (by omega) (by omega) (l.length - k') (l.length : Int) none (by omega) (by omega)
        rw [z0] at sh
        rw [ent u Q, e88 u Q, loop u Q, e133 u Q, sh]
        exact hfin u Q l6'
      · rw [su_ne a, su_ne b, su_ne b, su_ne b, shS_ne b]
      · rw [su_off hj, su_ne (by omega), su_ne (by omega), su_ne (by omega), shS_ne (by omega)]
      · rw [su_eq, hlen]
        omega
      · refine fnV_ins H2 nk hx hy hz (fun j j0 j1 => ?_)
        rw [su_ne (by omega), su_at, su_at, su_at, shS_at]
        by_cases c2 : j = 3 * (k' : Int) + 2
        · rw [if_pos c2, if_pos c2]
        · rw [if_neg c2, if_neg c2]
          by_cases c1 : j = 3 * (k' : Int) + 1
          · rw [if_pos c1, if_pos c1]
          · rw [if_neg c1, if_neg c1]
            by_cases c0 : j = 3 * (k' : Int)
            · rw [if_pos c0, if_pos c0]
            · rw [if_neg c0, if_neg c0]
              by_cases c3 : 3 * ((k' : Int) + 1) ≤ j
              · rw [if_pos c3, if_pos (by omega)]
              · rw [if_neg c3, if_neg (by omega)]
      · have := ins_srt (c := (x * 100 + y) * 100 + z) l H3
        rw [ei] at this
        exact this
      · intro c hc
        rw [← ei] at hc
        rcases ins_mem l hc with rfl | hc
        · omega
        · exact H4 c hc
      · rw [su_off (by omega), su_ne (by omega), su_ne (by omega), su_ne (by omega), shS_ne (by omega)]
        exact H5
      · rw [su_ne (by omega), su_ne (by omega), su_ne (by omega), su_ne (by omega), shS_ne (by omega)]
        exact H6 k v hk
  · rw [if_neg hvv] at hl2 ⊢
    dsimp only
    refine ⟨τ, fun _ _ _ => rfl, fun _ _ => rfl, ⟨H1, H2, H3, H4, H5, H6⟩, fun u Q => ?_⟩
    rw [ent u Q, x237_60]
    by_cases c0 : vOk x
    · by_cases c1 : vOk y
      · have c2 : ¬ vOk z := fun w => hvv ⟨c0, c1, w⟩
        have y0 : x < 1000 ∧ 0 ≤ x := by unfold vOk at c0; omega
        have y1 : y < 1000 ∧ 0 ≤ y := by unfold vOk at c1; omega
        have y2 := b2.resolve_left (fun w => c2 w.1)
        simp (disch := first | omega | exact notL_I | exact notL_N | exact notL_R | exact oM | exact catS_le (Nat.le_of_ble_eq_true rfl) | exact Nat.le_of_ble_eq_true rfl | rfl) only [x237_0, x237_1, x237_4, x237_5, x237_8, x237_9, x237_10, x237_11, x237_12, x237_13, x237_16, x237_17, x237_20, x237_21, x237_24, x237_25, x237_28, x237_29, x237_30, x237_31, x237_34, x237_35, x237_36, x237_37, x237_40, x237_41, x237_44, x237_45, x237_48, x237_49, x237_52, x237_53, x237_54, x237_55, x237_58, x237_59, x237_61, x237_64, x237_67, x237_68, x237_71, x237_74, x237_75, x237_78, x237_81, x237_82, x237_83, x237_86, x237_90, x237_93, x237_94, x237_96, x237_97, x237_98, x237_99, x237_100, x237_101, x237_104, x237_107, x237_110, x237_115, x237_118, x237_119, x237_121, x237_122, x237_123, x237_124, x237_125, x237_126, x237_129, x237_132, x237_133, x237_134, x237_137, x237_141, x237_143, x237_146, x237_147, x237_149, x237_151, x237_152, x237_155, x237_156, x237_159, x237_160, x237_162, x237_163, x237_165, x237_166, x237_167, x237_170, x237_171, x237_173, x237_174, x237_175, x237_176, x237_178, x237_179, x237_180, x237_181, x237_184, x237_187, x237_190, x237_194, x237_197, x237_198, x237_200, x237_201, x237_202, x237_203, x237_204, x237_207, x237_208, x237_210, x237_211, x237_212, x237_213, x237_214, x237_215, x237_216, x237_219, x237_220, x237_222, x237_223, x237_224, x237_225, x237_226, x237_227, x237_228I, x237_228, x237_229, x237_232, x237_233, x237_234, x237_237, if_pos, if_neg, ↓reduceIte, not_true_eq_false, not_false_eq_true]
      · have y0 : x < 1000 ∧ 0 ≤ x := by unfold vOk at c0; omega
        have y1 := b1.resolve_left (fun w => c1 w.1)
        simp (disch := first | omega | exact notL_I | exact notL_N | exact notL_R | exact oM | exact catS_le (Nat.le_of_ble_eq_true rfl) | exact Nat.le_of_ble_eq_true rfl | rfl) only [x237_0, x237_1, x237_4, x237_5, x237_8, x237_9, x237_10, x237_11, x237_12, x237_13, x237_16, x237_17, x237_20, x237_21, x237_24, x237_25, x237_28, x237_29, x237_30, x237_31, x237_34, x237_35, x237_36, x237_37, x237_40, x237_41, x237_44, x237_45, x237_48, x237_49, x237_52, x237_53, x237_54, x237_55, x237_58, x237_59, x237_61, x237_64, x237_67, x237_68, x237_71, x237_74, x237_75, x237_78, x237_81, x237_82, x237_83, x237_86, x237_90, x237_93, x237_94, x237_96, x237_97, x237_98, x237_99, x237_100, x237_101, x237_104, x237_107, x237_110, x237_115, x237_118, x237_119, x237_121, x237_122, x237_123, x237_124, x237_125, x237_126, x237_129, x237_132, x237_133, x237_134, x237_137, x237_141, x237_143, x237_146, x237_147, x237_149, x237_151, x237_152, x237_155, x237_156, x237_159, x237_160, x237_162, x237_163, x237_165, x237_166, x237_167, x237_170, x237_171, x237_173, x237_174, x237_175, x237_176, x237_178, x237_179, x237_180, x237_181, x237_184, x237_187, x237_190, x237_194, x237_197, x237_198, x237_200, x237_201, x237_202, x237_203, x237_204, x237_207, x237_208, x237_210, x237_211, x237_212, x237_213, x237_214, x237_215, x237_216, x237_219, x237_220, x237_222, x237_223, x237_224, x237_225, x237_226, x237_227, x237_228I, x237_228, x237_229, x237_232, x237_233, x237_234, x237_237, if_pos, if_neg, ↓reduceIte, not_true_eq_false, not_false_eq_true]
    · have y0 := b0.resolve_left (fun w => c0 w.1)
      simp (disch := first | omega | exact notL_I | exact notL_N | exact notL_R | exact oM | exact catS_le (Nat.le_of_ble_eq_true rfl) | exact Nat.le_of_ble_eq_true rfl | rfl) only [x237_0, x237_1, x237_4, x237_5, x237_8, x237_9, x237_10, x237_11, x237_12, x237_13, x237_16, x237_17, x237_20, x237_21, x237_24, x237_25, x237_28, x237_29, x237_30, x237_31, x237_34, x237_35, x237_36, x237_37, x237_40, x237_41, x237_44, x237_45, x237_48, x237_49, x237_52, x237_53, x237_54, x237_55, x237_58, x237_59, x237_61, x237_64, x237_67, x237_68, x237_71, x237_74, x237_75, x237_78, x237_81, x237_82, x237_83, x237_86, x237_90, x237_93, x237_94, x237_96, x237_97, x237_98, x237_99, x237_100, x237_101, x237_104, x237_107, x237_110, x237_115, x237_118, x237_119, x237_121, x237_122, x237_123, x237_124, x237_125, x237_126, x237_129, x237_132, x237_133, x237_134, x237_137, x237_141, x237_143, x237_146, x237_147, x237_149, x237_151, x237_152, x237_155, x237_156, x237_159, x237_160, x237_162, x237_163, x237_165, x237_166, x237_167, x237_170, x237_171, x237_173, x237_174, x237_175, x237_176, x237_178, x237_179, x237_180, x237_181, x237_184, x237_187, x237_190, x237_194, x237_197, x237_198, x237_200, x237_201, x237_202, x237_203, x237_204, x237_207, x237_208, x237_210, x237_211, x237_212, x237_213, x237_214, x237_215, x237_216, x237_219, x237_220, x237_222, x237_223, x237_224, x237_225, x237_226, x237_227, x237_228I, x237_228, x237_229, x237_232, x237_233, x237_234, x237_237, if_pos, if_neg, ↓reduceIte, not_true_eq_false, not_false_eq_true]
end P7
