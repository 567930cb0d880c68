/-! ways of the reference: closing, rings -/
def RcI (R : Int → Int → Prop) (τ : St) : Prop := ∀ x y, 0 ≤ x → x < 78 → 0 ≤ y → y < 78 → (τ 403 (78 * x + y) = 0 ∨ τ 403 (78 * x + y) = 1) ∧ (τ 403 (78 * x + y) = 1 ↔ R x y)
theorem RcI.c {R R' : Int → Int → Prop} {τ : St} (h : RcI R τ) (hR : ∀ x y, 0 ≤ x → x < 78 → 0 ≤ y → y < 78 → (R x y ↔ R' x y)) : RcI R' τ := fun x y a b c e => ⟨(h x y a b c e).1, (h x y a b c e).2.trans (hR x y a b c e)⟩
section N1
variable {sc : Scr} {h : Int}
theorem l_rch0 {σ : St} {d : Nat} {u : Bool × Nat × Nat × Int} {Q : Rs → HS → Prop} {l3 l4 : Option V} (hb : ∀ j, 0 ≤ j → j < 6084 → σ 400 j = 0 ∨ σ 400 j = 1) : ∀ (k : Nat) (i : Int), 0 ≤ i → i + k = 6084 → (Ex sc d 268 7 [some (vR 373), some (vI h), some (vI i), l3, l4] [] (wH (scp σ 400 0 403 0 i) u) Q ↔ Ex sc d 268 34 [some (vR 373), some (vI h), some (vI 0), l3, l4] [] (wH (scp σ 400 0 403 0 6084) u) Q) := by
  intro k
  induction k with
  | zero =>
    intro i i0 ik
    obtain rfl : i = 6084 := by omega
    rw [x268_7]
    simp (disch := first | omega | exact notL_I | exact notL_N | exact notL_R | exact oM | exact catS_le (Nat.le_of_ble_eq_true rfl) | exact Nat.le_of_ble_eq_true rfl | rfl) only [x268_0, x268_1, x268_2, x268_5, x268_6, x268_8, x268_11, x268_14, x268_15, x268_18, x268_19, x268_20, x268_23, x268_24, x268_25, x268_26, x268_29, x268_32, x268_33, x268_35, x268_37, x268_40, x268_41, x268_42, x268_43, x268_45, x268_48, x268_49, x268_52, x268_54, x268_55, x268_56, x268_57, x268_58, x268_59, x268_62, x268_65, x268_66, x268_68, x268_70, x268_72, x268_75, x268_76, x268_79, x268_81, x268_82, x268_83, x268_85, x268_86, x268_87, x268_90, x268_92, x268_93, x268_94, x268_96, x268_97, x268_98, x268_101, x268_102, x268_105, x268_107, x268_108, x268_109, x268_111, x268_112, x268_113, x268_116, x268_117, x268_120, x268_121, x268_122, x268_125, x268_128, x268_131, x268_134, x268_137, x268_140, x268_141, x268_142, x268_143, x268_144, x268_145, x268_147, x268_150, x268_151, x268_153, x268_155, x268_157, x268_160, x268_161, x268_164, x268_165, x268_168, x268_170, x268_171, x268_172, x268_174, x268_175, x268_176, x268_179, x268_180, x268_182, x268_185, x268_186, x268_189, x268_191, x268_193, x268_194, x268_195, x268_196, x268_197, x268_200, x268_201, x268_204, x268_205, x268_206, x268_209, x268_212, x268_215, x268_218, x268_219, if_pos, if_neg, ↓reduceIte, not_true_eq_false, not_false_eq_true]
  | succ k ih =>
    intro i i0 ik
    have er : scp σ 400 0 403 0 i 400 i = σ 400 i := by rw [scp_ne (by omega)]
    have hbi := hb i i0 (by omega)
    rw [x268_7, ← ih (i + 1) (by omega) (by omega), ← scp_su (x := σ 400 i) (i := i) i0 (by rw [Int.zero_add]) (by rw [Int.zero_add])]
    simp (disch := first | omega | exact notL_I | exact notL_N | exact notL_R | exact oM | exact catS_le (Nat.le_of_ble_eq_true rfl) | exact Nat.le_of_ble_eq_true rfl | rfl) only [x268_0, x268_1, x268_2, x268_5, x268_6, x268_8, x268_11, x268_14, x268_15, x268_18, x268_19, x268_20, x268_23, x268_24, x268_25, x268_26, x268_29, x268_32, x268_33, x268_35, x268_37, x268_40, x268_41, x268_42, x268_43, x268_45, x268_48, x268_49, x268_52, x268_54, x268_55, x268_56, x268_57, x268_58, x268_59, x268_62, x268_65, x268_66, x268_68, x268_70, x268_72, x268_75, x268_76, x268_79, x268_81, x268_82, x268_83, x268_85, x268_86, x268_87, x268_90, x268_92, x268_93, x268_94, x268_96, x268_97, x268_98, x268_101, x268_102, x268_105, x268_107, x268_108, x268_109, x268_111, x268_112, x268_113, x268_116, x268_117, x268_120, x268_121, x268_122, x268_125, x268_128, x268_131, x268_134, x268_137, x268_140, x268_141, x268_142, x268_143, x268_144, x268_145, x268_147, x268_150, x268_151, x268_153, x268_155, x268_157, x268_160, x268_161, x268_164, x268_165, x268_168, x268_170, x268_171, x268_172, x268_174, x268_175, x268_176, x268_179, x268_180, x268_182, x268_185, x268_186, x268_189, x268_191, x268_193, x268_194, x268_195, x268_196, x268_197, x268_200, x268_201, x268_204, x268_205, x268_206, x268_209, x268_212, x268_215, x268_218, x268_219, gM_leadsTo, RM_leadsTo, gM_reach, WM_reach, er, if_pos, if_neg, ↓reduceIte, not_true_eq_false, not_false_eq_true]
theorem l_rchC {d : Nat} {R : Int → Int → Prop} {a b : Int} (a0 : 0 ≤ a) (a1 : a < 78) (b0 : 0 ≤ b) (b1 : b < 78) : ∀ (k : Nat) (c : Int) (τ : St), 0 ≤ c → c + k = 78 → RcI (fun x y => R x y ∨ (x = a ∧ y < c ∧ R b y)) τ →
    ∃ ρ, (∀ c, c ≠ 403 → ρ c = τ c) ∧ RcI (fun x y => R x y ∨ (x = a ∧ R b y)) ρ ∧ ∀ (u : Bool × Nat × Nat × Int) (Q : Rs → HS → Prop), Ex sc d 268 68 [some (vR 373), some (vI h), some (vI b), some (vI a), some (vI c)] [] (wH τ u) Q ↔ Ex sc d 268 128 [some (vR 373), some (vI h), some (vI b), some (vI a), some (vI 78)] [] (wH ρ u) Q := by
  intro k
  induction k with
  | zero =>
    intro c τ c0 ck H
    obtain rfl : c = 78 := by omega
    refine ⟨τ, fun _ _ => rfl, H.c (fun x y x0 x1 y0 y1 => ?_), fun u Q => ?_⟩
    · constructor
      · rintro (z | ⟨p, q, z⟩)
        · exact Or.inl z
        · exact Or.inr ⟨p, z⟩
      · rintro (z | ⟨p, z⟩)
        · exact Or.inl z
        · exact Or.inr ⟨p, y1, z⟩
    · rw [x268_68]
      simp (disch := first | omega | exact notL_I | exact notL_N | exact notL_R | exact oM | exact catS_le (Nat.le_of_ble_eq_true rfl) | exact Nat.le_of_ble_eq_true rfl | rfl) only [x268_0, x268_1, x268_2, x268_5, x268_6, x268_7, x268_8, x268_11, x268_14, x268_15, x268_18, x268_19, x268_20, x268_23, x268_24, x268_25, x268_26, x268_29, x268_32, x268_33, x268_35, x268_37, x268_40, x268_41, x268_43, x268_45, x268_48, x268_49, x268_52, x268_54, x268_55, x268_56, x268_57, x268_58, x268_59, x268_62, x268_65, x268_66, x268_70, x268_72, x268_75, x268_76, x268_79, x268_81, x268_82, x268_83, x268_85, x268_86, x268_87, x268_90, x268_92, x268_93, x268_94, x268_96, x268_97, x268_98, x268_101, x268_102, x268_105, x268_107, x268_108, x268_109, x268_111, x268_112, x268_113, x268_116, x268_117, x268_120, x268_121, x268_122, x268_125, x268_131, x268_134, x268_137, x268_140, x268_141, x268_142, x268_143, x268_144, x268_145, x268_147, x268_150, x268_151, x268_153, x268_155, x268_157, x268_160, x268_161, x268_164, x268_165, x268_168, x268_170, x268_171, x268_172, x268_174, x268_175, x268_176, x268_179, x268_180, x268_182, x268_185, x268_186, x268_189, x268_191, x268_193, x268_194, x268_195, x268_196, x268_197, x268_200, x268_201, x268_204, x268_205, x268_206, x268_209, x268_212, x268_215, x268_218, x268_219, if_pos, if_neg, ↓reduceIte, not_true_eq_false, not_false_eq_true]
  | succ k ih =>
    intro c τ c0 ck H
    have hac := H a c a0 a1 c0 (by omega)
    have hbc := H b c b0 b1 c0 (by omega)
    have ebc : τ 403 (78 * b + c) = 1 ↔ R b c := by
      rw [hbc.2]
      constructor
      · rintro (z | ⟨p, q, z⟩)
        · exact z
        · omega
      · exact Or.inl
    have eac : τ 403 (78 * a + c) = 1 ↔ R a c := by
      rw [hac.2]
      constructor
      · rintro (z | ⟨p, q, z⟩)
        · exact z
        · omega
      · exact Or.inl
    -- the next row of marks
    have nx : ∀ v, (v = 0 ∨ v = 1) → (v = 1 ↔ R a c ∨ R b c) → RcI (fun x y => R x y ∨ (x = a ∧ y < c + 1 ∧ R b y)) (su τ 403 (78 * a + c) v) := by
      intro v v01 hv x y x0 x1 y0 y1
      by_cases e : 78 * x + y = 78 * a + c
      · have ex : x = a := by omega
        have ey : y = c := by omega
        subst ex
        subst ey
        rw [su_eq]
        refine ⟨v01, hv.trans ?_⟩
        constructor
        · rintro (z | z)
          · exact Or.inl z
          · exact Or.inr ⟨rfl, by omega, z⟩
        · rintro (z | ⟨_, _, z⟩)
          · exact Or.inl z
          · exact Or.inr z
      · rw [su_off e]
        have := H x y x0 x1 y0 y1
        refine ⟨this.1, this.2.trans ?_⟩
        constructor
        · rintro (z | ⟨p, q, z⟩)
          · exact Or.inl z
          · exact Or.inr ⟨p, by omega, z⟩
        · rintro (z | ⟨p, q, z⟩)
          · exact Or.inl z
          · exact Or.inr ⟨p, by omega, z⟩
    rcases hac.1 with q1 | q1
    · rcases hbc.1 with q2 | q2
      · obtain ⟨ρ, y1, y2, y3⟩ := ih (c + 1) (su τ 403 (78 * a + c) 0) (by omega) (by omega) (nx 0 (Or.inl rfl) ⟨(fun z => by cases z), fun z => z.elim (fun z => by have := eac.mpr z; omega) (fun z => by have := ebc.mpr z; omega)⟩)
        refine ⟨ρ, fun c hc => by rw [y1 c hc, su_ne hc], y2, fun u Q => ?_⟩
        rw [← y3 u Q, x268_68]
        simp (disch := first | omega | exact notL_I | exact notL_N | exact notL_R | exact oM | exact catS_le (Nat.le_of_ble_eq_true rfl) | exact Nat.le_of_ble_eq_true rfl | rfl) only [x268_0, x268_1, x268_2, x268_5, x268_6, x268_7, x268_8, x268_11, x268_14, x268_15, x268_18, x268_19, x268_20, x268_23, x268_24, x268_25, x268_26, x268_29, x268_32, x268_33, x268_35, x268_37, x268_40, x268_41, x268_43, x268_45, x268_48, x268_49, x268_52, x268_54, x268_55, x268_56, x268_57, x268_58, x268_59, x268_62, x268_65, x268_66, x268_70, x268_72, x268_75, x268_76, x268_79, x268_81, x268_82, x268_83, x268_85, x268_86, x268_87, x268_90, x268_92, x268_93, x268_94, x268_96, x268_97, x268_98, x268_101, x268_102, x268_105, x268_107, x268_108, x268_109, x268_111, x268_112, x268_113, x268_116, x268_117, x268_120, x268_121, x268_122, x268_125, x268_131, x268_134, x268_137, x268_140, x268_141, x268_142, x268_143, x268_144, x268_145, x268_147, x268_150, x268_151, x268_153, x268_155, x268_157, x268_160, x268_161, x268_164, x268_165, x268_168, x268_170, x268_171, x268_172, x268_174, x268_175, x268_176, x268_179, x268_180, x268_182, x268_185, x268_186, x268_189, x268_191, x268_193, x268_194, x268_195, x268_196, x268_197, x268_200, x268_201, x268_204, x268_205, x268_206, x268_209, x268_212, x268_215, x268_218, x268_219, gM_reach, RM_reach, WM_reach, q1, q2, if_pos, if_neg, ↓reduceIte, not_true_eq_false, not_false_eq_true]
      · obtain ⟨ρ, y1, y2, y3⟩ := ih (c + 1) (su τ 403 (78 * a + c) 1) (by omega) (by omega) (nx 1 (Or.inr rfl) ⟨fun _ => Or.inr (ebc.mp q2), fun _ => rfl⟩)
        refine ⟨ρ, fun c hc => by rw [y1 c hc, su_ne hc], y2, fun u Q => ?_⟩
        rw [← y3 u Q, x268_68]
        simp (disch := first | omega | exact notL_I | exact notL_N | exact notL_R | exact oM | exact catS_le (Nat.le_of_ble_eq_true rfl) | exact Nat.le_of_ble_eq_true rfl | rfl) only [x268_0, x268_1, x268_2, x268_5, x268_6, x268_7, x268_8, x268_11, x268_14, x268_15, x268_18, x268_19, x268_20, x268_23, x268_24, x268_25, x268_26, x268_29, x268_32, x268_33, x268_35, x268_37, x268_40, x268_41, x268_43, x268_45, x268_48, x268_49, x268_52, x268_54, x268_55, x268_56, x268_57, x268_58, x268_59, x268_62, x268_65, x268_66, x268_70, x268_72, x268_75, x268_76, x268_79, x268_81, x268_82, x268_83, x268_85, x268_86, x268_87, x268_90, x268_92, x268_93, x268_94, x268_96, x268_97, x268_98, x268_101, x268_102, x268_105, x268_107, x268_108, x268_109, x268_111, x268_112, x268_113, x268_116, x268_117, x268_120, x268_121, x268_122, x268_125, x268_131, x268_134, x268_137, x268_140, x268_141, x268_142, x268_143, x268_144, x268_145, x268_147, x268_150, x268_151, x268_153, x268_155, x268_157, x268_160, x268_161, x268_164, x268_165, x268_168, x268_170, x268_171, x268_172, x268_174, x268_175, x268_176, x268_179, x268_180, x268_182, x268_185, x268_186, x268_189, x268_191, x268_193, x268_194, x268_195, x268_196, x268_197, x268_200, x268_201, x268_204, x268_205, x268_206, x268_209, x268_212, x268_215, x268_218, x268_219, gM_reach, RM_reach, WM_reach, q1, q2, if_pos, if_neg, ↓reduceIte, not_true_eq_false, not_false_eq_true]
    · obtain ⟨ρ, y1, y2, y3⟩ := ih (c + 1) (su τ 403 (78 * a + c) 1) (by omega) (by omega) (nx 1 (Or.inr rfl) ⟨fun _ => Or.inl (eac.mp q1), fun _ => rfl⟩)
      refine ⟨ρ, fun c hc => by rw [y1 c hc, su_ne hc], y2, fun u Q => ?_⟩
      rw [← y3 u Q, x268_68]
      simp (disch := first | omega | exact notL_I | exact notL_N | exact notL_R | exact oM | exact catS_le (Nat.le_of_ble_eq_true rfl) | exact Nat.le_of_ble_eq_true rfl | rfl) only [x268_0, x268_1, x268_2, x268_5, x268_6, x268_7, x268_8, x268_11, x268_14, x268_15, x268_18, x268_19, x268_20, x268_23, x268_24, x268_25, x268_26, x268_29, x268_32, x268_33, x268_35, x268_37, x268_40, x268_41, x268_43, x268_45, x268_48, x268_49, x268_52, x268_54, x268_55, x268_56, x268_57, x268_58, x268_59, x268_62, x268_65, x268_66, x268_70, x268_72, x268_75, x268_76, x268_79, x268_81, x268_82, x268_83, x268_85, x268_86, x268_87, x268_90, x268_92, x268_93, x268_94, x268_96, x268_97, x268_98, x268_101, x268_102, x268_105, x268_107, x268_108, x268_109, x268_111, x268_112, x268_113, x268_116, x268_117, x268_120, x268_121, x268_122, x268_125, x268_131, x268_134, x268_137, x268_140, x268_141, x268_142, x268_143, x268_144, x268_145, x268_147, x268_150, x268_151, x268_153, x268_155, x268_157, x268_160, x268_161, x268_164, x268_165, x268_168, x268_170, x268_171, x268_172, x268_174, x268_175, x268_176, x268_179, x268_180, x268_182, x268_185, x268_186, x268_189, x268_191, x268_193, x268_194, x268_195, x268_196, x268_197, x268_200, x268_201, x268_204, x268_205, x268_206, x268_209, x268_212, x268_215, x268_218, x268_219, gM_reach, RM_reach, WM_reach, q1, if_pos, if_neg, ↓reduceIte, not_true_eq_false, not_false_eq_true]
theorem l_rchA {d : Nat} {R : Int → Int → Prop} {b : Int} (b0 : 0 ≤ b) (b1 : b < 78) : ∀ (k : Nat) (a : Int) (τ : St), 0 ≤ a → a + k = 78 → RcI (fun x y => R x y ∨ (x < a ∧ R x b ∧ R b y)) τ →
    ∃ ρ, (∀ c, c ≠ 403 → ρ c = τ c) ∧ RcI (wsh R b) ρ ∧ ∀ (u : Bool × Nat × Nat × Int) (Q : Rs → HS → Prop) (l4 : Option V), ∃ l4', Ex sc d 268 42 [some (vR 373), some (vI h), some (vI b), some (vI a), l4] [] (wH τ u) Q ↔ Ex sc d 268 134 [some (vR 373), some (vI h), some (vI b), some (vI 78), l4'] [] (wH ρ u) Q := by
  intro k
  induction k with
  | zero =>
    intro a τ a0 ak H
    obtain rfl : a = 78 := by omega
    refine ⟨τ, fun _ _ => rfl, H.c (fun x y x0 x1 y0 y1 => ?_), fun u Q l4 => ⟨l4, ?_⟩⟩
    · unfold wsh
      constructor
      · rintro (z | ⟨p, z⟩)
        · exact Or.inl z
        · exact Or.inr z
      · rintro (z | z)
        · exact Or.inl z
        · exact Or.inr ⟨x1, z⟩
    · rw [x268_42]
      simp (disch := first | omega | exact notL_I | exact notL_N | exact notL_R | exact oM | exact catS_le (Nat.le_of_ble_eq_true rfl) | exact Nat.le_of_ble_eq_true rfl | rfl) only [x268_0, x268_1, x268_2, x268_5, x268_6, x268_7, x268_8, x268_11, x268_14, x268_15, x268_18, x268_19, x268_20, x268_23, x268_24, x268_25, x268_26, x268_29, x268_32, x268_33, x268_35, x268_37, x268_40, x268_41, x268_43, x268_45, x268_48, x268_49, x268_52, x268_54, x268_55, x268_56, x268_57, x268_58, x268_59, x268_62, x268_65, x268_66, x268_70, x268_72, x268_75, x268_76, x268_79, x268_81, x268_82, x268_83, x268_85, x268_86, x268_87, x268_90, x268_92, x268_93, x268_94, x268_96, x268_97, x268_98, x268_101, x268_102, x268_105, x268_107, x268_108, x268_109, x268_111, x268_112, x268_113, x268_116, x268_117, x268_120, x268_121, x268_122, x268_125, x268_131, x268_137, x268_140, x268_141, x268_142, x268_143, x268_144, x268_145, x268_147, x268_150, x268_151, x268_153, x268_155, x268_157, x268_160, x268_161, x268_164, x268_165, x268_168, x268_170, x268_171, x268_172, x268_174, x268_175, x268_176, x268_179, x268_180, x268_182, x268_185, x268_186, x268_189, x268_191, x268_193, x268_194, x268_195, x268_196, x268_197, x268_200, x268_201, x268_204, x268_205, x268_206, x268_209, x268_212, x268_215, x268_218, x268_219, if_pos, if_neg, ↓reduceIte, not_true_eq_false, not_false_eq_true]
  | succ k ih =>
    intro a τ a0 ak H
    have hab := H a b a0 (by omega) b0 b1
    have eab : τ 403 (78 * a + b) = 1 ↔ R a b := by
      rw [hab.2]
      constructor
      · rintro (z | ⟨p, z⟩)
        · exact z
        · omega
      · exact Or.inl
    rcases hab.1 with q1 | q1
    · obtain ⟨ρ, y1, y2, y3⟩ := ih (a + 1) τ (by omega) (by omega) (H.c (fun x y x0 x1 y0 y1 => by
        constructor
        · rintro (z | ⟨p, z⟩)
          · exact Or.inl z
          · exact Or.inr ⟨by omega, z⟩
        · rintro (z | ⟨p, z1, z2⟩)
          · exact Or.inl z
          · by_cases e : x = a
            · subst e
              have := eab.mpr z1
              omega
            · exact Or.inr ⟨by omega, z1, z2⟩))
      refine ⟨ρ, y1, y2, fun u Q l4 => ?_⟩
      obtain ⟨l4', y4⟩ := y3 u Q l4
      refine ⟨l4', Iff.trans ?_ y4⟩
      rw [x268_42]
      simp (disch := first | omega | exact notL_I | exact notL_N | exact notL_R | exact oM | exact catS_le (Nat.le_of_ble_eq_true rfl) | exact Nat.le_of_ble_eq_true rfl | rfl) only [x268_0, x268_1, x268_2, x268_5, x268_6, x268_7, x268_8, x268_11, x268_14, x268_15, x268_18, x268_19, x268_20, x268_23, x268_24, x268_25, x268_26, x268_29, x268_32, x268_33, x268_35, x268_37, x268_40, x268_41, x268_43, x268_45, x268_48, x268_49, x268_52, x268_54, x268_55, x268_56, x268_57, x268_58, x268_59, x268_62, x268_65, x268_66, x268_70, x268_72, x268_75, x268_76, x268_79, x268_81, x268_82, x268_83, x268_85, x268_86, x268_87, x268_90, x268_92, x268_93, x268_94, x268_96, x268_97, x268_98, x268_101, x268_102, x268_105, x268_107, x268_108, x268_109, x268_111, x268_112, x268_113, x268_116, x268_117, x268_120, x268_121, x268_122, x268_125, x268_128, x268_131, x268_137, x268_140, x268_141, x268_142, x268_143, x268_144, x268_145, x268_147, x268_150, x268_151, x268_153, x268_155, x268_157, x268_160, x268_161, x268_164, x268_165, x268_168, x268_170, x268_171, x268_172, x268_174, x268_175, x268_176, x268_179, x268_180, x268_182, x268_185, x268_186, x268_189, x268_191, x268_193, x268_194, x268_195, x268_196, x268_197, x268_200, x268_201, x268_204, x268_205, x268_206, x268_209, x268_212, x268_215, x268_218, x268_219, gM_reach, RM_reach, q1, if_pos, if_neg, ↓reduceIte, not_true_eq_false, not_false_eq_true]
    · have hR := eab.mp q1
      obtain ⟨ρ1, y1, y2, y3⟩ := l_rchC (sc := sc) (h := h) (d := d) (R := fun x y => R x y ∨ (x < a ∧ R x b ∧ R b y)) (a := a) (b := b) a0 (by omega) b0 b1 78 0 τ (by omega) (by omega) (H.c (fun x y x0 x1 y0 y1 => ⟨Or.inl, fun z => z.elim id (fun w => by omega)⟩))
      obtain ⟨ρ, z1, z2, z3⟩ := ih (a + 1) ρ1 (by omega) (by omega) (y2.c (fun x y x0 x1 y0 y1 => by
        constructor
        · rintro ((z | ⟨p, z⟩) | ⟨p, z | ⟨_, w1, w2⟩⟩)
          · exact Or.inl z
          · exact Or.inr ⟨by omega, z⟩
          · subst p
            exact Or.inr ⟨by omega, hR, z⟩
          · subst p
            exact Or.inr ⟨by omega, hR, w2⟩
        · rintro (z | ⟨p, w1, w2⟩)
          · exact Or.inl (Or.inl z)
          · by_cases e : x = a
            · subst e
              exact Or.inr ⟨rfl, Or.inl w2⟩
            · exact Or.inl (Or.inr ⟨by omega, w1, w2⟩)))
      refine ⟨ρ, fun c hc => by rw [z1 c hc, y1 c hc], z2, fun u Q l4 => ?_⟩
      obtain ⟨l4', z4⟩ := z3 u Q (some (vI 78))
      refine ⟨l4', Iff.trans ?_ z4⟩
      rw [x268_42]
      simp (disch := first | omega | exact notL_I | exact notL_N | exact notL_R | exact oM | exact catS_le (Nat.le_of_ble_eq_true rfl) | exact Nat.le_of_ble_eq_true rfl | rfl) only [x268_0, x268_1, x268_2, x268_5, x268_6, x268_7, x268_8, x268_11, x268_14, x268_15, x268_18, x268_19, x268_20, x268_23, x268_24, x268_25, x268_26, x268_29, x268_32, x268_33, x268_35, x268_37, x268_40, x268_41, x268_43, x268_45, x268_48, x268_49, x268_52, x268_54, x268_55, x268_56, x268_57, x268_58, x268_59, x268_62, x268_65, x268_66, x268_70, x268_72, x268_75, x268_76, x268_79, x268_81, x268_82, x268_83, x268_85, x268_86, x268_87, x268_90, x268_92, x268_93, x268_94, x268_96, x268_97, x268_98, x268_101, x268_102, x268_105, x268_107, x268_108, x268_109, x268_111, x268_112, x268_113, x268_116, x268_117, x268_120, x268_121, x268_122, x268_125, x268_131, x268_137, x268_140, x268_141, x268_142, x268_143, x268_144, x268_145, x268_147, x268_150, x268_151, x268_153, x268_155, x268_157, x268_160, x268_161, x268_164, x268_165, x268_168, x268_170, x268_171, x268_172, x268_174, x268_175, x268_176, x268_179, x268_180, x268_182, x268_185, x268_186, x268_189, x268_191, x268_193, x268_194, x268_195, x268_196, x268_197, x268_200, x268_201, x268_204, x268_205, x268_206, x268_209, x268_212, x268_215, x268_218, x268_219, gM_reach, RM_reach, q1, if_pos, if_neg, ↓reduceIte, not_true_eq_false, not_false_eq_true]
      rw [y3 u Q, x268_128]
      simp (disch := first | omega | exact notL_I | exact notL_N | exact notL_R | exact oM | exact catS_le (Nat.le_of_ble_eq_true rfl) | exact Nat.le_of_ble_eq_true rfl | rfl) only [x268_0, x268_1, x268_2, x268_5, x268_6, x268_7, x268_8, x268_11, x268_14, x268_15, x268_18, x268_19, x268_20, x268_23, x268_24, x268_25, x268_26, x268_29, x268_32, x268_33, x268_35, x268_37, x268_40, x268_41, x268_43, x268_45, x268_48, x268_49, x268_52, x268_54, x268_55, x268_56, x268_57, x268_58, x268_59, x268_62, x268_65, x268_66, x268_70, x268_72, x268_75, x268_76, x268_79, x268_81, x268_82, x268_83, x268_85, x268_86, x268_87, x268_90, x268_92, x268_93, x268_94, x268_96, x268_97, x268_98, x268_101, x268_102, x268_105, x268_107, x268_108, x268_109, x268_111, x268_112, x268_113, x268_116, x268_117, x268_120, x268_121, x268_122, x268_125, x268_131, x268_137, x268_140, x268_141, x268_142, x268_143, x268_144, x268_145, x268_147, x268_150, x268_151, x268_153, x268_155, x268_157, x268_160, x268_161, x268_164, x268_165, x268_168, x268_170, x268_171, x268_172, x268_174, x268_175, x268_176, x268_179, x268_180, x268_182, x268_185, x268_186, x268_189, x268_191, x268_193, x268_194, x268_195, x268_196, x268_197, x268_200, x268_201, x268_204, x268_205, x268_206, x268_209, x268_212, x268_215, x268_218, x268_219]
theorem l_rchB {d : Nat} {R : Int → Int → Prop} : ∀ (k b : Nat) (τ : St), b + k = 78 → RcI (wshF R b) τ →
    ∃ ρ, (∀ c, c ≠ 403 → ρ c = τ c) ∧ RcI (wshF R 78) ρ ∧ ∀ (u : Bool × Nat × Nat × Int) (Q : Rs → HS → Prop) (l3 l4 : Option V), ∃ l3' l4', Ex sc d 268 34 [some (vR 373), some (vI h), some (vI ((b : Int))), l3, l4] [] (wH τ u) Q ↔ Ex sc d 268 140 [some (vR 373), some (vI h), some (vI 78), l3', l4'] [] (wH ρ u) Q := by
  intro k
  induction k with
  | zero =>
    intro b τ bk H
    obtain rfl : b = 78 := by omega
    refine ⟨τ, fun _ _ => rfl, H, fun u Q l3 l4 => ⟨l3, l4, ?_⟩⟩
    rw [x268_34]
    simp (disch := first | omega | exact notL_I | exact notL_N | exact notL_R | exact oM | exact catS_le (Nat.le_of_ble_eq_true rfl) | exact Nat.le_of_ble_eq_true rfl | rfl) only [x268_0, x268_1, x268_2, x268_5, x268_6, x268_7, x268_8, x268_11, x268_14, x268_15, x268_18, x268_19, x268_20, x268_23, x268_24, x268_25, x268_26, x268_29, x268_32, x268_33, x268_35, x268_37, x268_40, x268_41, x268_43, x268_45, x268_48, x268_49, x268_52, x268_54, x268_55, x268_56, x268_57, x268_58, x268_59, x268_62, x268_65, x268_66, x268_70, x268_72, x268_75, x268_76, x268_79, x268_81, x268_82, x268_83, x268_85, x268_86, x268_87, x268_90, x268_92, x268_93, x268_94, x268_96, x268_97, x268_98, x268_101, x268_102, x268_105, x268_107, x268_108, x268_109, x268_111, x268_112, x268_113, x268_116, x268_117, x268_120, x268_121, x268_122, x268_125, x268_131, x268_137, x268_141, x268_142, x268_143, x268_144, x268_145, x268_147, x268_150, x268_151, x268_153, x268_155, x268_157, x268_160, x268_161, x268_164, x268_165, x268_168, x268_170, x268_171, x268_172, x268_174, x268_175, x268_176, x268_179, x268_180, x268_182, x268_185, x268_186, x268_189, x268_191, x268_193, x268_194, x268_195, x268_196, x268_197, x268_200, x268_201, x268_204, x268_205, x268_206, x268_209, x268_212, x268_215, x268_218, x268_219, if_pos, if_neg, ↓reduceIte, not_true_eq_false, not_false_eq_true]
    exact Iff.rfl
  | succ k ih =>
    intro b τ bk H
    obtain ⟨ρ1, y1, y2, y3⟩ := l_rchA (sc := sc) (h := h) (d := d) (R := wshF R b) (b := (b : Int)) (by omega) (by omega) 78 0 τ (by omega) (by omega) (H.c (fun x y x0 x1 y0 y1 => ⟨Or.inl, fun z => z.elim id (fun w => by omega)⟩))
    obtain ⟨ρ, z1, z2, z3⟩ := ih (b + 1) ρ1 (by omega) y2
    refine ⟨ρ, fun c hc => by rw [z1 c hc, y1 c hc], z2, fun u Q l3 l4 => ?_⟩
    obtain ⟨l4', y4⟩ := y3 u Q l4
    obtain ⟨l3'', l4'', z4⟩ := z3 u Q (some (vI 78)) l4'
    refine ⟨l3'', l4'', Iff.trans ?_ z4⟩
    rw [x268_34]
    simp (disch := first | omega | exact notL_I | exact notL_N | exact notL_R | exact oM | exact catS_le (Nat.le_of_ble_eq_true rfl) | exact Nat.le_of_ble_eq_true rfl | rfl) only [x268_0, x268_1, x268_2, x268_5, x268_6, x268_7, x268_8, x268_11, x268_14, x268_15, x268_18, x268_19, x268_20, x268_23, x268_24, x268_25, x268_26, x268_29, x268_32, x268_33, x268_35, x268_37, x268_40, x268_41, x268_43, x268_45, x268_48, x268_49, x268_52, x268_54, x268_55, x268_56, x268_57, x268_58, x268_59, x268_62, x268_65, x268_66, x268_70, x268_72, x268_75, x268_76, x268_79, x268_81, x268_82, x268_83, x268_85, x268_86, x268_87, x268_90, x268_92, x268_93, x268_94, x268_96, x268_97, x268_98, x268_101, x268_102, x268_105, x268_107, x268_108, x268_109, x268_111, x268_112, x268_113, x268_116, x268_117, x268_120, x268_121, x268_122, x268_125, x268_131, x268_137, x268_141, x268_142, x268_143, x268_144, x268_145, x268_147, x268_150, x268_151, x268_153, x268_155, x268_157, x268_160, x268_161, x268_164, x268_165, x268_168, x268_170, x268_171, x268_172, x268_174, x268_175, x268_176, x268_179, x268_180, x268_182, x268_185, x268_186, x268_189, x268_191, x268_193, x268_194, x268_195, x268_196, x268_197, x268_200, x268_201, x268_204, x268_205, x268_206, x268_209, x268_212, x268_215, x268_218, x268_219, if_pos, if_neg, ↓reduceIte, not_true_eq_false, not_false_eq_true]
    rw [y4, x268_134, show ((b + 1 : Nat) : Int) = (b : Int) + 1 by omega]
    simp (disch := first | omega | exact notL_I | exact notL_N | exact notL_R | exact oM | exact catS_le (Nat.le_of_ble_eq_true rfl) | exact Nat.le_of_ble_eq_true rfl | rfl) only [x268_0, x268_1, x268_2, x268_5, x268_6, x268_7, x268_8, x268_11, x268_14, x268_15, x268_18, x268_19, x268_20, x268_23, x268_24, x268_25, x268_26, x268_29, x268_32, x268_33, x268_35, x268_37, x268_40, x268_41, x268_43, x268_45, x268_48, x268_49, x268_52, x268_54, x268_55, x268_56, x268_57, x268_58, x268_59, x268_62, x268_65, x268_66, x268_70, x268_72, x268_75, x268_76, x268_79, x268_81, x268_82, x268_83, x268_85, x268_86, x268_87, x268_90, x268_92, x268_93, x268_94, x268_96, x268_97, x268_98, x268_101, x268_102, x268_105, x268_107, x268_108, x268_109, x268_111, x268_112, x268_113, x268_116, x268_117, x268_120, x268_121, x268_122, x268_125, x268_131, x268_137, x268_141, x268_142, x268_143, x268_144, x268_145, x268_147, x268_150, x268_151, x268_153, x268_155, x268_157, x268_160, x268_161, x268_164, x268_165, x268_168, x268_170, x268_171, x268_172, x268_174, x268_175, x268_176, x268_179, x268_180, x268_182, x268_185, x268_186, x268_189, x268_191, x268_193, x268_194, x268_195, x268_196, x268_197, x268_200, x268_201, x268_204, x268_205, x268_206, x268_209, x268_212, x268_215, x268_218, x268_219]
/-- is no ring -/
theorem l_rngB {σ : St} {d : Nat} {a : Int} {R : Int → Int → Prop} {N : Int → Int → Prop} (a0 : 0 ≤ a) (a1 : a < 78) (HR : RcI R σ) (HN : ∀ x y, 0 ≤ x → x < 78 → 0 ≤ y → y < 78 → (σ 401 (78 * x + y) = 0 ∨ σ 401 (78 * x + y) = 1) ∧ (σ 401 (78 * x + y) = 1 ↔ N x y)) : ∀ (k : Nat) (b v : Int), 0 ≤ b → b + k = 78 → (v = 0 ∨ v = 1) →
    ∃ w, (w = 0 ∨ w = 1) ∧ (w = 1 ↔ v = 1 ∧ ∀ y, b ≤ y → y < 78 → ¬ (N a y ∧ (a = y ∨ R y a))) ∧ ∀ (u : Bool × Nat × Nat × Int) (Q : Rs → HS → Prop), Ex sc d 268 153 [some (vR 373), some (vI h), some (vI v), some (vI a), some (vI b)] [] (wH σ u) Q ↔ Ex sc d 268 212 [some (vR 373), some (vI h), some (vI w), some (vI a), some (vI 78)] [] (wH σ u) Q := by
  intro k
  induction k with
  | zero =>
    intro b v b0 bk hv
    obtain rfl : b = 78 := by omega
    refine ⟨v, hv, ⟨fun z => ⟨z, fun y y0 y1 => by omega⟩, fun z => z.1⟩, fun u Q => ?_⟩
    rw [x268_153]
    simp (disch := first | omega | exact notL_I | exact notL_N | exact notL_R | exact oM | exact catS_le (Nat.le_of_ble_eq_true rfl) | exact Nat.le_of_ble_eq_true rfl | rfl) only [x268_0, x268_1, x268_2, x268_5, x268_6, x268_7, x268_8, x268_11, x268_14, x268_15, x268_18, x268_19, x268_20, x268_23, x268_24, x268_25, x268_26, x268_29, x268_32, x268_33, x268_34, x268_35, x268_37, x268_40, x268_41, x268_42, x268_43, x268_45, x268_48, x268_49, x268_52, x268_54, x268_55, x268_56, x268_57, x268_58, x268_59, x268_62, x268_65, x268_66, x268_68, x268_70, x268_72, x268_75, x268_76, x268_79, x268_81, x268_82, x268_83, x268_85, x268_86, x268_87, x268_90, x268_92, x268_93, x268_94, x268_96, x268_97, x268_98, x268_101, x268_102, x268_105, x268_107, x268_108, x268_109, x268_111, x268_112, x268_113, x268_116, x268_117, x268_120, x268_121, x268_122, x268_125, x268_128, x268_131, x268_134, x268_137, x268_140, x268_141, x268_142, x268_143, x268_145, x268_147, x268_150, x268_151, x268_155, x268_157, x268_160, x268_161, x268_164, x268_165, x268_168, x268_170, x268_171, x268_172, x268_174, x268_175, x268_176, x268_179, x268_180, x268_182, x268_185, x268_186, x268_189, x268_191, x268_193, x268_194, x268_195, x268_196, x268_197, x268_200, x268_201, x268_204, x268_205, x268_206, x268_209, x268_215, x268_218, x268_219, if_pos, if_neg, ↓reduceIte, not_true_eq_false, not_false_eq_true]
  | succ k ih =>
    intro b v b0 bk hv
    have hn := HN a b a0 a1 b0 (by omega)
    have hr := HR b a b0 (by omega) a0 a1
    have go : ∀ v', (v' = 0 ∨ v' = 1) → (v' = 1 ↔ v = 1 ∧ ¬ (N a b ∧ (a = b ∨ R b a))) → (∀ (u : Bool × Nat × Nat × Int) (Q : Rs → HS → Prop), Ex sc d 268 153 [some (vR 373), some (vI h), some (vI v), some (vI a), some (vI b)] [] (wH σ u) Q ↔ Ex sc d 268 153 [some (vR 373), some (vI h), some (vI v'), some (vI a), some (vI (b + 1))] [] (wH σ u) Q) → ∃ w, (w = 0 ∨ w = 1) ∧ (w = 1 ↔ v = 1 ∧ ∀ y, b ≤ y → y < 78 → ¬ (N a y ∧ (a = y ∨ R y a))) ∧ ∀ (u : Bool × Nat × Nat × Int) (Q : Rs → HS → Prop), Ex sc d 268 153 [some (vR 373), some (vI h), some (vI v), some (vI a), some (vI b)] [] (wH σ u) Q ↔ Ex sc d 268 212 [some (vR 373), some (vI h), some (vI w), some (vI a), some (vI 78)] [] (wH σ u) Q := by
      intro v' h1 h2 h3
      obtain ⟨w, w1, w2, w3⟩ := ih (b + 1) v' (by omega) (by omega) h1
      refine ⟨w, w1, ?_, fun u Q => (h3 u Q).trans (w3 u Q)⟩
      rw [w2, h2]
      constructor
      · rintro ⟨⟨p, q⟩, z⟩
        refine ⟨p, fun y y0 y1 => ?_⟩
        by_cases e : y = b
        · subst e
          exact q
        · exact z y (by omega) y1
      · rintro ⟨p, z⟩
        exact ⟨⟨p, z b (by omega) (by omega)⟩, fun y y0 y1 => z y (by omega) y1⟩
    rcases hv with rfl | rfl
    · refine go 0 (Or.inl rfl) ⟨(fun z => by cases z), fun z => by cases z.1⟩ (fun u Q => ?_)
      rw [x268_153]
      simp (disch := first | omega | exact notL_I | exact notL_N | exact notL_R | exact oM | exact catS_le (Nat.le_of_ble_eq_true rfl) | exact Nat.le_of_ble_eq_true rfl | rfl) only [x268_0, x268_1, x268_2, x268_5, x268_6, x268_7, x268_8, x268_11, x268_14, x268_15, x268_18, x268_19, x268_20, x268_23, x268_24, x268_25, x268_26, x268_29, x268_32, x268_33, x268_34, x268_35, x268_37, x268_40, x268_41, x268_42, x268_43, x268_45, x268_48, x268_49, x268_52, x268_54, x268_55, x268_56, x268_57, x268_58, x268_59, x268_62, x268_65, x268_66, x268_68, x268_70, x268_72, x268_75, x268_76, x268_79, x268_81, x268_82, x268_83, x268_85, x268_86, x268_87, x268_90, x268_92, x268_93, x268_94, x268_96, x268_97, x268_98, x268_101, x268_102, x268_105, x268_107, x268_108, x268_109, x268_111, x268_112, x268_113, x268_116, x268_117, x268_120, x268_121, x268_122, x268_125, x268_128, x268_131, x268_134, x268_137, x268_140, x268_141, x268_142, x268_143, x268_145, x268_147, x268_150, x268_151, x268_155, x268_157, x268_160, x268_161, x268_164, x268_165, x268_168, x268_170, x268_171, x268_172, x268_174, x268_175, x268_176, x268_179, x268_180, x268_182, x268_185, x268_186, x268_189, x268_191, x268_193, x268_194, x268_195, x268_196, x268_197, x268_200, x268_201, x268_204, x268_205, x268_206, x268_209, x268_215, x268_218, x268_219, if_pos, if_neg, ↓reduceIte, not_true_eq_false, not_false_eq_true]
    · rcases hn.1 with q1 | q1
      · refine go 1 (Or.inr rfl) ⟨fun _ => ⟨rfl, fun z => by have := hn.2.mpr z.1; omega⟩, fun _ => rfl⟩ (fun u Q => ?_)
        rw [x268_153]
        simp (disch := first | omega | exact notL_I | exact notL_N | exact notL_R | exact oM | exact catS_le (Nat.le_of_ble_eq_true rfl) | exact Nat.le_of_ble_eq_true rfl | rfl) only [x268_0, x268_1, x268_2, x268_5, x268_6, x268_7, x268_8, x268_11, x268_14, x268_15, x268_18, x268_19, x268_20, x268_23, x268_24, x268_25, x268_26, x268_29, x268_32, x268_33, x268_34, x268_35, x268_37, x268_40, x268_41, x268_42, x268_43, x268_45, x268_48, x268_49, x268_52, x268_54, x268_55, x268_56, x268_57, x268_58, x268_59, x268_62, x268_65, x268_66, x268_68, x268_70, x268_72, x268_75, x268_76, x268_79, x268_81, x268_82, x268_83, x268_85, x268_86, x268_87, x268_90, x268_92, x268_93, x268_94, x268_96, x268_97, x268_98, x268_101, x268_102, x268_105, x268_107, x268_108, x268_109, x268_111, x268_112, x268_113, x268_116, x268_117, x268_120, x268_121, x268_122, x268_125, x268_128, x268_131, x268_134, x268_137, x268_140, x268_141, x268_142, x268_143, x268_145, x268_147, x268_150, x268_151, x268_155, x268_157, x268_160, x268_161, x268_164, x268_165, x268_168, x268_170, x268_171, x268_172, x268_174, x268_175, x268_176, x268_179, x268_180, x268_182, x268_185, x268_186, x268_189, x268_191, x268_193, x268_194, x268_195, x268_196, x268_197, x268_200, x268_201, x268_204, x268_205, x268_206, x268_209, x268_215, x268_218, x268_219, gM_isNew, RM_isNew, q1, if_pos, if_neg, ↓reduceIte, not_true_eq_false, not_false_eq_true]
      · by_cases e : a = b
        · refine go 0 (Or.inl rfl) ⟨(fun z => by cases z), fun z => absurd ⟨hn.2.mp q1, Or.inl e⟩ z.2⟩ (fun u Q => ?_)
          rw [x268_153]
          simp (disch := first | omega | exact notL_I | exact notL_N | exact notL_R | exact oM | exact catS_le (Nat.le_of_ble_eq_true rfl) | exact Nat.le_of_ble_eq_true rfl | rfl) only [x268_0, x268_1, x268_2, x268_5, x268_6, x268_7, x268_8, x268_11, x268_14, x268_15, x268_18, x268_19, x268_20, x268_23, x268_24, x268_25, x268_26, x268_29, x268_32, x268_33, x268_34, x268_35, x268_37, x268_40, x268_41, x268_42, x268_43, x268_45, x268_48, x268_49, x268_52, x268_54, x268_55, x268_56, x268_57, x268_58, x268_59, x268_62, x268_65, x268_66, x268_68, x268_70, x268_72, x268_75, x268_76, x268_79, x268_81, x268_82, x268_83, x268_85, x268_86, x268_87, x268_90, x268_92, x268_93, x268_94, x268_96, x268_97, x268_98, x268_101, x268_102, x268_105, x268_107, x268_108, x268_109, x268_111, x268_112, x268_113, x268_116, x268_117, x268_120, x268_121, x268_122, x268_125, x268_128, x268_131, x268_134, x268_137, x268_140, x268_141, x268_142, x268_143, x268_145, x268_147, x268_150, x268_151, x268_155, x268_157, x268_160, x268_161, x268_164, x268_165, x268_168, x268_170, x268_171, x268_172, x268_174, x268_175, x268_176, x268_179, x268_180, x268_182, x268_185, x268_186, x268_189, x268_191, x268_193, x268_194, x268_195, x268_196, x268_197, x268_200, x268_201, x268_204, x268_205, x268_206, x268_209, x268_215, x268_218, x268_219, gM_isNew, RM_isNew, q1, if_pos, if_neg, ↓reduceIte, not_true_eq_false, not_false_eq_true]
        · rcases hr.1 with q2 | q2
          · refine go 1 (Or.inr rfl) ⟨fun _ => ⟨rfl, fun z => z.2.elim (fun y => e y) (fun y => by have := hr.2.mpr y; omega)⟩, fun _ => rfl⟩ (fun u Q => ?_)
            rw [x268_153]
            simp (disch := first | omega | exact notL_I | exact notL_N | exact notL_R | exact oM | exact catS_le (Nat.le_of_ble_eq_true rfl) | exact Nat.le_of_ble_eq_true rfl | rfl) only [x268_0, x268_1, x268_2, x268_5, x268_6, x268_7, x268_8, x268_11, x268_14, x268_15, x268_18, x268_19, x268_20, x268_23, x268_24, x268_25, x268_26, x268_29, x268_32, x268_33, x268_34, x268_35, x268_37, x268_40, x268_41, x268_42, x268_43, x268_45, x268_48, x268_49, x268_52, x268_54, x268_55, x268_56, x268_57, x268_58, x268_59, x268_62, x268_65, x268_66, x268_68, x268_70, x268_72, x268_75, x268_76, x268_79, x268_81, x268_82, x268_83, x268_85, x268_86, x268_87, x268_90, x268_92, x268_93, x268_94, x268_96, x268_97, x268_98, x268_101, x268_102, x268_105, x268_107, x268_108, x268_109, x268_111, x268_112, x268_113, x268_116, x268_117, x268_120, x268_121, x268_122, x268_125, x268_128, x268_131, x268_134, x268_137, x268_140, x268_141, x268_142, x268_143, x268_145, x268_147, x268_150, x268_151, x268_155, x268_157, x268_160, x268_161, x268_164, x268_165, x268_168, x268_170, x268_171, x268_172, x268_174, x268_175, x268_176, x268_179, x268_180, x268_182, x268_185, x268_186, x268_189, x268_191, x268_193, x268_194, x268_195, x268_196, x268_197, x268_200, x268_201, x268_204, x268_205, x268_206, x268_209, x268_215, x268_218, x268_219, gM_isNew, RM_isNew, gM_reach, RM_reach, q1, q2, if_pos, if_neg, ↓reduceIte, not_true_eq_false, not_false_eq_true]
          · refine go 0 (Or.inl rfl) ⟨(fun z => by cases z), fun z => absurd ⟨hn.2.mp q1, Or.inr (hr.2.mp q2)⟩ z.2⟩ (fun u Q => ?_)
            rw [x268_153]
            simp (disch := first | omega | exact notL_I | exact notL_N | exact notL_R | exact oM | exact catS_le (Nat.le_of_ble_eq_true rfl) | exact Nat.le_of_ble_eq_true rfl | rfl) only [x268_0, x268_1, x268_2, x268_5, x268_6, x268_7, x268_8, x268_11, x268_14, x268_15, x268_18, x268_19, x268_20, x268_23, x268_24, x268_25, x268_26, x268_29, x268_32, x268_33, x268_34, x268_35, x268_37, x268_40, x268_41, x268_42, x268_43, x268_45, x268_48, x268_49, x268_52, x268_54, x268_55, x268_56, x268_57, x268_58, x268_59, x268_62, x268_65, x268_66, x268_68, x268_70, x268_72, x268_75, x268_76, x268_79, x268_81, x268_82, x268_83, x268_85, x268_86, x268_87, x268_90, x268_92, x268_93, x268_94, x268_96, x268_97, x268_98, x268_101, x268_102, x268_105, x268_107, x268_108, x268_109, x268_111, x268_112, x268_113, x268_116, x268_117, x268_120, x268_121, x268_122, x268_125, x268_128, x268_131, x268_134, x268_137, x268_140, x268_141, x268_142, x268_143, x268_145, x268_147, x268_150, x268_151, x268_155, x268_157, x268_160, x268_161, x268_164, x268_165, x268_168, x268_170, x268_171, x268_172, x268_174, x268_175, x268_176, x268_179, x268_180, x268_182, x268_185, x268_186, x268_189, x268_191, x268_193, x268_194, x268_195, x268_196, x268_197, x268_200, x268_201, x268_204, x268_205, x268_206, x268_209, x268_215, x268_218, x268_219, gM_isNew, RM_isNew, gM_reach, RM_reach, q1, q2, if_pos, if_neg, ↓reduceIte, not_true_eq_false, not_false_eq_true]
theorem l_rngA {σ : St} {d : Nat} {R : Int → Int → Prop} {N : Int → Int → Prop} (HR : RcI R σ) (HN : ∀ x y, 0 ≤ x → x < 78 → 0 ≤ y → y < 78 → (σ 401 (78 * x + y) = 0 ∨ σ 401 (78 * x + y) = 1) ∧ (σ 401 (78 * x + y) = 1 ↔ N x y)) : ∀ (k : Nat) (a v : Int), 0 ≤ a → a + k = 78 → (v = 0 ∨ v = 1) →
    ∃ w, (w = 0 ∨ w = 1) ∧ (w = 1 ↔ v = 1 ∧ ∀ x y, a ≤ x → x < 78 → 0 ≤ y → y < 78 → ¬ (N x y ∧ (x = y ∨ R y x))) ∧ ∀ (u : Bool × Nat × Nat × Int) (Q : Rs → HS → Prop) (l4 : Option V), Ex sc d 268 144 [some (vR 373), some (vI h), some (vI v), some (vI a), l4] [] (wH σ u) Q ↔ Q (.inl (some (vI (w)))) (wH σ u) := by
  intro k
  induction k with
  | zero =>
    intro a v a0 ak hv
    refine ⟨v, hv, ⟨fun z => ⟨z, fun x y x0 x1 => by omega⟩, fun z => z.1⟩, fun u Q l4 => ?_⟩
    rw [x268_144]
    simp (disch := first | omega | exact notL_I | exact notL_N | exact notL_R | exact oM | exact catS_le (Nat.le_of_ble_eq_true rfl) | exact Nat.le_of_ble_eq_true rfl | rfl) only [x268_0, x268_1, x268_2, x268_5, x268_6, x268_7, x268_8, x268_11, x268_14, x268_15, x268_18, x268_19, x268_20, x268_23, x268_24, x268_25, x268_26, x268_29, x268_32, x268_33, x268_34, x268_35, x268_37, x268_40, x268_41, x268_42, x268_43, x268_45, x268_48, x268_49, x268_52, x268_54, x268_55, x268_56, x268_57, x268_58, x268_59, x268_62, x268_65, x268_66, x268_68, x268_70, x268_72, x268_75, x268_76, x268_79, x268_81, x268_82, x268_83, x268_85, x268_86, x268_87, x268_90, x268_92, x268_93, x268_94, x268_96, x268_97, x268_98, x268_101, x268_102, x268_105, x268_107, x268_108, x268_109, x268_111, x268_112, x268_113, x268_116, x268_117, x268_120, x268_121, x268_122, x268_125, x268_128, x268_131, x268_134, x268_137, x268_140, x268_141, x268_142, x268_143, x268_145, x268_147, x268_150, x268_151, x268_155, x268_157, x268_160, x268_161, x268_164, x268_165, x268_168, x268_170, x268_171, x268_172, x268_174, x268_175, x268_176, x268_179, x268_180, x268_182, x268_185, x268_186, x268_189, x268_191, x268_193, x268_194, x268_195, x268_196, x268_197, x268_200, x268_201, x268_204, x268_205, x268_206, x268_209, x268_215, x268_218, x268_219, if_pos, if_neg, ↓reduceIte, not_true_eq_false, not_false_eq_true]
  | succ k ih =>
    intro a v a0 ak hv
    obtain ⟨w1, p1, p2, p3⟩ := l_rngB (sc := sc) (h := h) (d := d) a0 (by omega) HR HN 78 0 v (by omega) (by omega) hv
    obtain ⟨w, q1, q2, q3⟩ := ih (a + 1) w1 (by omega) (by omega) p1
    refine ⟨w, q1, ?_, fun u Q l4 => ?_⟩
    · rw [q2, p2]
      constructor
      · rintro ⟨⟨p, q⟩, z⟩
        refine ⟨p, fun x y x0 x1 y0 y1 => ?_⟩
        by_cases e : x = a
        · subst e
          exact q y y0 y1
        · exact z x y (by omega) x1 y0 y1
      · rintro ⟨p, z⟩
        exact ⟨⟨p, fun y y0 y1 => z a y (by omega) (by omega) y0 y1⟩, fun x y x0 x1 y0 y1 => z x y (by omega) x1 y0 y1⟩
    · rw [← q3 u Q (some (vI 78)), x268_144]
      simp (disch := first | omega | exact notL_I | exact notL_N | exact notL_R | exact oM | exact catS_le (Nat.le_of_ble_eq_true rfl) | exact Nat.le_of_ble_eq_true rfl | rfl) only [x268_0, x268_1, x268_2, x268_5, x268_6, x268_7, x268_8, x268_11, x268_14, x268_15, x268_18, x268_19, x268_20, x268_23, x268_24, x268_25, x268_26, x268_29, x268_32, x268_33, x268_34, x268_35, x268_37, x268_40, x268_41, x268_42, x268_43, x268_45, x268_48, x268_49, x268_52, x268_54, x268_55, x268_56, x268_57, x268_58, x268_59, x268_62, x268_65, x268_66, x268_68, x268_70, x268_72, x268_75, x268_76, x268_79, x268_81, x268_82, x268_83, x268_85, x268_86, x268_87, x268_90, x268_92, x268_93, x268_94, x268_96, x268_97, x268_98, x268_101, x268_102, x268_105, x268_107, x268_108, x268_109, x268_111, x268_112, x268_113, x268_116, x268_117, x268_120, x268_121, x268_122, x268_125, x268_128, x268_131, x268_134, x268_137, x268_140, x268_141, x268_142, x268_143, x268_145, x268_147, x268_150, x268_151, x268_155, x268_157, x268_160, x268_161, x268_164, x268_165, x268_168, x268_170, x268_171, x268_172, x268_174, x268_175, x268_176, x268_179, x268_180, x268_182, x268_185, x268_186, x268_189, x268_191, x268_193, x268_194, x268_195, x268_196, x268_197, x268_200, x268_201, x268_204, x268_205, x268_206, x268_209, x268_215, x268_218, x268_219, if_pos, if_neg, ↓reduceIte, not_true_eq_false, not_false_eq_true]
      rw [p3 u Q, x268_212]
      simp (disch := first | omega | exact notL_I | exact notL_N | exact notL_R | exact oM | exact catS_le (Nat.le_of_ble_eq_true rfl) | exact Nat.le_of_ble_eq_true rfl | rfl) only [x268_0, x268_1, x268_2, x268_5, x268_6, x268_7, x268_8, x268_11, x268_14, x268_15, x268_18, x268_19, x268_20, x268_23, x268_24, x268_25, x268_26, x268_29, x268_32, x268_33, x268_34, x268_35, x268_37, x268_40, x268_41, x268_42, x268_43, x268_45, x268_48, x268_49, x268_52, x268_54, x268_55, x268_56, x268_57, x268_58, x268_59, x268_62, x268_65, x268_66, x268_68, x268_70, x268_72, x268_75, x268_76, x268_79, x268_81, x268_82, x268_83, x268_85, x268_86, x268_87, x268_90, x268_92, x268_93, x268_94, x268_96, x268_97, x268_98, x268_101, x268_102, x268_105, x268_107, x268_108, x268_109, x268_111, x268_112, x268_113, x268_116, x268_117, x268_120, x268_121, x268_122, x268_125, x268_128, x268_131, x268_134, x268_137, x268_140, x268_141, x268_142, x268_143, x268_145, x268_147, x268_150, x268_151, x268_155, x268_157, x268_160, x268_161, x268_164, x268_165, x268_168, x268_170, x268_171, x268_172, x268_174, x268_175, x268_176, x268_179, x268_180, x268_182, x268_185, x268_186, x268_189, x268_191, x268_193, x268_194, x268_195, x268_196, x268_197, x268_200, x268_201, x268_204, x268_205, x268_206, x268_209, x268_215, x268_218, x268_219]
/-- whether every run must end -/
theorem s_mustEnd {σ : St} {d : Nat} (hd : 5 ≤ d) (W : WfM σ) (h1 : 0 ≤ h) (h2 : h ≤ 4) (hok : ∀ r ∈ rlR σ h, okRl (coR σ h) r) (hat : ∀ r, 0 ≤ r → r < σ 375 h → atC σ h r 0 (σ 376 (30 * (10 * h + r))) ∧ atC σ h r 1 (σ 376 (30 * (10 * h + r) + 2))) :
    ∃ ρ v, (∀ c, c ≠ 400 → c ≠ 401 → c ≠ 403 → ρ c = σ c) ∧ WysI (EgR (rlR σ h)) ρ ∧ ((v = 1 ∧ ¬ Ring (EgR (rlR σ h))) ∨ (v = 0 ∧ Ring (EgR (rlR σ h)))) ∧ RnA sc d 268 0 [some (vR 373), some (vI h), none, none, none] σ (some (vI v)) ρ := by
  obtain ⟨ρ1, y1, y2, y3⟩ := s_ways (sc := sc) (h := h) (d := d - 1) (by omega) W h1 h2 hok hat
  have b400 : ∀ j, 0 ≤ j → j < 6084 → ρ1 400 j = 0 ∨ ρ1 400 j = 1 := fun j j0 j1 => by
    have := (y2 (j / 78) (j % 78) (by omega) (by omega) (by omega) (by omega)).1.1
    rw [show 78 * (j / 78) + j % 78 = j by omega] at this
    exact this
  have R0 : RcI (wshF (fun a b => ∃ k, EgR (rlR σ h) a b k) 0) (scp ρ1 400 0 403 0 6084) := fun x y x0 x1 y0 y1 => by
    have := (y2 x y x0 x1 y0 y1).1
    rw [scp_at, if_pos (by omega), show 78 * x + y - 0 + 0 = 78 * x + y by omega]
    exact this
  obtain ⟨ρ, z1, z2, z3⟩ := l_rchB (sc := sc) (h := h) (d := d) 78 0 (scp ρ1 400 0 403 0 6084) (by omega) R0
  have ec : ∀ c, c ≠ 403 → ρ c = ρ1 c := fun c hc => by rw [z1 c hc, scp_ne hc]
  have HN : ∀ x y, 0 ≤ x → x < 78 → 0 ≤ y → y < 78 → (ρ 401 (78 * x + y) = 0 ∨ ρ 401 (78 * x + y) = 1) ∧ (ρ 401 (78 * x + y) = 1 ↔ EgR (rlR σ h) x y 1) := fun x y x0 x1 y0 y1 => by
    rw [ec 401 (by omega)]
    exact (y2 x y x0 x1 y0 y1).2
  obtain ⟨w, w1, w2, w3⟩ := l_rngA (sc := sc) (h := h) (d := d) z2 HN 78 0 1 (by omega) (by omega) (Or.inr rfl)
  have hE : ∀ a b k, EgR (rlR σ h) a b k → 0 ≤ a ∧ a < ((78 : Nat) : Int) ∧ 0 ≤ b ∧ b < ((78 : Nat) : Int) := by
    rintro a b k ⟨q, hq, h0, x, hx, c, hc, rfl, -, -, y, hy, e, he, rfl, -⟩
    have o1 := (hok q hq).2.1 x hx
    have o2 := (hok q hq).2.2.1 y hy
    have a1 := o1.1
    have a2 := o1.2.1
    have b1 := o2.1
    have b2 := o2.2.1
    omega
  have h01 : E01 (EgR (rlR σ h)) := fun _ _ _ z => EgR_01 z
  have key : w = 1 ↔ ¬ Ring (EgR (rlR σ h)) := by
    rw [w2, ring_iff h01]
    constructor
    · rintro ⟨-, z⟩ ⟨a, b, e, n, k, wk⟩
      have r1 := hE a b 1 e
      refine z a b r1.1 (by omega) r1.2.2.1 (by omega) ⟨e, ?_⟩
      cases n with
      | zero => exact Or.inl wk.1.symm
      | succ n => exact Or.inr ((wsh_wlk hE b a).mpr ⟨n, k, wk⟩)
    · intro z
      refine ⟨rfl, fun x y x0 x1 y0 y1 hh => z ⟨x, y, hh.1, ?_⟩⟩
      rcases hh.2 with e | e
      · exact ⟨0, 0, e.symm, rfl⟩
      · obtain ⟨m, k, wk⟩ := (wsh_wlk hE y x).mp e
        exact ⟨m + 1, k, wk⟩
  refine ⟨ρ, w, fun c a b e => by rw [ec c e, y1 c a b], fun x y x0 x1 y0 y1 => by rw [ec 400 (by omega), ec 401 (by omega)]; exact y2 x y x0 x1 y0 y1, ?_, fun u Q => ?_⟩
  · rcases w1 with q | q
    · refine Or.inr ⟨q, ?_⟩
      by_cases hr : Ring (EgR (rlR σ h))
      · exact hr
      · have := key.mpr hr
        omega
    · exact Or.inl ⟨q, key.mp q⟩
  · have r0 := l_rch0 (sc := sc) (h := h) (σ := ρ1) (d := d) (u := u) (Q := Q) (l3 := none) (l4 := none) b400 6084 0 (by omega) (by omega)
    rw [scp_0] at r0
    obtain ⟨l3', l4', z4⟩ := z3 u Q none none
    rw [Int.natCast_zero] at z4
    rw [← w3 u Q l4']
    simp (disch := first | omega | exact notL_I | exact notL_N | exact notL_R | exact oM | exact catS_le (Nat.le_of_ble_eq_true rfl) | exact Nat.le_of_ble_eq_true rfl | rfl) only [x268_0, x268_1, x268_2, x268_5, x268_6, x268_8, x268_11, x268_14, x268_15, x268_18, x268_19, x268_20, x268_23, x268_24, x268_25, x268_26, x268_29, x268_32, x268_33, x268_35, x268_37, x268_40, x268_41, x268_42, x268_43, x268_45, x268_48, x268_49, x268_52, x268_54, x268_55, x268_56, x268_57, x268_58, x268_59, x268_62, x268_65, x268_66, x268_68, x268_70, x268_72, x268_75, x268_76, x268_79, x268_81, x268_82, x268_83, x268_85, x268_86, x268_87, x268_90, x268_92, x268_93, x268_94, x268_96, x268_97, x268_98, x268_101, x268_102, x268_105, x268_107, x268_108, x268_109, x268_111, x268_112, x268_113, x268_116, x268_117, x268_120, x268_121, x268_122, x268_125, x268_128, x268_131, x268_134, x268_137, x268_141, x268_142, x268_143, x268_145, x268_147, x268_150, x268_151, x268_153, x268_155, x268_157, x268_160, x268_161, x268_164, x268_165, x268_168, x268_170, x268_171, x268_172, x268_174, x268_175, x268_176, x268_179, x268_180, x268_182, x268_185, x268_186, x268_189, x268_191, x268_193, x268_194, x268_195, x268_196, x268_197, x268_200, x268_201, x268_204, x268_205, x268_206, x268_209, x268_212, x268_215, x268_218, x268_219, y3 u, Kc_none]
    rw [r0, z4, x268_140]
    simp (disch := first | omega | exact notL_I | exact notL_N | exact notL_R | exact oM | exact catS_le (Nat.le_of_ble_eq_true rfl) | exact Nat.le_of_ble_eq_true rfl | rfl) only [x268_0, x268_1, x268_2, x268_5, x268_6, x268_8, x268_11, x268_14, x268_15, x268_18, x268_19, x268_20, x268_23, x268_24, x268_25, x268_26, x268_29, x268_32, x268_33, x268_35, x268_37, x268_40, x268_41, x268_42, x268_43, x268_45, x268_48, x268_49, x268_52, x268_54, x268_55, x268_56, x268_57, x268_58, x268_59, x268_62, x268_65, x268_66, x268_68, x268_70, x268_72, x268_75, x268_76, x268_79, x268_81, x268_82, x268_83, x268_85, x268_86, x268_87, x268_90, x268_92, x268_93, x268_94, x268_96, x268_97, x268_98, x268_101, x268_102, x268_105, x268_107, x268_108, x268_109, x268_111, x268_112, x268_113, x268_116, x268_117, x268_120, x268_121, x268_122, x268_125, x268_128, x268_131, x268_134, x268_137, x268_141, x268_142, x268_143, x268_145, x268_147, x268_150, x268_151, x268_153, x268_155, x268_157, x268_160, x268_161, x268_164, x268_165, x268_168, x268_170, x268_171, x268_172, x268_174, x268_175, x268_176, x268_179, x268_180, x268_182, x268_185, x268_186, x268_189, x268_191, x268_193, x268_194, x268_195, x268_196, x268_197, x268_200, x268_201, x268_204, x268_205, x268_206, x268_209, x268_212, x268_215, x268_218, x268_219]
end N1
