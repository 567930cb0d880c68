/-! runs of the reference: terms melted, rows that are alike go -/
theorem rsF_add {σ : St} {h : Int} : ∀ (a b : Nat) (n : Int), rsF σ h (a + b) n = rsF σ h a n ++ rsF σ h b (n + a) := by
  intro a
  induction a with
  | zero => intro b n; rw [Nat.zero_add, rsF, List.nil_append, Int.natCast_zero, Int.add_zero]
  | succ a ih =>
    intro b n
    rw [Nat.succ_add, rsF, ih, rsF]
    rw [show n + 1 + (a : Int) = n + ((a + 1 : Nat) : Int) by omega]
    split
    · rw [List.cons_append]
    · rfl
theorem find_some {L : List Rw} {g : At} {w : Rw} (h : findL L g = some w) : w ∈ L ∧ w.2 = g := by
  unfold findL at h
  exact ⟨List.mem_of_find?_eq_some h, by simpa using List.find?_some h⟩
theorem rsR_of {σ : St} {h n : Int} (n0 : 0 ≤ n) (n1 : n < σ 381 h) (ht : σ 377 (200 * h + n) = 1) : rwR σ h n ∈ rsR σ h := by
  have : ∀ (k : Nat) (a : Int), a ≤ n → n < a + k → rwR σ h n ∈ rsF σ h k a := by
    intro k
    induction k with
    | zero => intro a z1 z2; omega
    | succ k ihz =>
      intro a z1 z2
      rw [rsF]
      by_cases z3 : a = n
      · subst z3
        rw [if_pos ht]
        exact List.mem_cons_self
      · split
        · exact List.mem_cons_of_mem _ (ihz (a + 1) (by omega) (by omega))
        · exact ihz (a + 1) (by omega) (by omega)
  exact this _ 0 n0 (by omega)
section M3
variable {sc : Scr}
theorem l_rep0 {h n a b : Int} {d : Nat} (hd : 1 ≤ d) (h1 : 0 ≤ h) (h2 : h ≤ 4) (n1 : 0 ≤ n) (n2 : n ≤ 199) (ha : inR a) : ∀ (k : Nat) (c : Int) (τ : St), WfM τ → isTm b → 0 ≤ c → c + k = 3 →
    ∃ τ', (∀ x, x ≠ 379 → τ' x = τ x) ∧ (∀ j, τ' 379 j = if 3 * (200 * h + n) + c ≤ j ∧ j < 3 * (200 * h + n) + 3 ∧ τ 377 (200 * h + n) = 1 ∧ j - 3 * (200 * h + n) < τ 374 (26 * h + τ 378 (200 * h + n)) then subT a b (τ 379 j) else τ 379 j) ∧ ∀ (u : Bool × Nat × Nat × Int) (Q : Rs → HS → Prop), Ex sc d 247 17 [some (vR 373), some (vI h), some (vI a), some (vI b), some (vI n), some (vI c)] [] (wH τ u) Q ↔ Ex sc d 247 88 [some (vR 373), some (vI h), some (vI a), some (vI b), some (vI n), some (vI 3)] [] (wH τ' u) Q := by
  obtain ⟨a1, a2⟩ := ha
  intro k
  induction k with
  | zero =>
    intro c τ W hb c0 ck
    have : c = 3 := by omega
    subst this
    refine ⟨τ, fun _ _ => rfl, fun j => by rw [if_neg (by omega)], fun u Q => ?_⟩
    rw [x247_17]
    simp (disch := first | omega | exact notL_I | exact notL_N | exact notL_R | exact oM | exact catS_le (Nat.le_of_ble_eq_true rfl) | rfl) only [x247_0, x247_1, x247_3, x247_5, x247_6, x247_9, x247_10, x247_11, x247_14, x247_15, x247_19, x247_20, x247_23, x247_24, x247_25, x247_27, x247_30, x247_33, x247_35, x247_36, x247_37, x247_38, x247_39, x247_41, x247_44, x247_47, x247_50, x247_51, x247_52, x247_54, x247_56, x247_59, x247_60, x247_63, x247_64, x247_67, x247_68, x247_71, x247_72, x247_73, x247_75, x247_76, x247_77, x247_79, x247_80, x247_81, x247_82, x247_85, x247_91, x247_94, x247_95, x247_97, x247_99, x247_100, x247_103, x247_104, x247_105, x247_108, x247_109, x247_110, x247_112, x247_115, x247_118, x247_119, x247_120, x247_121, x247_122, x247_124, x247_127, x247_128, x247_129, x247_131, x247_132, x247_135, x247_136, x247_137, x247_139, x247_140, x247_143, x247_144, x247_145, x247_147, x247_148, x247_151, x247_154, x247_156, x247_159, x247_160, x247_163, x247_166, x247_167, x247_168, x247_170, x247_171, x247_172, x247_173, x247_176, x247_179, x247_180, x247_182, x247_184, x247_186, x247_189, x247_190, x247_193, x247_195, x247_196, x247_199, x247_201, x247_202, x247_203, x247_206, x247_207, x247_210, x247_211, x247_214, x247_216, x247_217, x247_218, x247_221, x247_224, if_pos, if_neg, ↓reduceIte, not_true_eq_false, not_false_eq_true]
  | succ k ih =>
    intro c τ W hb c0 ck
    have wt := W.thr h1 h2 n1 n2
    have wb := W.tab h1 h2 n1 n2
    have wc := W.col h1 h2 wb.1 wb.2
    have wx := isTm_in (W.ter (c := c) h1 h2 n1 n2 c0 (by omega))
    by_cases hc : τ 377 (200 * h + n) = 1 ∧ c < τ 374 (26 * h + τ 378 (200 * h + n)) ∧ τ 379 (3 * (200 * h + n) + c) = a
    · obtain ⟨c1, c2, c3⟩ := hc
      have W2 : WfM (su τ 379 (3 * (200 * h + n) + c) b) := by
        refine WfM.mk W ?_ ?_ ?_ ?_ ?_ ?_ ?_ ?_ ?_ ?_ ?_ ?_ ?_
        · rw [su_ne (by omega)]; exact W.p4
        · rw [su_ne (by omega)]; exact W.p5
        · intro i i0 i1; exact okU_c (W.p6 i i0 i1) (fun k _ _ => by rw [su_ne (by omega)])
        · rw [su_ne (by omega)]; exact W.p7
        · rw [su_ne (by omega)]; exact W.p8
        · exact wp_su W.p9 hb
        · rw [su_ne (by omega)]; exact W.p0
        · rw [su_ne (by omega)]; exact W.p1
        · rw [su_ne (by omega)]; exact W.p2
        · rw [su_ne (by omega)]; exact W.p3
        · rw [su_ne (by omega)]; exact W.pa
        · exact su_ne (by omega)
        · rw [su_ne (by omega)]
      obtain ⟨τ', q1, q2, q3⟩ := ih (c + 1) (su τ 379 (3 * (200 * h + n) + c) b) W2 hb (by omega) (by omega)
      refine ⟨τ', fun x hx => by rw [q1 x hx, su_ne hx], fun j => ?_, fun u Q => ?_⟩
      · rw [q2, su_ne (by omega), su_ne (by omega), su_ne (by omega), su_at]
        by_cases hj : j = 3 * (200 * h + n) + c
        · subst hj
          rw [if_pos rfl, if_neg (by omega), if_pos (by omega)]
          unfold subT
          rw [if_pos c3]
        · rw [if_neg hj]
          by_cases hq : 3 * (200 * h + n) + (c + 1) ≤ j ∧ j < 3 * (200 * h + n) + 3 ∧ τ 377 (200 * h + n) = 1 ∧ j - 3 * (200 * h + n) < τ 374 (26 * h + τ 378 (200 * h + n))
          · rw [if_pos hq, if_pos (by omega)]
          · rw [if_neg hq, if_neg (by omega)]
      · have q4 := q3 u Q
        rw [x247_17]
        simp (disch := first | omega | exact notL_I | exact notL_N | exact notL_R | exact oM | exact catS_le (Nat.le_of_ble_eq_true rfl) | exact Nat.le_of_ble_eq_true rfl | rfl) only [x247_0, x247_1, x247_3, x247_5, x247_6, x247_9, x247_10, x247_11, x247_14, x247_15, x247_19, x247_20, x247_23, x247_24, x247_25, x247_27, x247_30, x247_33, x247_35, x247_36, x247_37, x247_38, x247_39, x247_41, x247_44, x247_47, x247_50, x247_51, x247_52, x247_54, x247_56, x247_59, x247_60, x247_63, x247_64, x247_67, x247_68, x247_71, x247_72, x247_73, x247_75, x247_76, x247_77, x247_79, x247_80, x247_81, x247_82, x247_85, x247_91, x247_94, x247_95, x247_97, x247_99, x247_100, x247_103, x247_104, x247_105, x247_108, x247_109, x247_110, x247_112, x247_115, x247_118, x247_119, x247_120, x247_121, x247_122, x247_124, x247_127, x247_128, x247_129, x247_131, x247_132, x247_135, x247_136, x247_137, x247_139, x247_140, x247_143, x247_144, x247_145, x247_147, x247_148, x247_151, x247_154, x247_156, x247_159, x247_160, x247_163, x247_166, x247_167, x247_168, x247_170, x247_171, x247_172, x247_173, x247_176, x247_179, x247_180, x247_182, x247_184, x247_186, x247_189, x247_190, x247_193, x247_195, x247_196, x247_199, x247_201, x247_202, x247_203, x247_206, x247_207, x247_210, x247_211, x247_214, x247_216, x247_217, x247_218, x247_221, x247_224, s_isThere, s_table, s_colsOf, s_term, c1, c3, Kc_some, gM_terms, WM_terms, if_pos, if_neg, ↓reduceIte, not_true_eq_false, not_false_eq_true]
        exact q4
    · obtain ⟨τ', q1, q2, q3⟩ := ih (c + 1) τ W hb (by omega) (by omega)
      refine ⟨τ', q1, fun j => ?_, fun u Q => ?_⟩
      · rw [q2]
        by_cases hj : j = 3 * (200 * h + n) + c
        · subst hj
          rw [if_neg (by omega)]
          split
          · rename_i hq
            unfold subT
            rw [if_neg (fun z => hc ⟨hq.2.2.1, by omega, z⟩)]
          · rfl
        · by_cases hq : 3 * (200 * h + n) + (c + 1) ≤ j ∧ j < 3 * (200 * h + n) + 3 ∧ τ 377 (200 * h + n) = 1 ∧ j - 3 * (200 * h + n) < τ 374 (26 * h + τ 378 (200 * h + n))
          · rw [if_pos hq, if_pos (by omega)]
          · rw [if_neg hq, if_neg (by omega)]
      · have q4 := q3 u Q
        rw [x247_17]
        rcases wt with wt | wt
        · simp (disch := first | omega | exact notL_I | exact notL_N | exact notL_R | exact oM | exact catS_le (Nat.le_of_ble_eq_true rfl) | exact Nat.le_of_ble_eq_true rfl | rfl) only [x247_0, x247_1, x247_3, x247_5, x247_6, x247_9, x247_10, x247_11, x247_14, x247_15, x247_19, x247_20, x247_23, x247_24, x247_25, x247_27, x247_30, x247_33, x247_35, x247_36, x247_37, x247_38, x247_39, x247_41, x247_44, x247_47, x247_50, x247_51, x247_52, x247_54, x247_56, x247_59, x247_60, x247_63, x247_64, x247_67, x247_68, x247_71, x247_72, x247_73, x247_75, x247_76, x247_77, x247_79, x247_80, x247_81, x247_82, x247_85, x247_91, x247_94, x247_95, x247_97, x247_99, x247_100, x247_103, x247_104, x247_105, x247_108, x247_109, x247_110, x247_112, x247_115, x247_118, x247_119, x247_120, x247_121, x247_122, x247_124, x247_127, x247_128, x247_129, x247_131, x247_132, x247_135, x247_136, x247_137, x247_139, x247_140, x247_143, x247_144, x247_145, x247_147, x247_148, x247_151, x247_154, x247_156, x247_159, x247_160, x247_163, x247_166, x247_167, x247_168, x247_170, x247_171, x247_172, x247_173, x247_176, x247_179, x247_180, x247_182, x247_184, x247_186, x247_189, x247_190, x247_193, x247_195, x247_196, x247_199, x247_201, x247_202, x247_203, x247_206, x247_207, x247_210, x247_211, x247_214, x247_216, x247_217, x247_218, x247_221, x247_224, s_isThere, wt, Kc_some, if_pos, if_neg, ↓reduceIte, not_true_eq_false, not_false_eq_true]
          exact q4
        · by_cases cc : c < τ 374 (26 * h + τ 378 (200 * h + n))
          · have c3 : ¬ τ 379 (3 * (200 * h + n) + c) = a := fun z => hc ⟨wt, cc, z⟩
            simp (disch := first | omega | exact notL_I | exact notL_N | exact notL_R | exact oM | exact catS_le (Nat.le_of_ble_eq_true rfl) | exact Nat.le_of_ble_eq_true rfl | rfl) only [x247_0, x247_1, x247_3, x247_5, x247_6, x247_9, x247_10, x247_11, x247_14, x247_15, x247_19, x247_20, x247_23, x247_24, x247_25, x247_27, x247_30, x247_33, x247_35, x247_36, x247_37, x247_38, x247_39, x247_41, x247_44, x247_47, x247_50, x247_51, x247_52, x247_54, x247_56, x247_59, x247_60, x247_63, x247_64, x247_67, x247_68, x247_71, x247_72, x247_73, x247_75, x247_76, x247_77, x247_79, x247_80, x247_81, x247_82, x247_85, x247_91, x247_94, x247_95, x247_97, x247_99, x247_100, x247_103, x247_104, x247_105, x247_108, x247_109, x247_110, x247_112, x247_115, x247_118, x247_119, x247_120, x247_121, x247_122, x247_124, x247_127, x247_128, x247_129, x247_131, x247_132, x247_135, x247_136, x247_137, x247_139, x247_140, x247_143, x247_144, x247_145, x247_147, x247_148, x247_151, x247_154, x247_156, x247_159, x247_160, x247_163, x247_166, x247_167, x247_168, x247_170, x247_171, x247_172, x247_173, x247_176, x247_179, x247_180, x247_182, x247_184, x247_186, x247_189, x247_190, x247_193, x247_195, x247_196, x247_199, x247_201, x247_202, x247_203, x247_206, x247_207, x247_210, x247_211, x247_214, x247_216, x247_217, x247_218, x247_221, x247_224, s_isThere, s_table, s_colsOf, s_term, wt, Kc_some, if_pos, if_neg, ↓reduceIte, not_true_eq_false, not_false_eq_true]
            exact q4
          · simp (disch := first | omega | exact notL_I | exact notL_N | exact notL_R | exact oM | exact catS_le (Nat.le_of_ble_eq_true rfl) | exact Nat.le_of_ble_eq_true rfl | rfl) only [x247_0, x247_1, x247_3, x247_5, x247_6, x247_9, x247_10, x247_11, x247_14, x247_15, x247_19, x247_20, x247_23, x247_24, x247_25, x247_27, x247_30, x247_33, x247_35, x247_36, x247_37, x247_38, x247_39, x247_41, x247_44, x247_47, x247_50, x247_51, x247_52, x247_54, x247_56, x247_59, x247_60, x247_63, x247_64, x247_67, x247_68, x247_71, x247_72, x247_73, x247_75, x247_76, x247_77, x247_79, x247_80, x247_81, x247_82, x247_85, x247_91, x247_94, x247_95, x247_97, x247_99, x247_100, x247_103, x247_104, x247_105, x247_108, x247_109, x247_110, x247_112, x247_115, x247_118, x247_119, x247_120, x247_121, x247_122, x247_124, x247_127, x247_128, x247_129, x247_131, x247_132, x247_135, x247_136, x247_137, x247_139, x247_140, x247_143, x247_144, x247_145, x247_147, x247_148, x247_151, x247_154, x247_156, x247_159, x247_160, x247_163, x247_166, x247_167, x247_168, x247_170, x247_171, x247_172, x247_173, x247_176, x247_179, x247_180, x247_182, x247_184, x247_186, x247_189, x247_190, x247_193, x247_195, x247_196, x247_199, x247_201, x247_202, x247_203, x247_206, x247_207, x247_210, x247_211, x247_214, x247_216, x247_217, x247_218, x247_221, x247_224, s_isThere, s_table, s_colsOf, wt, Kc_some, if_pos, if_neg, ↓reduceIte, not_true_eq_false, not_false_eq_true]
            exact q4
theorem l_rep1 {h a b : Int} {d : Nat} {σ : St} (hd : 1 ≤ d) (W0 : WfM σ) (h1 : 0 ≤ h) (h2 : h ≤ 4) (ha : inR a) (hb : isTm b) : ∀ (k : Nat) (n : Int) (τ : St), WfM τ → (∀ x, x ≠ 379 → τ x = σ x) → 0 ≤ n → n + k = σ 381 h →
    ∃ τ', WfM τ' ∧ (∀ x, x ≠ 379 → τ' x = σ x) ∧ (∀ j, j < 3 * (200 * h + n) ∨ 3 * (200 * h + σ 381 h) ≤ j → τ' 379 j = τ 379 j) ∧ (∀ m c, n ≤ m → m < σ 381 h → 0 ≤ c → c < 3 → τ' 379 (3 * (200 * h + m) + c) = if σ 377 (200 * h + m) = 1 ∧ c < σ 374 (26 * h + σ 378 (200 * h + m)) then subT a b (τ 379 (3 * (200 * h + m) + c)) else τ 379 (3 * (200 * h + m) + c)) ∧ ∀ (u : Bool × Nat × Nat × Int) (Q : Rs → HS → Prop) (l5 : Option V) (R : Prop), (∀ l, Ex sc d 247 94 [some (vR 373), some (vI h), some (vI a), some (vI b), some (vI (σ 381 h)), l] [] (wH τ' u) Q ↔ R) → (Ex sc d 247 3 [some (vR 373), some (vI h), some (vI a), some (vI b), some (vI n), l5] [] (wH τ u) Q ↔ R) := by
  have w := W0.nxt h1 h2
  intro k
  induction k with
  | zero =>
    intro n τ W e n0 nk
    have e1 : τ 381 h = σ 381 h := by rw [e 381 (by omega)]
    refine ⟨τ, W, e, fun _ _ => rfl, fun m c m0 m1 => by omega, fun u Q l5 R hR => ?_⟩
    have hn : n = σ 381 h := by omega
    rw [← hR l5, x247_3, hn]
    simp (disch := first | omega | exact notL_I | exact notL_N | exact notL_R | exact oM | exact catS_le (Nat.le_of_ble_eq_true rfl) | rfl) only [x247_0, x247_1, x247_5, x247_6, x247_9, x247_10, x247_11, x247_14, x247_15, x247_19, x247_20, x247_23, x247_24, x247_25, x247_27, x247_30, x247_33, x247_35, x247_36, x247_37, x247_38, x247_39, x247_41, x247_44, x247_47, x247_50, x247_51, x247_52, x247_54, x247_56, x247_59, x247_60, x247_63, x247_64, x247_67, x247_68, x247_71, x247_72, x247_73, x247_75, x247_76, x247_77, x247_79, x247_80, x247_81, x247_82, x247_85, x247_91, x247_95, x247_97, x247_99, x247_100, x247_103, x247_104, x247_105, x247_108, x247_109, x247_110, x247_112, x247_115, x247_118, x247_119, x247_120, x247_121, x247_122, x247_124, x247_127, x247_128, x247_129, x247_131, x247_132, x247_135, x247_136, x247_137, x247_139, x247_140, x247_143, x247_144, x247_145, x247_147, x247_148, x247_151, x247_154, x247_156, x247_159, x247_160, x247_163, x247_166, x247_167, x247_168, x247_170, x247_171, x247_172, x247_173, x247_176, x247_179, x247_180, x247_182, x247_184, x247_186, x247_189, x247_190, x247_193, x247_195, x247_196, x247_199, x247_201, x247_202, x247_203, x247_206, x247_207, x247_210, x247_211, x247_214, x247_216, x247_217, x247_218, x247_221, x247_224, gM_nextRow, RM_nextRow, e1, if_pos, if_neg, ↓reduceIte, not_true_eq_false, not_false_eq_true]
  | succ k ih =>
    intro n τ W e n0 nk
    have e1 : τ 381 h = σ 381 h := by rw [e 381 (by omega)]
    obtain ⟨τ1, p1, p2, p3⟩ := l_rep0 (sc := sc) (d := d) (a := a) (b := b) hd h1 h2 n0 (by omega) ha 3 0 τ W hb (by omega) (by omega)
    have W1 : WfM τ1 := by
      refine WfM.mk W ?_ ?_ ?_ ?_ ?_ ?_ ?_ ?_ ?_ ?_ ?_ ?_ ?_
      · rw [p1 374 (by omega)]; exact W.p4
      · rw [p1 375 (by omega)]; exact W.p5
      · intro i i0 i1; exact okU_c (W.p6 i i0 i1) (fun k _ _ => by rw [p1 376 (by omega)])
      · rw [p1 377 (by omega)]; exact W.p7
      · rw [p1 378 (by omega)]; exact W.p8
      · intro i i0 i1
        rw [p2]
        split
        · unfold subT
          split
          · exact hb
          · exact W.p9 i i0 i1
        · exact W.p9 i i0 i1
      · rw [p1 380 (by omega)]; exact W.p0
      · rw [p1 381 (by omega)]; exact W.p1
      · rw [p1 382 (by omega)]; exact W.p2
      · rw [p1 383 (by omega)]; exact W.p3
      · rw [p1 385 (by omega)]; exact W.pa
      · exact p1 386 (by omega)
      · rw [p1 373 (by omega)]
    obtain ⟨τ', q0, q1, q2, q3, q4⟩ := ih (n + 1) τ1 W1 (fun x hx => by rw [p1 x hx, e x hx]) (by omega) (by omega)
    refine ⟨τ', q0, q1, fun j hj => ?_, fun m c m0 m1 c0 c1 => ?_, fun u Q l5 R hR => ?_⟩
    · rw [q2 j (by omega), p2, if_neg (by omega)]
    · by_cases hm : m = n
      · subst hm
        rw [q2 _ (by omega), p2, e 377 (by omega), e 374 (by omega), e 378 (by omega)]
        by_cases hq : σ 377 (200 * h + m) = 1 ∧ c < σ 374 (26 * h + σ 378 (200 * h + m))
        · rw [if_pos (by omega), if_pos hq]
        · rw [if_neg (by omega), if_neg hq]
      · rw [q3 m c (by omega) m1 c0 c1]
        have : τ1 379 (3 * (200 * h + m) + c) = τ 379 (3 * (200 * h + m) + c) := by rw [p2, if_neg (by omega)]
        rw [this]
    · rw [x247_3]
      simp (disch := first | omega | exact notL_I | exact notL_N | exact notL_R | exact oM | exact catS_le (Nat.le_of_ble_eq_true rfl) | rfl) only [x247_0, x247_1, x247_5, x247_6, x247_9, x247_10, x247_11, x247_14, x247_15, x247_19, x247_20, x247_23, x247_24, x247_25, x247_27, x247_30, x247_33, x247_35, x247_36, x247_37, x247_38, x247_39, x247_41, x247_44, x247_47, x247_50, x247_51, x247_52, x247_54, x247_56, x247_59, x247_60, x247_63, x247_64, x247_67, x247_68, x247_71, x247_72, x247_73, x247_75, x247_76, x247_77, x247_79, x247_80, x247_81, x247_82, x247_85, x247_91, x247_95, x247_97, x247_99, x247_100, x247_103, x247_104, x247_105, x247_108, x247_109, x247_110, x247_112, x247_115, x247_118, x247_119, x247_120, x247_121, x247_122, x247_124, x247_127, x247_128, x247_129, x247_131, x247_132, x247_135, x247_136, x247_137, x247_139, x247_140, x247_143, x247_144, x247_145, x247_147, x247_148, x247_151, x247_154, x247_156, x247_159, x247_160, x247_163, x247_166, x247_167, x247_168, x247_170, x247_171, x247_172, x247_173, x247_176, x247_179, x247_180, x247_182, x247_184, x247_186, x247_189, x247_190, x247_193, x247_195, x247_196, x247_199, x247_201, x247_202, x247_203, x247_206, x247_207, x247_210, x247_211, x247_214, x247_216, x247_217, x247_218, x247_221, x247_224, gM_nextRow, RM_nextRow, e1, if_pos, if_neg, ↓reduceIte, not_true_eq_false, not_false_eq_true]
      rw [p3 u Q]
      simp (disch := first | omega | exact notL_I | exact notL_N | exact notL_R | exact oM | exact catS_le (Nat.le_of_ble_eq_true rfl) | rfl) only [x247_88, x247_91]
      exact q4 u Q (some (vI 3)) R hR
theorem l_rep2 {h a b : Int} {d : Nat} (hd : 2 ≤ d) (h1 : 0 ≤ h) (h2 : h ≤ 4) : ∀ (k : Nat) (n : Int) (τ : St), WfM τ → 0 ≤ n → n + k = τ 381 h →
    ∃ τ', WfM τ' ∧ (∀ x, x ≠ 377 → τ' x = τ x) ∧ (∀ j, j < 200 * h ∨ 200 * h + 200 ≤ j → τ' 377 j = τ 377 j) ∧ rsR τ' h = rsF τ h n.toNat 0 ++ ddF ((rsF τ h n.toNat 0).map (fun w => w.2)) (rsF τ h k n) ∧ ∀ (u : Bool × Nat × Nat × Int) (Q : Rs → HS → Prop) (l5 : Option V), Ex sc d 247 97 [some (vR 373), some (vI h), some (vI a), some (vI b), some (vI n), l5] [] (wH τ u) Q ↔ Ex sc d 247 179 [some (vR 373), some (vI h), some (vI a), some (vI b), some (vI (τ 381 h)), l5] [] (wH τ' u) Q := by
  intro k
  induction k with
  | zero =>
    intro n τ W n0 nk
    have w := W.nxt h1 h2
    have hn : n = τ 381 h := by omega
    refine ⟨τ, W, fun _ _ => rfl, fun _ _ => rfl, ?_, fun u Q l5 => ?_⟩
    · rw [rsF, ddF, List.append_nil, hn]
      rfl
    · rw [x247_97, hn]
      simp (disch := first | omega | exact notL_I | exact notL_N | exact notL_R | exact oM | exact catS_le (Nat.le_of_ble_eq_true rfl) | rfl) only [x247_0, x247_1, x247_3, x247_5, x247_6, x247_9, x247_10, x247_11, x247_14, x247_15, x247_17, x247_19, x247_20, x247_23, x247_24, x247_25, x247_27, x247_30, x247_33, x247_35, x247_36, x247_37, x247_38, x247_39, x247_41, x247_44, x247_47, x247_50, x247_51, x247_52, x247_54, x247_56, x247_59, x247_60, x247_63, x247_64, x247_67, x247_68, x247_71, x247_72, x247_73, x247_75, x247_76, x247_77, x247_79, x247_80, x247_81, x247_82, x247_85, x247_88, x247_91, x247_94, x247_95, x247_99, x247_100, x247_103, x247_104, x247_105, x247_108, x247_109, x247_110, x247_112, x247_115, x247_118, x247_119, x247_120, x247_121, x247_122, x247_124, x247_127, x247_128, x247_129, x247_131, x247_132, x247_135, x247_136, x247_137, x247_139, x247_140, x247_143, x247_144, x247_145, x247_147, x247_148, x247_151, x247_154, x247_156, x247_159, x247_160, x247_163, x247_166, x247_167, x247_168, x247_170, x247_171, x247_172, x247_173, x247_176, x247_180, x247_182, x247_184, x247_186, x247_189, x247_190, x247_193, x247_195, x247_196, x247_199, x247_201, x247_202, x247_203, x247_206, x247_207, x247_210, x247_211, x247_214, x247_216, x247_217, x247_218, x247_221, x247_224, gM_nextRow, RM_nextRow, if_pos, if_neg, ↓reduceIte, not_true_eq_false, not_false_eq_true]
  | succ k ih =>
    intro n τ W n0 nk
    have w := W.nxt h1 h2
    have wt := W.thr (n := n) h1 h2 n0 (by omega)
    have wb := W.tab (n := n) h1 h2 n0 (by omega)
    have x0 := isTm_in (W.ter (n := n) (c := 0) h1 h2 n0 (by omega) (by omega) (by omega))
    have x1 := isTm_in (W.ter (n := n) (c := 1) h1 h2 n0 (by omega) (by omega) (by omega))
    have x2 := isTm_in (W.ter (n := n) (c := 2) h1 h2 n0 (by omega) (by omega) (by omega))
    rw [Int.add_zero] at x0
    have en1 : (n + 1).toNat = n.toNat + 1 := by omega
    have sn := rsF_snoc (σ := τ) (h := h) n.toNat 0
    rw [show (0 : Int) + ((n.toNat : Nat) : Int) = n by omega] at sn
    rcases wt with wt | wt
    · obtain ⟨τ', q0, q1, q2, q3, q4⟩ := ih (n + 1) τ W (by omega) (by omega)
      rw [en1, sn, if_neg (by omega), List.append_nil] at q3
      refine ⟨τ', q0, q1, q2, ?_, fun u Q l5 => ?_⟩
      · have e9 : rsF τ h (k + 1) n = rsF τ h k (n + 1) := by rw [rsF, if_neg (by omega)]
        rw [q3, e9]
      · have q5 := q4 u Q l5
        rw [x247_97]
        simp (disch := first | omega | exact notL_I | exact notL_N | exact notL_R | exact oM | exact catS_le (Nat.le_of_ble_eq_true rfl) | rfl) only [x247_0, x247_1, x247_3, x247_5, x247_6, x247_9, x247_10, x247_11, x247_14, x247_15, x247_17, x247_19, x247_20, x247_23, x247_24, x247_25, x247_27, x247_30, x247_33, x247_35, x247_36, x247_37, x247_38, x247_39, x247_41, x247_44, x247_47, x247_50, x247_51, x247_52, x247_54, x247_56, x247_59, x247_60, x247_63, x247_64, x247_67, x247_68, x247_71, x247_72, x247_73, x247_75, x247_76, x247_77, x247_79, x247_80, x247_81, x247_82, x247_85, x247_88, x247_91, x247_94, x247_95, x247_99, x247_100, x247_103, x247_104, x247_105, x247_108, x247_109, x247_110, x247_112, x247_115, x247_118, x247_119, x247_120, x247_121, x247_122, x247_124, x247_127, x247_128, x247_129, x247_131, x247_132, x247_135, x247_136, x247_137, x247_139, x247_140, x247_143, x247_144, x247_145, x247_147, x247_148, x247_151, x247_154, x247_156, x247_159, x247_160, x247_163, x247_166, x247_167, x247_168, x247_170, x247_171, x247_172, x247_173, x247_176, x247_180, x247_182, x247_184, x247_186, x247_189, x247_190, x247_193, x247_195, x247_196, x247_199, x247_201, x247_202, x247_203, x247_206, x247_207, x247_210, x247_211, x247_214, x247_216, x247_217, x247_218, x247_221, x247_224, gM_nextRow, RM_nextRow, s_isThere, wt, Kc_some, if_pos, if_neg, ↓reduceIte, not_true_eq_false, not_false_eq_true]
        exact q5
    · have hz : 3 * (200 * h + n) + 0 = 3 * (200 * h + n) := Int.add_zero _
      have fr := fun u Q => s_find (sc := sc) (σ := τ) (u := u) (Q := Q) (d := d - 1) (h := h) (t := τ 378 (200 * h + n)) (x := τ 379 (3 * (200 * h + n))) (y := τ 379 (3 * (200 * h + n) + 1)) (z := τ 379 (3 * (200 * h + n) + 2)) W (by omega) h1 h2 wb.1 wb.2 ⟨by omega, by omega⟩ ⟨by omega, by omega⟩ ⟨by omega, by omega⟩
      have eg : (τ 378 (200 * h + n), nrm (τ 374 (26 * h + τ 378 (200 * h + n))) (τ 379 (3 * (200 * h + n))) (τ 379 (3 * (200 * h + n) + 1)) (τ 379 (3 * (200 * h + n) + 2))) = (rwR τ h n).2 := rfl
      rw [eg] at fr
      have split : rsR τ h = rsF τ h n.toNat 0 ++ rsF τ h (k + 1) n := by
        have := rsF_add (σ := τ) (h := h) n.toNat (k + 1) 0
        rw [show (0 : Int) + ((n.toNat : Nat) : Int) = n by omega] at this
        rw [← this]
        unfold rsR
        congr 1
        omega
      have hcons : rsF τ h (k + 1) n = rwR τ h n :: rsF τ h k (n + 1) := by rw [rsF, if_pos wt]
      have hfind : findL (rsR τ h) (rwR τ h n).2 = (findL (rsF τ h n.toNat 0) (rwR τ h n).2).or (some (rwR τ h n)) := by
        rw [split, hcons, find_app, findL_cons, if_pos rfl]
      rw [hfind] at fr
      rw [hcons, ddF]
      cases hP : findL (rsF τ h n.toNat 0) (rwR τ h n).2 with
      | some v =>
        obtain ⟨v1, v2⟩ := find_some hP
        obtain ⟨v3, v4, _, _⟩ := rs_mem _ _ _ v1
        have hm : (rwR τ h n).2 ∈ (rsF τ h n.toNat 0).map (fun w => w.2) := List.mem_map.mpr ⟨v, v1, v2⟩
        rw [if_pos hm]
        rw [hP] at fr
        have W2 : WfM (su τ 377 (200 * h + n) 0) := by
          refine WfM.mk W ?_ ?_ ?_ ?_ ?_ ?_ ?_ ?_ ?_ ?_ ?_ ?_ ?_
          · rw [su_ne (by omega)]; exact W.p4
          · rw [su_ne (by omega)]; exact W.p5
          · intro i i0 i1; exact okU_c (W.p6 i i0 i1) (fun k _ _ => by rw [su_ne (by omega)])
          · intro i i0 i1; rw [su_at]; split; exact Or.inl rfl; exact W.p7 i i0 i1
          · rw [su_ne (by omega)]; exact W.p8
          · rw [su_ne (by omega)]; exact W.p9
          · rw [su_ne (by omega)]; exact W.p0
          · rw [su_ne (by omega)]; exact W.p1
          · rw [su_ne (by omega)]; exact W.p2
          · rw [su_ne (by omega)]; exact W.p3
          · rw [su_ne (by omega)]; exact W.pa
          · exact su_ne (by omega)
          · rw [su_ne (by omega)]
        have ext : ∀ (k : Nat) (i : Int), (∀ j, i ≤ j → j < i + k → j ≠ n) → rsF (su τ 377 (200 * h + n) 0) h k i = rsF τ h k i := fun k i H => rsF_ext k i (fun j j0 j1 => ⟨by have := H j j0 j1; rw [su_off (by omega)], by unfold rwR; rw [su_ne (by omega), su_ne (by omega), su_ne (by omega)]⟩)
        obtain ⟨τ', q0, q1, q2, q3, q4⟩ := ih (n + 1) (su τ 377 (200 * h + n) 0) W2 (by omega) (by rw [su_ne (by omega)]; omega)
        have sn2 := rsF_snoc (σ := su τ 377 (200 * h + n) 0) (h := h) n.toNat 0
        rw [show (0 : Int) + ((n.toNat : Nat) : Int) = n by omega, su_eq, if_neg (by omega), List.append_nil] at sn2
        rw [en1, sn2, ext _ _ (fun j j0 j1 => by omega), ext _ _ (fun j j0 j1 => by omega)] at q3
        refine ⟨τ', q0, fun x hx => by rw [q1 x hx, su_ne hx], fun j hj => by rw [q2 j hj, su_off (by omega)], q3, fun u Q l5 => ?_⟩
        have q5 := q4 u Q l5
        rw [su_ne (by omega)] at q5
        have hv : numO (some v) = v.1 := rfl
        rw [x247_97]
        simp (disch := first | omega | exact notL_I | exact notL_N | exact notL_R | exact oM | exact catS_le (Nat.le_of_ble_eq_true rfl) | exact Nat.le_of_ble_eq_true rfl | rfl) only [x247_0, x247_1, x247_3, x247_5, x247_6, x247_9, x247_10, x247_11, x247_14, x247_15, x247_17, x247_19, x247_20, x247_23, x247_24, x247_25, x247_27, x247_30, x247_33, x247_35, x247_36, x247_37, x247_38, x247_39, x247_41, x247_44, x247_47, x247_50, x247_51, x247_52, x247_54, x247_56, x247_59, x247_60, x247_63, x247_64, x247_67, x247_68, x247_71, x247_72, x247_73, x247_75, x247_76, x247_77, x247_79, x247_80, x247_81, x247_82, x247_85, x247_88, x247_91, x247_94, x247_95, x247_99, x247_100, x247_103, x247_104, x247_105, x247_108, x247_109, x247_110, x247_112, x247_115, x247_118, x247_119, x247_120, x247_121, x247_122, x247_124, x247_127, x247_128, x247_129, x247_131, x247_132, x247_135, x247_136, x247_137, x247_139, x247_140, x247_143, x247_144, x247_145, x247_147, x247_148, x247_151, x247_154, x247_156, x247_159, x247_160, x247_163, x247_166, x247_167, x247_168, x247_170, x247_171, x247_172, x247_173, x247_176, x247_180, x247_182, x247_184, x247_186, x247_189, x247_190, x247_193, x247_195, x247_196, x247_199, x247_201, x247_202, x247_203, x247_206, x247_207, x247_210, x247_211, x247_214, x247_216, x247_217, x247_218, x247_221, x247_224, gM_nextRow, RM_nextRow, s_isThere, s_table, s_term, hz, wt, Option.some_or, fr, hv, Kc_some, gM_there, WM_there, if_pos, if_neg, ↓reduceIte, not_true_eq_false, not_false_eq_true]
        exact q5
      | none =>
        rw [hP] at fr
        have hm : ¬ (rwR τ h n).2 ∈ (rsF τ h n.toNat 0).map (fun w => w.2) := fun z => by
          obtain ⟨v, v1, v2⟩ := List.mem_map.mp z
          exact find_none.mp hP v v1 v2
        rw [if_neg hm]
        obtain ⟨τ', q0, q1, q2, q3, q4⟩ := ih (n + 1) τ W (by omega) (by omega)
        rw [en1, sn, if_pos wt] at q3
        refine ⟨τ', q0, q1, q2, ?_, fun u Q l5 => ?_⟩
        · rw [q3, List.append_assoc, List.map_append]
          congr 1
          show rwR τ h n :: ddF _ _ = _
          congr 1
          apply ddF_congr
          intro g
          simp [or_comm]
        · have q5 := q4 u Q l5
          have hv : numO (some (rwR τ h n)) = n := rfl
          rw [x247_97]
          simp (disch := first | omega | exact notL_I | exact notL_N | exact notL_R | exact oM | exact catS_le (Nat.le_of_ble_eq_true rfl) | exact Nat.le_of_ble_eq_true rfl | rfl) only [x247_0, x247_1, x247_3, x247_5, x247_6, x247_9, x247_10, x247_11, x247_14, x247_15, x247_17, x247_19, x247_20, x247_23, x247_24, x247_25, x247_27, x247_30, x247_33, x247_35, x247_36, x247_37, x247_38, x247_39, x247_41, x247_44, x247_47, x247_50, x247_51, x247_52, x247_54, x247_56, x247_59, x247_60, x247_63, x247_64, x247_67, x247_68, x247_71, x247_72, x247_73, x247_75, x247_76, x247_77, x247_79, x247_80, x247_81, x247_82, x247_85, x247_88, x247_91, x247_94, x247_95, x247_99, x247_100, x247_103, x247_104, x247_105, x247_108, x247_109, x247_110, x247_112, x247_115, x247_118, x247_119, x247_120, x247_121, x247_122, x247_124, x247_127, x247_128, x247_129, x247_131, x247_132, x247_135, x247_136, x247_137, x247_139, x247_140, x247_143, x247_144, x247_145, x247_147, x247_148, x247_151, x247_154, x247_156, x247_159, x247_160, x247_163, x247_166, x247_167, x247_168, x247_170, x247_171, x247_172, x247_173, x247_176, x247_180, x247_182, x247_184, x247_186, x247_189, x247_190, x247_193, x247_195, x247_196, x247_199, x247_201, x247_202, x247_203, x247_206, x247_207, x247_210, x247_211, x247_214, x247_216, x247_217, x247_218, x247_221, x247_224, gM_nextRow, RM_nextRow, s_isThere, s_table, s_term, hz, wt, Option.none_or, fr, hv, Kc_some, if_pos, if_neg, ↓reduceIte, not_true_eq_false, not_false_eq_true]
          exact q5
/-- what follows melts too -/
def fwS (σ : St) (a b k : Int) : St := fun c => if c = 393 then (fun j => if 0 ≤ j ∧ j < k then subT a b (σ 393 j) else σ 393 j) else σ c
theorem fwS_ne {σ : St} {a b k : Int} {c : Nat} (h : c ≠ 393) : fwS σ a b k c = σ c := by unfold fwS; rw [if_neg h]
theorem fwS_at {σ : St} {a b k j : Int} : fwS σ a b k 393 j = if 0 ≤ j ∧ j < k then subT a b (σ 393 j) else σ 393 j := by unfold fwS; rw [if_pos rfl]
theorem l_rep3 {h a b : Int} {d : Nat} {σ : St} {l5 : Option V} {u : Bool × Nat × Nat × Int} {Q : Rs → HS → Prop} (ha : inR a) (hf : gdB (σ 393)) : ∀ (k : Nat) (v : Int), 0 ≤ v → v + k = 26 → (Ex sc d 247 182 [some (vR 373), some (vI h), some (vI a), some (vI b), some (vI v), l5] [] (wH (fwS σ a b v) u) Q ↔ Q (.inl none) (wH (fwS σ a b 26) u)) := by
  obtain ⟨a1, a2⟩ := ha
  intro k
  induction k with
  | zero =>
    intro v v0 vk
    obtain rfl : v = 26 := by omega
    rw [x247_182]
    simp (disch := first | omega | exact notL_I | exact notL_N | exact notL_R | exact oM | exact catS_le (Nat.le_of_ble_eq_true rfl) | rfl) only [x247_0, x247_1, x247_3, x247_5, x247_6, x247_9, x247_10, x247_11, x247_14, x247_15, x247_17, x247_19, x247_20, x247_23, x247_24, x247_25, x247_27, x247_30, x247_33, x247_35, x247_36, x247_37, x247_38, x247_39, x247_41, x247_44, x247_47, x247_50, x247_51, x247_52, x247_54, x247_56, x247_59, x247_60, x247_63, x247_64, x247_67, x247_68, x247_71, x247_72, x247_73, x247_75, x247_76, x247_77, x247_79, x247_80, x247_81, x247_82, x247_85, x247_88, x247_91, x247_94, x247_95, x247_97, x247_99, x247_100, x247_103, x247_104, x247_105, x247_108, x247_109, x247_110, x247_112, x247_115, x247_118, x247_119, x247_120, x247_121, x247_122, x247_124, x247_127, x247_128, x247_129, x247_131, x247_132, x247_135, x247_136, x247_137, x247_139, x247_140, x247_143, x247_144, x247_145, x247_147, x247_148, x247_151, x247_154, x247_156, x247_159, x247_160, x247_163, x247_166, x247_167, x247_168, x247_170, x247_171, x247_172, x247_173, x247_176, x247_179, x247_180, x247_184, x247_186, x247_189, x247_190, x247_193, x247_195, x247_196, x247_199, x247_201, x247_202, x247_203, x247_206, x247_207, x247_210, x247_211, x247_214, x247_216, x247_217, x247_218, x247_221, x247_224, if_pos, if_neg, ↓reduceIte, not_true_eq_false, not_false_eq_true]
  | succ k ih =>
    intro v v0 vk
    have w := hf v v0 (by omega)
    have e : fwS σ a b v 393 v = σ 393 v := by rw [fwS_at, if_neg (by omega)]
    have i1 := ih (v + 1) (by omega) (by omega)
    have es : su (fwS σ a b v) 393 v (subT a b (σ 393 v)) = fwS σ a b (v + 1) := by
      apply st_ext (a := 393)
      · intro c hc; rw [su_ne hc, fwS_ne hc, fwS_ne hc]
      · intro j
        rw [su_at, fwS_at, fwS_at]
        by_cases hj : j = v
        · subst hj; rw [if_pos rfl, if_pos (by omega)]
        · rw [if_neg hj]
          by_cases q : 0 ≤ j ∧ j < v
          · rw [if_pos q, if_pos (by omega)]
          · rw [if_neg q, if_neg (by omega)]
    rw [x247_182]
    by_cases hc : σ 393 v = a
    · have es' : su (fwS σ a b v) 393 v b = fwS σ a b (v + 1) := by rw [← es]; unfold subT; rw [if_pos hc]
      simp (disch := first | omega | exact notL_I | exact notL_N | exact notL_R | exact oM | exact catS_le (Nat.le_of_ble_eq_true rfl) | rfl) only [x247_0, x247_1, x247_3, x247_5, x247_6, x247_9, x247_10, x247_11, x247_14, x247_15, x247_17, x247_19, x247_20, x247_23, x247_24, x247_25, x247_27, x247_30, x247_33, x247_35, x247_36, x247_37, x247_38, x247_39, x247_41, x247_44, x247_47, x247_50, x247_51, x247_52, x247_54, x247_56, x247_59, x247_60, x247_63, x247_64, x247_67, x247_68, x247_71, x247_72, x247_73, x247_75, x247_76, x247_77, x247_79, x247_80, x247_81, x247_82, x247_85, x247_88, x247_91, x247_94, x247_95, x247_97, x247_99, x247_100, x247_103, x247_104, x247_105, x247_108, x247_109, x247_110, x247_112, x247_115, x247_118, x247_119, x247_120, x247_121, x247_122, x247_124, x247_127, x247_128, x247_129, x247_131, x247_132, x247_135, x247_136, x247_137, x247_139, x247_140, x247_143, x247_144, x247_145, x247_147, x247_148, x247_151, x247_154, x247_156, x247_159, x247_160, x247_163, x247_166, x247_167, x247_168, x247_170, x247_171, x247_172, x247_173, x247_176, x247_179, x247_180, x247_184, x247_186, x247_189, x247_190, x247_193, x247_195, x247_196, x247_199, x247_201, x247_202, x247_203, x247_206, x247_207, x247_210, x247_211, x247_214, x247_216, x247_217, x247_218, x247_221, x247_224, gM_follow, RM_follow, WM_follow, e, es', if_pos, if_neg, ↓reduceIte, not_true_eq_false, not_false_eq_true]
      exact i1
    · have es' : su (fwS σ a b v) 393 v (σ 393 v) = fwS σ a b (v + 1) := by rw [← es]; unfold subT; rw [if_neg hc]
      simp (disch := first | omega | exact notL_I | exact notL_N | exact notL_R | exact oM | exact catS_le (Nat.le_of_ble_eq_true rfl) | rfl) only [x247_0, x247_1, x247_3, x247_5, x247_6, x247_9, x247_10, x247_11, x247_14, x247_15, x247_17, x247_19, x247_20, x247_23, x247_24, x247_25, x247_27, x247_30, x247_33, x247_35, x247_36, x247_37, x247_38, x247_39, x247_41, x247_44, x247_47, x247_50, x247_51, x247_52, x247_54, x247_56, x247_59, x247_60, x247_63, x247_64, x247_67, x247_68, x247_71, x247_72, x247_73, x247_75, x247_76, x247_77, x247_79, x247_80, x247_81, x247_82, x247_85, x247_88, x247_91, x247_94, x247_95, x247_97, x247_99, x247_100, x247_103, x247_104, x247_105, x247_108, x247_109, x247_110, x247_112, x247_115, x247_118, x247_119, x247_120, x247_121, x247_122, x247_124, x247_127, x247_128, x247_129, x247_131, x247_132, x247_135, x247_136, x247_137, x247_139, x247_140, x247_143, x247_144, x247_145, x247_147, x247_148, x247_151, x247_154, x247_156, x247_159, x247_160, x247_163, x247_166, x247_167, x247_168, x247_170, x247_171, x247_172, x247_173, x247_176, x247_179, x247_180, x247_184, x247_186, x247_189, x247_190, x247_193, x247_195, x247_196, x247_199, x247_201, x247_202, x247_203, x247_206, x247_207, x247_210, x247_211, x247_214, x247_216, x247_217, x247_218, x247_221, x247_224, gM_follow, RM_follow, WM_follow, e, es', if_pos, if_neg, ↓reduceIte, not_true_eq_false, not_false_eq_true]
      exact i1
theorem s_replace {h a b : Int} {d : Nat} {σ : St} (hd : 2 ≤ d) (W : WfM σ) (h1 : 0 ≤ h) (h2 : h ≤ 4) (ha : isTm a) (hb : isTm b) (hf : gdB (σ 393)) (hcol : ∀ w ∈ rsR σ h, 1 ≤ σ 374 (26 * h + w.2.1)) :
    ∃ τ, Mf h σ τ ∧ rnR τ h = (meltL (rsR σ h) a b, σ 381 h, naR σ h, stR σ h, byR σ h) ∧ τ 382 = σ 382 ∧ (∀ v, 0 ≤ v → v ≤ 25 → τ 393 v = subT a b (σ 393 v)) ∧ (∀ c, 386 < c → c ≠ 393 → τ c = σ c) ∧ τ 373 = σ 373 ∧ RnA sc d 247 0 [some (vR 373), some (vI h), some (vI a), some (vI b), none, none] σ none τ := by
  have w := W.nxt h1 h2
  have ha' := isTm_in ha
  have na := (isTm_ne ha).1
  obtain ⟨τ1, W1, p1, p2, p3, p4⟩ := l_rep1 (sc := sc) (d := d) (a := a) (b := b) (by omega) W h1 h2 ⟨by omega, by omega⟩ hb (σ 381 h).toNat 0 σ W (fun _ _ => rfl) (by omega) (by omega)
  have e1 : τ1 381 h = σ 381 h := by rw [p1 381 (by omega)]
  have rs1 : rsR τ1 h = (rsR σ h).map (subW a b) := by
    have : ∀ (k : Nat) (n : Int), 0 ≤ n → n + k ≤ σ 381 h → rsF τ1 h k n = (rsF σ h k n).map (subW a b) := by
      intro k
      induction k with
      | zero => intro n _ _; rfl
      | succ k ih =>
        intro n n0 nk
        rw [rsF, rsF, p1 377 (by omega), ih (n + 1) (by omega) (by omega)]
        split
        · rename_i ht
          rw [List.map_cons]
          congr 1
          have q0 := p3 n 0 (by omega) (by omega) (by omega) (by omega)
          have q1 := p3 n 1 (by omega) (by omega) (by omega) (by omega)
          have q2 := p3 n 2 (by omega) (by omega) (by omega) (by omega)
          rw [Int.add_zero] at q0
          have sn : subT a b (-1) = -1 := by unfold subT; rw [if_neg (fun z => na z.symm)]
          unfold rwR subW subA nrm
          rw [p1 378 (by omega), p1 374 (by omega), q1, q2]
          have wt := W.tab (n := n) h1 h2 n0 (by omega)
          have wc := W.col h1 h2 wt.1 wt.2
          by_cases m0 : 0 < σ 374 (26 * h + σ 378 (200 * h + n))
          · rw [q0, if_pos ⟨ht, m0⟩]
            by_cases m2 : 2 ≤ σ 374 (26 * h + σ 378 (200 * h + n))
            · by_cases m3 : 3 ≤ σ 374 (26 * h + σ 378 (200 * h + n))
              · simp only [if_pos m2, if_pos m3, if_pos (And.intro ht (show (1 : Int) < σ 374 (26 * h + σ 378 (200 * h + n)) by omega)), if_pos (And.intro ht (show (2 : Int) < σ 374 (26 * h + σ 378 (200 * h + n)) by omega))]
              · simp only [if_pos m2, if_neg m3, if_pos (And.intro ht (show (1 : Int) < σ 374 (26 * h + σ 378 (200 * h + n)) by omega)), sn]
            · have m3 : ¬ 3 ≤ σ 374 (26 * h + σ 378 (200 * h + n)) := by omega
              simp only [if_neg m2, if_neg m3, sn]
          · have := hcol _ (rsR_of n0 (by omega) ht)
            have e9 : (rwR σ h n).2.1 = σ 378 (200 * h + n) := rfl
            rw [e9] at this
            omega
        · rfl
    unfold rsR
    rw [e1]
    exact this _ 0 (by omega) (by omega)
  obtain ⟨τ2, W2, q1, q2, q3, q4⟩ := l_rep2 (sc := sc) (d := d) (a := a) (b := b) hd h1 h2 (σ 381 h).toNat 0 τ1 W1 (by omega) (by omega)
  have rs2 : rsR τ2 h = meltL (rsR σ h) a b := by
    rw [q3]
    show [] ++ ddF [] (rsF τ1 h (σ 381 h).toNat 0) = _
    rw [List.nil_append]
    unfold meltL
    rw [← rs1]
    unfold rsR
    rw [e1]
  have p2o : ∀ c, c ≠ 377 → c ≠ 379 → τ2 c = σ c := fun c a1 a2 => by rw [q1 c a1, p1 c a2]
  have f3 : τ2 393 = σ 393 := p2o 393 (by omega) (by omega)
  have to : ∀ c, c ≠ 377 → c ≠ 379 → c ≠ 393 → fwS τ2 a b 26 c = σ c := fun c a1 a2 a3 => by rw [fwS_ne a3, p2o c a1 a2]
  have D2 : Dt τ2 (fwS τ2 a b 26) := ⟨fun c c0 c1 => fwS_ne (by omega), by rw [fwS_ne (by omega)]⟩
  have t9 : fwS τ2 a b 26 379 = τ1 379 := by rw [fwS_ne (by omega), q1 379 (by omega)]
  refine ⟨fwS τ2 a b 26, ⟨RsR.of (fun c _ _ => to c (by omega) (by omega) (by omega)) (fun j _ => by rw [to 373 (by omega) (by omega) (by omega)]), fun c c0 c1 => to c (by omega) (by omega) (by omega), fun g hg => ?_, D2.wf W2, by rw [to 373 (by omega) (by omega) (by omega)]⟩, ?_, to 382 (by omega) (by omega) (by omega), fun v v0 v1 => by rw [fwS_at, if_pos (by omega), f3], fun c c0 c1 => to c (by omega) (by omega) c1, to 373 (by omega) (by omega) (by omega), fun u Q => ?_⟩
  · refine ⟨HQa.of (fun c c0 c1 => to c (by omega) (by omega) (by omega)), ⟨fun n n0 n1 => ⟨?_, by rw [to 378 (by omega) (by omega) (by omega)]⟩, fun n n0 n1 => ?_, by rw [to 381 (by omega) (by omega) (by omega)], fun k _ _ => by rw [to 385 (by omega) (by omega) (by omega)]⟩, ⟨fun n _ _ => by rw [to 380 (by omega) (by omega) (by omega)], by rw [to 382 (by omega) (by omega) (by omega)], by rw [to 383 (by omega) (by omega) (by omega)], fun k _ _ => by rw [to 384 (by omega) (by omega) (by omega)]⟩⟩
    · rw [fwS_ne (by omega), q2 _ (by omega), p1 377 (by omega)]
    · rw [t9, p2 _ (by omega)]
  · unfold rnR
    have en : naR (fwS τ2 a b 26) h = naR σ h := by unfold naR; rw [to 385 (by omega) (by omega) (by omega)]
    have eb : byR (fwS τ2 a b 26) h = byR σ h := by unfold byR; rw [to 381 (by omega) (by omega) (by omega), to 380 (by omega) (by omega) (by omega)]
    have es : stR (fwS τ2 a b 26) h = stR σ h := by
      have : ∀ (k : Nat) (i : Int), stF (fwS τ2 a b 26) h k i = stF σ h k i := by
        intro k
        induction k with
        | zero => intro i; rfl
        | succ k ih => intro i; rw [stF, stF, ih, to 384 (by omega) (by omega) (by omega)]
      unfold stR
      rw [to 383 (by omega) (by omega) (by omega), this]
    rw [D2.rsr, rs2, to 381 (by omega) (by omega) (by omega), en, es, eb]
  · have l3 := fun l5 => l_rep3 (sc := sc) (d := d) (u := u) (Q := Q) (h := h) (l5 := l5) (σ := τ2) (a := a) (b := b) ⟨by omega, by omega⟩ (by rw [f3]; exact hf) 26 0 (by omega) (by omega)
    have z0 : fwS τ2 a b 0 = τ2 := by
      apply st_ext (a := 393)
      · intro c hc; exact fwS_ne hc
      · intro j; rw [fwS_at, if_neg (by omega)]
    rw [z0] at l3
    have hR : ∀ l, Ex sc d 247 94 [some (vR 373), some (vI h), some (vI a), some (vI b), some (vI (σ 381 h)), l] [] (wH τ1 u) Q ↔ Q (.inl none) (wH (fwS τ2 a b 26) u) := by
      intro l
      have q5 := q4 u Q l
      rw [e1] at q5
      have l4 := l3 l
      refine Iff.trans ?_ (q5.trans (Iff.trans ?_ l4))
      · simp (disch := first | omega | exact notL_I | exact notL_N | exact notL_R | exact oM | exact catS_le (Nat.le_of_ble_eq_true rfl) | rfl) only [x247_94, x247_95]
      · simp (disch := first | omega | exact notL_I | exact notL_N | exact notL_R | exact oM | exact catS_le (Nat.le_of_ble_eq_true rfl) | rfl) only [x247_179, x247_180]
    have := p4 u Q none _ hR
    refine Iff.trans ?_ this
    simp (disch := first | omega | exact notL_I | exact notL_N | exact notL_R | exact oM | exact catS_le (Nat.le_of_ble_eq_true rfl) | rfl) only [x247_0, x247_1]
end M3
