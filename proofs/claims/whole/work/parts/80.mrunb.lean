/-! runs of the reference: all of it -/
section Mb
variable {sc : Scr} {h : Int}
set_option maxHeartbeats 2000000 in
theorem l_runs {d most : Nat} (hd : 16 ≤ d) (hm : most ≤ 100) (h1 : 0 ≤ h) (h2 : h ≤ 4) : ∀ (k f turn made : Nat) (σ : St), made + k = most → k < f → (turn : Int) ≤ σ 375 h → RIm h σ → σ 383 h = (made : Int) →
    ∃ τ, Mf h σ τ ∧ rnR τ h = (runF (rlR σ h) most f turn (rnR σ h)).1 ∧ τ 382 h = (runF (rlR σ h) most f turn (rnR σ h)).2 ∧ gdB (τ 393) ∧ ((runF (rlR σ h) most f turn (rnR σ h)).2 = 1 → ∃ N, (rnR τ h).2.2.2.1 = stR σ h ++ N ∧ ∀ v, 0 ≤ v → v ≤ 25 → τ 393 v = flwF N (σ 393 v)) ∧ ∀ (u : Bool × Nat × Nat × Int) (Q : Rs → HS → Prop) (l5 l6 : Option V), notL l5 = true → (Ex sc d 242 40 [some (vR 373), some (vI h), some (vI ((most : Int))), some (vI ((turn : Int))), some (vI 0), l5, l6] [] (wH σ u) Q ↔ Q (.inl (some (vI ((runF (rlR σ h) most f turn (rnR σ h)).2)))) (wH τ u)) := by
  intro k
  induction k with
  | zero =>
    intro f turn made σ hmk hkf ht H hmade
    cases f with
    | zero => omega
    | succ f =>
      have wm := H.1.rm h1 h2
      have ws := H.1.stp h1 h2
      have lr := rlR_len (σ := σ) (h := h) wm.1
      have ls := stR_len (σ := σ) (h := h) ws.1
      obtain ⟨τ1, F1, G⟩ := l_pick (sc := sc) (d := d) (turn := turn) (most := (most : Int)) (by omega) h1 h2 (rlR σ h).length 0 σ H (by omega) ht
      have D1 := F1.dt
      have H1 := F1.rim H
      have M1 : Mf h σ τ1 := Mf.dt H.1 D1.1 F1.rs (F1.2 0 (by omega) (by omega) (by omega))
      have e93 : τ1 393 = σ 393 := F1.1 393 (by omega) (by omega) (by omega) (by omega) (by omega)
      have e83 : τ1 383 h = σ 383 h := by rw [D1.1 383 (by omega) (by omega)]
      have rsL : (rnR σ h).1 = rsR σ h := rfl
      have stL : (rnR σ h).2.2.2.1 = stR σ h := rfl
      rcases G with ⟨g1, g2⟩ | ⟨i, r, q, k', g1, g2, g3⟩
      · have e : runF (rlR σ h) most (f + 1) turn (rnR σ h) = (rnR σ h, 1) := by rw [runF, rsL, g1]
        rw [e]
        obtain ⟨M2, v2⟩ := Mf.st (h := h) (x := 1) H1.1 h1 h2 (by omega) (by omega)
        refine ⟨su τ1 382 h 1, M1.trans M2, by rw [v2, D1.rn], su_eq, by rw [su_ne (by omega), e93]; exact H.2.1, fun _ => ⟨[], by rw [v2, D1.rn, stL, List.append_nil], fun v _ _ => by rw [su_ne (by omega), e93]; rfl⟩, fun u Q l5 l6 n5 => ?_⟩
        have g2' := g2 u Q
        rw [Int.natCast_zero] at g2'
        rw [x242_40]
        simp (disch := first | omega | exact notL_I | exact notL_N | exact notL_R | exact oM | exact catS_le (Nat.le_of_ble_eq_true rfl) | exact Nat.le_of_ble_eq_true rfl | rfl) only [x242_0, x242_1, x242_4, x242_5, x242_6, x242_7, x242_8, x242_9, x242_10, x242_13, x242_16, x242_17, x242_20, x242_23, x242_24, x242_25, x242_26, x242_27, x242_28, x242_29, x242_32, x242_35, x242_36, x242_37, x242_38, x242_42, x242_45, x242_46, x242_48, x242_49, x242_53, x242_54, x242_57, x242_58, x242_59, x242_62, x242_64, x242_65, x242_68, x242_69, x242_70, x242_71, x242_73, x242_74, x242_75, x242_78, x242_79, x242_80, x242_81, x242_84, x242_87, x242_88, x242_90, x242_91, x242_92, x242_95, x242_96, x242_97, x242_98, x242_100, x242_103, x242_108, x242_109, x242_112, x242_113, x242_115, x242_118, x242_119, x242_122, x242_123, x242_124, x242_125, x242_128, x242_129, x242_131, x242_134, x242_135, x242_136, x242_138, x242_141, x242_143, x242_145, x242_146, x242_147, x242_148, x242_151, x242_152, x242_155, x242_156, x242_158, x242_159, x242_161, if_pos, if_neg, ↓reduceIte, not_true_eq_false, not_false_eq_true]
        rw [g2']
        simp (disch := first | omega | exact notL_I | exact notL_N | exact notL_R | exact oM | exact catS_le (Nat.le_of_ble_eq_true rfl) | exact Nat.le_of_ble_eq_true rfl | rfl) only [x242_0, x242_1, x242_4, x242_5, x242_6, x242_7, x242_8, x242_9, x242_10, x242_13, x242_16, x242_17, x242_20, x242_23, x242_24, x242_25, x242_26, x242_27, x242_28, x242_29, x242_32, x242_35, x242_36, x242_37, x242_38, x242_42, x242_45, x242_46, x242_48, x242_49, x242_53, x242_54, x242_57, x242_58, x242_59, x242_62, x242_64, x242_65, x242_68, x242_69, x242_70, x242_71, x242_73, x242_74, x242_75, x242_78, x242_79, x242_80, x242_81, x242_84, x242_87, x242_88, x242_90, x242_91, x242_92, x242_95, x242_96, x242_97, x242_98, x242_100, x242_103, x242_106, x242_108, x242_109, x242_112, x242_113, x242_115, x242_118, x242_119, x242_122, x242_123, x242_124, x242_125, x242_128, x242_129, x242_131, x242_134, x242_135, x242_136, x242_138, x242_141, x242_143, x242_145, x242_146, x242_147, x242_148, x242_151, x242_152, x242_155, x242_156, x242_158, x242_159, x242_161, if_pos, if_neg, ↓reduceIte, not_true_eq_false, not_false_eq_true]
        rw [x242_40]
        simp (disch := first | omega | exact notL_I | exact notL_N | exact notL_R | exact oM | exact catS_le (Nat.le_of_ble_eq_true rfl) | exact Nat.le_of_ble_eq_true rfl | rfl) only [x242_0, x242_1, x242_4, x242_5, x242_6, x242_7, x242_8, x242_9, x242_10, x242_13, x242_16, x242_17, x242_20, x242_23, x242_24, x242_25, x242_26, x242_27, x242_28, x242_29, x242_32, x242_35, x242_36, x242_37, x242_38, x242_42, x242_45, x242_46, x242_48, x242_49, x242_53, x242_54, x242_57, x242_58, x242_59, x242_62, x242_64, x242_65, x242_68, x242_69, x242_70, x242_71, x242_73, x242_74, x242_75, x242_78, x242_79, x242_80, x242_81, x242_84, x242_87, x242_88, x242_90, x242_91, x242_92, x242_95, x242_96, x242_97, x242_98, x242_100, x242_103, x242_108, x242_109, x242_112, x242_113, x242_115, x242_118, x242_119, x242_122, x242_123, x242_124, x242_125, x242_128, x242_129, x242_131, x242_134, x242_135, x242_136, x242_138, x242_141, x242_143, x242_145, x242_146, x242_147, x242_148, x242_151, x242_152, x242_155, x242_156, x242_158, x242_159, x242_161, gM_state, WM_state, if_pos, if_neg, ↓reduceIte, not_true_eq_false, not_false_eq_true]
      · have e : runF (rlR σ h) most (f + 1) turn (rnR σ h) = (rnR σ h, 3) := by
          rw [runF, rsL, g1]
          dsimp only
          rw [if_pos (by rw [stL]; omega)]
        rw [e]
        obtain ⟨M2, v2⟩ := Mf.st (h := h) (x := 3) H1.1 h1 h2 (by omega) (by omega)
        have hi : (i : Int) < σ 375 h := by
          have := (List.getElem?_eq_some_iff.mp (pick_mem _ _ _ _ _ g1).1).1
          omega
        refine ⟨su τ1 382 h 3, M1.trans M2, by rw [v2, D1.rn], su_eq, by rw [su_ne (by omega), e93]; exact H.2.1, fun z => by omega, fun u Q l5 l6 n5 => ?_⟩
        have g3' := g3 u Q
        rw [Int.natCast_zero] at g3'
        rw [x242_40]
        simp (disch := first | omega | exact notL_I | exact notL_N | exact notL_R | exact oM | exact catS_le (Nat.le_of_ble_eq_true rfl) | exact Nat.le_of_ble_eq_true rfl | rfl) only [x242_0, x242_1, x242_4, x242_5, x242_6, x242_7, x242_8, x242_9, x242_10, x242_13, x242_16, x242_17, x242_20, x242_23, x242_24, x242_25, x242_26, x242_27, x242_28, x242_29, x242_32, x242_35, x242_36, x242_37, x242_38, x242_42, x242_45, x242_46, x242_48, x242_49, x242_53, x242_54, x242_57, x242_58, x242_59, x242_62, x242_64, x242_65, x242_68, x242_69, x242_70, x242_71, x242_73, x242_74, x242_75, x242_78, x242_79, x242_80, x242_81, x242_84, x242_87, x242_88, x242_90, x242_91, x242_92, x242_95, x242_96, x242_97, x242_98, x242_100, x242_103, x242_108, x242_109, x242_112, x242_113, x242_115, x242_118, x242_119, x242_122, x242_123, x242_124, x242_125, x242_128, x242_129, x242_131, x242_134, x242_135, x242_136, x242_138, x242_141, x242_143, x242_145, x242_146, x242_147, x242_148, x242_151, x242_152, x242_155, x242_156, x242_158, x242_159, x242_161, if_pos, if_neg, ↓reduceIte, not_true_eq_false, not_false_eq_true]
        rw [g3']
        simp (disch := first | omega | exact notL_I | exact notL_N | exact notL_R | exact oM | exact catS_le (Nat.le_of_ble_eq_true rfl) | exact Nat.le_of_ble_eq_true rfl | rfl) only [x242_0, x242_1, x242_4, x242_5, x242_6, x242_7, x242_8, x242_9, x242_10, x242_13, x242_16, x242_17, x242_20, x242_23, x242_24, x242_25, x242_26, x242_27, x242_28, x242_29, x242_32, x242_35, x242_36, x242_37, x242_38, x242_42, x242_45, x242_46, x242_48, x242_49, x242_53, x242_54, x242_57, x242_58, x242_59, x242_62, x242_64, x242_65, x242_68, x242_69, x242_70, x242_71, x242_73, x242_74, x242_75, x242_78, x242_79, x242_80, x242_81, x242_84, x242_87, x242_88, x242_90, x242_91, x242_92, x242_95, x242_96, x242_97, x242_98, x242_100, x242_103, x242_106, x242_108, x242_109, x242_112, x242_113, x242_115, x242_118, x242_119, x242_122, x242_123, x242_124, x242_125, x242_128, x242_129, x242_131, x242_134, x242_135, x242_136, x242_138, x242_141, x242_143, x242_145, x242_146, x242_147, x242_148, x242_151, x242_152, x242_155, x242_156, x242_158, x242_159, x242_161, gM_stepMany, RM_stepMany, e83, if_pos, if_neg, ↓reduceIte, not_true_eq_false, not_false_eq_true]
        rw [x242_40]
        simp (disch := first | omega | exact notL_I | exact notL_N | exact notL_R | exact oM | exact catS_le (Nat.le_of_ble_eq_true rfl) | exact Nat.le_of_ble_eq_true rfl | rfl) only [x242_0, x242_1, x242_4, x242_5, x242_6, x242_7, x242_8, x242_9, x242_10, x242_13, x242_16, x242_17, x242_20, x242_23, x242_24, x242_25, x242_26, x242_27, x242_28, x242_29, x242_32, x242_35, x242_36, x242_37, x242_38, x242_42, x242_45, x242_46, x242_48, x242_49, x242_53, x242_54, x242_57, x242_58, x242_59, x242_62, x242_64, x242_65, x242_68, x242_69, x242_70, x242_71, x242_73, x242_74, x242_75, x242_78, x242_79, x242_80, x242_81, x242_84, x242_87, x242_88, x242_90, x242_91, x242_92, x242_95, x242_96, x242_97, x242_98, x242_100, x242_103, x242_108, x242_109, x242_112, x242_113, x242_115, x242_118, x242_119, x242_122, x242_123, x242_124, x242_125, x242_128, x242_129, x242_131, x242_134, x242_135, x242_136, x242_138, x242_141, x242_143, x242_145, x242_146, x242_147, x242_148, x242_151, x242_152, x242_155, x242_156, x242_158, x242_159, x242_161, gM_state, WM_state, if_pos, if_neg, ↓reduceIte, not_true_eq_false, not_false_eq_true]
  | succ k ih =>
    intro f turn made σ hmk hkf ht H hmade
    cases f with
    | zero => omega
    | succ f =>
      have wm := H.1.rm h1 h2
      have ws := H.1.stp h1 h2
      have lr := rlR_len (σ := σ) (h := h) wm.1
      have ls := stR_len (σ := σ) (h := h) ws.1
      obtain ⟨τ1, F1, G⟩ := l_pick (sc := sc) (d := d) (turn := turn) (most := (most : Int)) (by omega) h1 h2 (rlR σ h).length 0 σ H (by omega) ht
      have D1 := F1.dt
      have H1 := F1.rim H
      have M1 : Mf h σ τ1 := Mf.dt H.1 D1.1 F1.rs (F1.2 0 (by omega) (by omega) (by omega))
      have e93 : τ1 393 = σ 393 := F1.1 393 (by omega) (by omega) (by omega) (by omega) (by omega)
      have e83 : τ1 383 h = σ 383 h := by rw [D1.1 383 (by omega) (by omega)]
      have e75 : τ1 375 h = σ 375 h := by rw [D1.1 375 (by omega) (by omega)]
      have rsL : (rnR σ h).1 = rsR σ h := rfl
      have stL : (rnR σ h).2.2.2.1 = stR σ h := rfl
      rcases G with ⟨g1, g2⟩ | ⟨i, r, q, k', g1, g2, g3⟩
      · have e : runF (rlR σ h) most (f + 1) turn (rnR σ h) = (rnR σ h, 1) := by rw [runF, rsL, g1]
        rw [e]
        obtain ⟨M2, v2⟩ := Mf.st (h := h) (x := 1) H1.1 h1 h2 (by omega) (by omega)
        refine ⟨su τ1 382 h 1, M1.trans M2, by rw [v2, D1.rn], su_eq, by rw [su_ne (by omega), e93]; exact H.2.1, fun _ => ⟨[], by rw [v2, D1.rn, stL, List.append_nil], fun v _ _ => by rw [su_ne (by omega), e93]; rfl⟩, fun u Q l5 l6 n5 => ?_⟩
        have g2' := g2 u Q
        rw [Int.natCast_zero] at g2'
        rw [x242_40]
        simp (disch := first | omega | exact notL_I | exact notL_N | exact notL_R | exact oM | exact catS_le (Nat.le_of_ble_eq_true rfl) | exact Nat.le_of_ble_eq_true rfl | rfl) only [x242_0, x242_1, x242_4, x242_5, x242_6, x242_7, x242_8, x242_9, x242_10, x242_13, x242_16, x242_17, x242_20, x242_23, x242_24, x242_25, x242_26, x242_27, x242_28, x242_29, x242_32, x242_35, x242_36, x242_37, x242_38, x242_42, x242_45, x242_46, x242_48, x242_49, x242_53, x242_54, x242_57, x242_58, x242_59, x242_62, x242_64, x242_65, x242_68, x242_69, x242_70, x242_71, x242_73, x242_74, x242_75, x242_78, x242_79, x242_80, x242_81, x242_84, x242_87, x242_88, x242_90, x242_91, x242_92, x242_95, x242_96, x242_97, x242_98, x242_100, x242_103, x242_108, x242_109, x242_112, x242_113, x242_115, x242_118, x242_119, x242_122, x242_123, x242_124, x242_125, x242_128, x242_129, x242_131, x242_134, x242_135, x242_136, x242_138, x242_141, x242_143, x242_145, x242_146, x242_147, x242_148, x242_151, x242_152, x242_155, x242_156, x242_158, x242_159, x242_161, if_pos, if_neg, ↓reduceIte, not_true_eq_false, not_false_eq_true]
        rw [g2']
        simp (disch := first | omega | exact notL_I | exact notL_N | exact notL_R | exact oM | exact catS_le (Nat.le_of_ble_eq_true rfl) | exact Nat.le_of_ble_eq_true rfl | rfl) only [x242_0, x242_1, x242_4, x242_5, x242_6, x242_7, x242_8, x242_9, x242_10, x242_13, x242_16, x242_17, x242_20, x242_23, x242_24, x242_25, x242_26, x242_27, x242_28, x242_29, x242_32, x242_35, x242_36, x242_37, x242_38, x242_42, x242_45, x242_46, x242_48, x242_49, x242_53, x242_54, x242_57, x242_58, x242_59, x242_62, x242_64, x242_65, x242_68, x242_69, x242_70, x242_71, x242_73, x242_74, x242_75, x242_78, x242_79, x242_80, x242_81, x242_84, x242_87, x242_88, x242_90, x242_91, x242_92, x242_95, x242_96, x242_97, x242_98, x242_100, x242_103, x242_106, x242_108, x242_109, x242_112, x242_113, x242_115, x242_118, x242_119, x242_122, x242_123, x242_124, x242_125, x242_128, x242_129, x242_131, x242_134, x242_135, x242_136, x242_138, x242_141, x242_143, x242_145, x242_146, x242_147, x242_148, x242_151, x242_152, x242_155, x242_156, x242_158, x242_159, x242_161, if_pos, if_neg, ↓reduceIte, not_true_eq_false, not_false_eq_true]
        rw [x242_40]
        simp (disch := first | omega | exact notL_I | exact notL_N | exact notL_R | exact oM | exact catS_le (Nat.le_of_ble_eq_true rfl) | exact Nat.le_of_ble_eq_true rfl | rfl) only [x242_0, x242_1, x242_4, x242_5, x242_6, x242_7, x242_8, x242_9, x242_10, x242_13, x242_16, x242_17, x242_20, x242_23, x242_24, x242_25, x242_26, x242_27, x242_28, x242_29, x242_32, x242_35, x242_36, x242_37, x242_38, x242_42, x242_45, x242_46, x242_48, x242_49, x242_53, x242_54, x242_57, x242_58, x242_59, x242_62, x242_64, x242_65, x242_68, x242_69, x242_70, x242_71, x242_73, x242_74, x242_75, x242_78, x242_79, x242_80, x242_81, x242_84, x242_87, x242_88, x242_90, x242_91, x242_92, x242_95, x242_96, x242_97, x242_98, x242_100, x242_103, x242_108, x242_109, x242_112, x242_113, x242_115, x242_118, x242_119, x242_122, x242_123, x242_124, x242_125, x242_128, x242_129, x242_131, x242_134, x242_135, x242_136, x242_138, x242_141, x242_143, x242_145, x242_146, x242_147, x242_148, x242_151, x242_152, x242_155, x242_156, x242_158, x242_159, x242_161, gM_state, WM_state, if_pos, if_neg, ↓reduceIte, not_true_eq_false, not_false_eq_true]
      · obtain ⟨pm1, pm2⟩ := pick_mem _ _ _ _ _ g1
        have hi : (i : Int) < σ 375 h := by
          have := (List.getElem?_eq_some_iff.mp pm1).1
          omega
        have hri : r = ruR σ h i := by
          rw [rlR_get hi] at pm1
          exact (Option.some.inj pm1).symm
        subst hri
        obtain ⟨τ2, kk, M2, e2, s2, hf2, hfl, r2⟩ := s_stepR (sc := sc) (d := d - 1) (h := h) (r := (i : Int)) (σ := τ1) (q := q) (by omega) H1 h1 h2 (by omega) (by rw [e75]; exact hi) (by rw [e83]; omega) (by rw [D1.ru, D1.rsr]; exact pm2) g2
        rw [D1.ru, D1.rn] at e2
        have ek : (stepA (i : Int) (ruR σ h i) q (rnR σ h)).2 = kk := (congrArg Prod.snd e2).symm
        have en2 : rnR τ2 h = (stepA (i : Int) (ruR σ h i) q (rnR σ h)).1 := congrArg Prod.fst e2
        obtain ⟨β, hβ, _⟩ := openL_mem pm2
        have M12 : Mf h σ τ2 := M1.trans M2
        have hok2 : okS (coR σ h) (rnR τ2 h) := by rw [en2]; exact stepA_ok (H.2.2.2 i (by omega) hi) H.2.2.1 hβ
        have rrun : runF (rlR σ h) most (f + 1) turn (rnR σ h) = if kk = 0 then runF (rlR σ h) most f (i + 1) (rnR τ2 h) else (rnR τ2 h, kk) := by
          rw [runF, rsL, g1]
          dsimp only
          rw [if_neg (by rw [stL]; omega), ek, en2]
        rw [rrun]
        have head : ∀ (u : Bool × Nat × Nat × Int) (Q : Rs → HS → Prop) (l5 l6 : Option V), notL l5 = true → (Ex sc d 242 40 [some (vR 373), some (vI h), some (vI ((most : Int))), some (vI ((turn : Int))), some (vI 0), l5, l6] [] (wH σ u) Q ↔ Ex sc d 242 40 [some (vR 373), some (vI h), some (vI ((most : Int))), some (vI ((i : Int) + 1)), some (vI kk), some (vI ((i : Int))), some (vI k')] [] (wH τ2 u) Q) := by
          intro u Q l5 l6 n5
          have g3' := g3 u Q
          rw [Int.natCast_zero] at g3'
          rw [x242_40]
          simp (disch := first | omega | exact notL_I | exact notL_N | exact notL_R | exact oM | exact catS_le (Nat.le_of_ble_eq_true rfl) | exact Nat.le_of_ble_eq_true rfl | rfl) only [x242_0, x242_1, x242_4, x242_5, x242_6, x242_7, x242_8, x242_9, x242_10, x242_13, x242_16, x242_17, x242_20, x242_23, x242_24, x242_25, x242_26, x242_27, x242_28, x242_29, x242_32, x242_35, x242_36, x242_37, x242_38, x242_42, x242_45, x242_46, x242_48, x242_49, x242_53, x242_54, x242_57, x242_58, x242_59, x242_62, x242_64, x242_65, x242_68, x242_69, x242_70, x242_71, x242_73, x242_74, x242_75, x242_78, x242_79, x242_80, x242_81, x242_84, x242_87, x242_88, x242_90, x242_91, x242_92, x242_95, x242_96, x242_97, x242_98, x242_100, x242_103, x242_108, x242_109, x242_112, x242_113, x242_115, x242_118, x242_119, x242_122, x242_123, x242_124, x242_125, x242_128, x242_129, x242_131, x242_134, x242_135, x242_136, x242_138, x242_141, x242_143, x242_145, x242_146, x242_147, x242_148, x242_151, x242_152, x242_155, x242_156, x242_158, x242_159, x242_161, if_pos, if_neg, ↓reduceIte, not_true_eq_false, not_false_eq_true]
          rw [g3']
          simp (disch := first | omega | exact notL_I | exact notL_N | exact notL_R | exact oM | exact catS_le (Nat.le_of_ble_eq_true rfl) | exact Nat.le_of_ble_eq_true rfl | rfl) only [x242_0, x242_1, x242_4, x242_5, x242_6, x242_7, x242_8, x242_9, x242_10, x242_13, x242_16, x242_17, x242_20, x242_23, x242_24, x242_25, x242_26, x242_27, x242_28, x242_29, x242_32, x242_35, x242_36, x242_37, x242_38, x242_42, x242_45, x242_46, x242_48, x242_49, x242_53, x242_54, x242_57, x242_58, x242_59, x242_62, x242_64, x242_65, x242_68, x242_69, x242_70, x242_71, x242_73, x242_74, x242_75, x242_78, x242_79, x242_80, x242_81, x242_84, x242_87, x242_88, x242_90, x242_91, x242_92, x242_95, x242_96, x242_97, x242_98, x242_100, x242_103, x242_106, x242_108, x242_109, x242_112, x242_113, x242_115, x242_118, x242_119, x242_122, x242_123, x242_124, x242_125, x242_128, x242_129, x242_131, x242_134, x242_135, x242_136, x242_138, x242_141, x242_143, x242_145, x242_146, x242_147, x242_148, x242_151, x242_152, x242_155, x242_156, x242_158, x242_159, x242_161, gM_stepMany, RM_stepMany, e83, r2 u, Kc_some, if_pos, if_neg, ↓reduceIte, not_true_eq_false, not_false_eq_true]
        have fin : ∀ x : Int, 1 ≤ x → x ≤ 3 → kk = x → ∀ (u : Bool × Nat × Nat × Int) (Q : Rs → HS → Prop), Ex sc d 242 40 [some (vR 373), some (vI h), some (vI ((most : Int))), some (vI ((i : Int) + 1)), some (vI kk), some (vI ((i : Int))), some (vI k')] [] (wH τ2 u) Q ↔ Q (.inl (some (vI (x)))) (wH (su τ2 382 h x) u) := by
          intro x x1 x3 hx u Q
          subst hx
          rw [x242_40]
          simp (disch := first | omega | exact notL_I | exact notL_N | exact notL_R | exact oM | exact catS_le (Nat.le_of_ble_eq_true rfl) | exact Nat.le_of_ble_eq_true rfl | rfl) only [x242_0, x242_1, x242_4, x242_5, x242_6, x242_7, x242_8, x242_9, x242_10, x242_13, x242_16, x242_17, x242_20, x242_23, x242_24, x242_25, x242_26, x242_27, x242_28, x242_29, x242_32, x242_35, x242_36, x242_37, x242_38, x242_42, x242_45, x242_46, x242_48, x242_49, x242_53, x242_54, x242_57, x242_58, x242_59, x242_62, x242_64, x242_65, x242_68, x242_69, x242_70, x242_71, x242_73, x242_74, x242_75, x242_78, x242_79, x242_80, x242_81, x242_84, x242_87, x242_88, x242_90, x242_91, x242_92, x242_95, x242_96, x242_97, x242_98, x242_100, x242_103, x242_108, x242_109, x242_112, x242_113, x242_115, x242_118, x242_119, x242_122, x242_123, x242_124, x242_125, x242_128, x242_129, x242_131, x242_134, x242_135, x242_136, x242_138, x242_141, x242_143, x242_145, x242_146, x242_147, x242_148, x242_151, x242_152, x242_155, x242_156, x242_158, x242_159, x242_161, gM_state, WM_state, if_pos, if_neg, ↓reduceIte, not_true_eq_false, not_false_eq_true]
        rcases stepA_len (ri := (i : Int)) (r := ruR σ h i) (q := q) (s := rnR σ h) with ⟨z1, z2⟩ | ⟨z1, z2⟩ | z1
        · rw [ek] at z1
          subst z1
          rw [if_pos rfl]
          obtain ⟨l, l1, l2⟩ := hfl rfl
          have sx : stR τ1 h = stR σ h := congrArg (fun q : Rn => q.2.2.2.1) (show rnR τ1 h = rnR σ h from D1.rn)
          have lm : τ2 383 h = ((made + 1 : Nat) : Int) := by
            have w2 := M2.2.2.2.1.stp h1 h2
            have l2' := stR_len (σ := τ2) (h := h) w2.1
            have : (stR τ2 h).length = (stR σ h).length + 1 := by
              show (rnR τ2 h).2.2.2.1.length = _
              rw [en2]
              exact z2
            omega
          have H2 : RIm h τ2 := by
            refine ⟨M2.2.2.2.1, hf2, by rw [M12.co]; exact hok2, fun r r0 r1 => ?_⟩
            rw [M12.2.1 375 (by omega) (by omega)] at r1
            rw [M12.co, M12.ru]
            exact H.2.2.2 r r0 r1
          obtain ⟨τ, y1, y2, y3, y4, y5, y6⟩ := ih f (i + 1) (made + 1) τ2 (by omega) (by omega) (by rw [M12.2.1 375 (by omega) (by omega)]; omega) H2 lm
          rw [M12.rl] at y2 y3 y5 y6
          refine ⟨τ, M12.trans y1, y2, y3, y4, fun z => ?_, fun u Q l5 l6 n5 => ?_⟩
          · obtain ⟨N, n1, n2⟩ := y5 z
            refine ⟨l :: N, ?_, fun v v0 v1 => ?_⟩
            · rw [n1]
              show (rnR τ2 h).2.2.2.1 ++ N = _
              rw [l1, sx, List.append_assoc]
              rfl
            · rw [n2 v v0 v1, l2 v v0 v1, e93]
              rfl
          · refine (head u Q l5 l6 n5).trans ?_
            have c1 : (i : Int) + 1 = ((i + 1 : Nat) : Int) := by omega
            rw [c1]
            exact y6 u Q (some (vI (i : Int))) (some (vI k')) notL_I
        · rw [ek] at z1
          subst z1
          rw [if_neg (by omega)]
          obtain ⟨M3, v3⟩ := Mf.st (h := h) (x := 2) M2.2.2.2.1 h1 h2 (by omega) (by omega)
          refine ⟨su τ2 382 h 2, M12.trans M3, v3, su_eq, by rw [su_ne (by omega)]; exact hf2, fun z => by omega, fun u Q l5 l6 n5 => (head u Q l5 l6 n5).trans (fin 2 (by omega) (by omega) rfl u Q)⟩
        · rw [ek] at z1
          subst z1
          rw [if_neg (by omega)]
          obtain ⟨M3, v3⟩ := Mf.st (h := h) (x := 3) M2.2.2.2.1 h1 h2 (by omega) (by omega)
          refine ⟨su τ2 382 h 3, M12.trans M3, v3, su_eq, by rw [su_ne (by omega)]; exact hf2, fun z => by omega, fun u Q l5 l6 n5 => (head u Q l5 l6 n5).trans (fin 3 (by omega) (by omega) rfl u Q)⟩
theorem l_run0 {σ : St} {d : Nat} {most : Int} {u : Bool × Nat × Nat × Int} {Q : Rs → HS → Prop} {l4 l5 l6 : Option V} (h1 : 0 ≤ h) (h2 : h ≤ 4) : ∀ (k : Nat) (n : Int), 0 ≤ n → n + k = 200 → (Ex sc d 242 9 [some (vR 373), some (vI h), some (vI most), some (vI n), l4, l5, l6] [] (wH (fl σ 380 (200 * h) (200 * h + n) (-1)) u) Q ↔ Ex sc d 242 35 [some (vR 373), some (vI h), some (vI most), some (vI 200), l4, l5, l6] [] (wH (fl σ 380 (200 * h) (200 * h + 200) (-1)) u) Q) := by
  intro k
  induction k with
  | zero =>
    intro n n0 nk
    obtain rfl : n = 200 := by omega
    rw [x242_9]
    simp (disch := first | omega | exact notL_I | exact notL_N | exact notL_R | exact oM | exact catS_le (Nat.le_of_ble_eq_true rfl) | exact Nat.le_of_ble_eq_true rfl | rfl) only [x242_0, x242_1, x242_4, x242_5, x242_6, x242_7, x242_8, x242_10, x242_13, x242_16, x242_17, x242_20, x242_23, x242_24, x242_25, x242_26, x242_27, x242_28, x242_29, x242_32, x242_36, x242_37, x242_38, x242_40, x242_42, x242_45, x242_46, x242_48, x242_49, x242_51, x242_53, x242_54, x242_57, x242_58, x242_59, x242_62, x242_64, x242_65, x242_68, x242_69, x242_70, x242_71, x242_73, x242_74, x242_75, x242_78, x242_79, x242_80, x242_81, x242_84, x242_87, x242_88, x242_90, x242_91, x242_92, x242_95, x242_96, x242_97, x242_98, x242_100, x242_103, x242_106, x242_108, x242_109, x242_112, x242_113, x242_115, x242_118, x242_119, x242_122, x242_123, x242_124, x242_125, x242_128, x242_129, x242_131, x242_134, x242_135, x242_136, x242_138, x242_141, x242_143, x242_145, x242_146, x242_147, x242_148, x242_151, x242_152, x242_155, x242_156, x242_158, x242_159, x242_161, if_pos, if_neg, ↓reduceIte, not_true_eq_false, not_false_eq_true]
  | succ k ih =>
    intro n n0 nk
    rw [x242_9]
    simp (disch := first | omega | exact notL_I | exact notL_N | exact notL_R | exact oM | exact catS_le (Nat.le_of_ble_eq_true rfl) | exact Nat.le_of_ble_eq_true rfl | rfl) only [x242_0, x242_1, x242_4, x242_5, x242_6, x242_7, x242_8, x242_10, x242_13, x242_16, x242_17, x242_20, x242_23, x242_24, x242_25, x242_26, x242_27, x242_28, x242_29, x242_32, x242_36, x242_37, x242_38, x242_40, x242_42, x242_45, x242_46, x242_48, x242_49, x242_51, x242_53, x242_54, x242_57, x242_58, x242_59, x242_62, x242_64, x242_65, x242_68, x242_69, x242_70, x242_71, x242_73, x242_74, x242_75, x242_78, x242_79, x242_80, x242_81, x242_84, x242_87, x242_88, x242_90, x242_91, x242_92, x242_95, x242_96, x242_97, x242_98, x242_100, x242_103, x242_106, x242_108, x242_109, x242_112, x242_113, x242_115, x242_118, x242_119, x242_122, x242_123, x242_124, x242_125, x242_128, x242_129, x242_131, x242_134, x242_135, x242_136, x242_138, x242_141, x242_143, x242_145, x242_146, x242_147, x242_148, x242_151, x242_152, x242_155, x242_156, x242_158, x242_159, x242_161, gM_byStep, WM_byStep, fl_su, if_pos, if_neg, ↓reduceIte, not_true_eq_false, not_false_eq_true]
    rw [Int.add_assoc]
    exact ih (n + 1) (by omega) (by omega)
theorem s_runs {σ : St} {d most : Nat} (hd : 16 ≤ d) (hm : most ≤ 100) (h1 : 0 ≤ h) (h2 : h ≤ 4) (H : RIm h σ) :
    ∃ τ, Mf h σ τ ∧ rnR τ h = (runF (rlR σ h) most 101 0 (rsR σ h, σ 381 h, naR σ h, [], fun _ => -1)).1 ∧ τ 382 h = (runF (rlR σ h) most 101 0 (rsR σ h, σ 381 h, naR σ h, [], fun _ => -1)).2 ∧ gdB (τ 393) ∧ ((runF (rlR σ h) most 101 0 (rsR σ h, σ 381 h, naR σ h, [], fun _ => -1)).2 = 1 → ∀ v, 0 ≤ v → v ≤ 25 → τ 393 v = flwF (stR τ h) (σ 393 v)) ∧ RnA sc d 242 0 [some (vR 373), some (vI h), some (vI ((most : Int))), none, none, none, none] σ (some (vI (runF (rlR σ h) most 101 0 (rsR σ h, σ 381 h, naR σ h, [], fun _ => -1)).2)) τ := by
  obtain ⟨W, hf, hok, hr⟩ := H
  have wm := W.rm h1 h2
  generalize hσ0 : fl (su σ 383 h 0) 380 (200 * h) (200 * h + 200) (-1) = σ0
  have so : ∀ c, c ≠ 383 → c ≠ 380 → σ0 c = σ c := fun c a b => by rw [← hσ0, fl_ne b, su_ne a]
  have s3 : ∀ j, σ0 383 j = if j = h then 0 else σ 383 j := fun j => by rw [← hσ0, fl_ne (by omega), su_at]
  have s8 : ∀ j, σ0 380 j = if 200 * h ≤ j ∧ j < 200 * h + 200 then -1 else σ 380 j := fun j => by rw [← hσ0, fl_at, su_ne (by omega)]
  have W0 : WfM σ0 := by
    refine WfM.mk W ?_ ?_ ?_ ?_ ?_ ?_ ?_ ?_ ?_ ?_ ?_ ?_ ?_
    · rw [so 374 (by omega) (by omega)]; exact W.p4
    · rw [so 375 (by omega) (by omega)]; exact W.p5
    · intro i i0 i1; exact okU_c (W.p6 i i0 i1) (fun k _ _ => by rw [so 376 (by omega) (by omega)])
    · rw [so 377 (by omega) (by omega)]; exact W.p7
    · rw [so 378 (by omega) (by omega)]; exact W.p8
    · rw [so 379 (by omega) (by omega)]; exact W.p9
    · intro i i0 i1; rw [s8]; split; omega; exact W.p0 i i0 i1
    · rw [so 381 (by omega) (by omega)]; exact W.p1
    · rw [so 382 (by omega) (by omega)]; exact W.p2
    · intro i i0 i1; rw [s3]; split; omega; exact W.p3 i i0 i1
    · rw [so 385 (by omega) (by omega)]; exact W.pa
    · exact so 386 (by omega) (by omega)
    · rw [so 373 (by omega) (by omega)]
  have M0 : Mf h σ σ0 := by
    refine ⟨RsR.of (fun c _ _ => so c (by omega) (by omega)) (fun j _ => by rw [so 373 (by omega) (by omega)]), fun c a b => so c (by omega) (by omega), fun g hg => ?_, W0, by rw [so 373 (by omega) (by omega)]⟩
    refine ⟨HQa.of (fun c a b => so c (by omega) (by omega)), ⟨fun n _ _ => ⟨by rw [so 377 (by omega) (by omega)], by rw [so 378 (by omega) (by omega)]⟩, fun n _ _ => by rw [so 379 (by omega) (by omega)], by rw [so 381 (by omega) (by omega)], fun k _ _ => by rw [so 385 (by omega) (by omega)]⟩, ⟨fun n n0 n1 => by rw [s8, if_neg (by omega)], by rw [so 382 (by omega) (by omega)], by rw [s3, if_neg hg], fun k _ _ => by rw [so 384 (by omega) (by omega)]⟩⟩
  have wn := W.nxt h1 h2
  have rn0 : rnR σ0 h = (rsR σ h, σ 381 h, naR σ h, [], fun _ => -1) := by
    have er : rsR σ0 h = rsR σ h := by
      unfold rsR
      rw [so 381 (by omega) (by omega)]
      exact rsF_ext _ _ (fun i _ _ => ⟨by rw [so 377 (by omega) (by omega)], by unfold rwR; rw [so 374 (by omega) (by omega), so 378 (by omega) (by omega), so 379 (by omega) (by omega)]⟩)
    have en : naR σ0 h = naR σ h := by unfold naR; rw [so 385 (by omega) (by omega)]
    have es : stR σ0 h = [] := by unfold stR; rw [s3, if_pos rfl]; rfl
    have eb : byR σ0 h = fun _ => -1 := by
      funext n
      unfold byR
      rw [so 381 (by omega) (by omega)]
      split
      · rw [s8, if_pos (by omega)]
      · rfl
    unfold rnR
    rw [er, en, es, eb, so 381 (by omega) (by omega)]
  have H0 : RIm h σ0 := by
    refine ⟨W0, by rw [so 393 (by omega) (by omega)]; exact hf, ?_, fun r r0 r1 => ?_⟩
    · rw [M0.co, rn0]
      obtain ⟨a1, a2, a3, a4, a5, a6, a7⟩ := hok
      exact ⟨a1, a2, a3, a4, a5, a6, a7⟩
    · rw [so 375 (by omega) (by omega)] at r1
      rw [M0.co, M0.ru]
      exact hr r r0 r1
  obtain ⟨τ, y1, y2, y3, y4, y5, y6⟩ := l_runs (sc := sc) (d := d) (h := h) hd hm h1 h2 most 101 0 0 σ0 (by omega) (by omega) (by rw [so 375 (by omega) (by omega)]; omega) H0 (by rw [s3, if_pos rfl]; rfl)
  rw [M0.rl, rn0] at y2 y3 y5 y6
  refine ⟨τ, M0.trans y1, y2, y3, y4, fun z v v0 v1 => ?_, fun u Q => ?_⟩
  · obtain ⟨N, n1, n2⟩ := y5 z
    have es : stR σ0 h = [] := congrArg (fun q : Rn => q.2.2.2.1) rn0
    rw [es, List.nil_append] at n1
    rw [n2 v v0 v1, so 393 (by omega) (by omega)]
    show _ = flwF (rnR τ h).2.2.2.1 _
    rw [n1]
  · have l0 := l_run0 (sc := sc) (σ := su σ 383 h 0) (d := d) (u := u) (Q := Q) (h := h) (most := (most : Int)) (l4 := none) (l5 := none) (l6 := none) h1 h2 200 0 (by omega) (by omega)
    rw [Int.add_zero, fl_0, hσ0] at l0
    refine Iff.trans ?_ (l0.trans (Iff.trans ?_ (y6 u Q none none notL_N)))
    · simp (disch := first | omega | exact notL_I | exact notL_N | exact notL_R | exact oM | exact catS_le (Nat.le_of_ble_eq_true rfl) | exact Nat.le_of_ble_eq_true rfl | rfl) only [x242_0, x242_1, x242_4, x242_5, x242_6, x242_7, x242_8, x242_10, x242_13, x242_16, x242_17, x242_20, x242_23, x242_24, x242_25, x242_26, x242_27, x242_28, x242_29, x242_32, x242_35, x242_36, x242_37, x242_38, x242_40, x242_42, x242_45, x242_46, x242_48, x242_49, x242_51, x242_53, x242_54, x242_57, x242_58, x242_59, x242_62, x242_64, x242_65, x242_68, x242_69, x242_70, x242_71, x242_73, x242_74, x242_75, x242_78, x242_79, x242_80, x242_81, x242_84, x242_87, x242_88, x242_90, x242_91, x242_92, x242_95, x242_96, x242_97, x242_98, x242_100, x242_103, x242_106, x242_108, x242_109, x242_112, x242_113, x242_115, x242_118, x242_119, x242_122, x242_123, x242_124, x242_125, x242_128, x242_129, x242_131, x242_134, x242_135, x242_136, x242_138, x242_141, x242_143, x242_145, x242_146, x242_147, x242_148, x242_151, x242_152, x242_155, x242_156, x242_158, x242_159, x242_161, gM_stepMany, WM_stepMany]
    · simp (disch := first | omega | exact notL_I | exact notL_N | exact notL_R | exact oM | exact catS_le (Nat.le_of_ble_eq_true rfl) | exact Nat.le_of_ble_eq_true rfl | rfl) only [x242_35, x242_36, x242_37, x242_38]
      rfl
end Mb
