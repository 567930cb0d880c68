/-! runs of the reference: the whole run -/
theorem rlF_len {σ : St} {h : Int} : ∀ (k : Nat) (i : Int), (rlF σ h k i).length = k := by
  intro k
  induction k with
  | zero => intro i; rfl
  | succ k ih => intro i; rw [rlF, List.length_cons, ih]
theorem rlF_get {σ : St} {h : Int} : ∀ (k : Nat) (i : Int) (j : Nat), j < k → (rlF σ h k i)[j]? = some (ruR σ h (i + j)) := by
  intro k
  induction k with
  | zero => intro i j hj; omega
  | succ k ih =>
    intro i j hj
    rw [rlF]
    cases j with
    | zero => rw [List.getElem?_cons_zero, Int.natCast_zero, Int.add_zero]
    | succ j =>
      rw [List.getElem?_cons_succ, ih (i + 1) j (by omega)]
      congr 2
      omega
theorem rlR_len {σ : St} {h : Int} (h0 : 0 ≤ σ 375 h) : ((rlR σ h).length : Int) = σ 375 h := by
  unfold rlR
  rw [rlF_len]
  omega
theorem rlR_get {σ : St} {h : Int} {j : Nat} (hj : (j : Int) < σ 375 h) : (rlR σ h)[j]? = some (ruR σ h j) := by
  unfold rlR
  rw [rlF_get _ _ _ (by omega), Int.zero_add]
theorem Fi.rim {σ τ : St} {h : Int} (F : Fi σ τ) (H : RIm h σ) : RIm h τ := by
  obtain ⟨W, hf, hok, hr⟩ := H
  have D := F.dt
  have ec : coR τ h = coR σ h := by unfold coR; rw [D.1 374 (by omega) (by omega)]
  refine ⟨D.wf W, by rw [F.1 393 (by omega) (by omega) (by omega) (by omega) (by omega)]; exact hf, by rw [ec, D.rn]; exact hok, fun r r0 r1 => ?_⟩
  rw [D.1 375 (by omega) (by omega)] at r1
  rw [ec, D.ru]
  exact hr r r0 r1
theorem Fi.rs {σ τ : St} (F : Fi σ τ) : RsR σ τ := RsR.of (fun c a b => F.1 c a (by omega) (by omega) (by omega) (by omega)) (fun j hj => F.2 j (by omega) (by omega) (by omega))
theorem flwF_app {A B : List (List Int)} {x : Int} : flwF (A ++ B) x = flwF B (flwF A x) := by
  unfold flwF
  rw [List.foldl_append]
section Ma
variable {sc : Scr} {h : Int}
theorem l_pick {d turn : Nat} {most : Int} (hd : 15 ≤ d) (h1 : 0 ≤ h) (h2 : h ≤ 4) : ∀ (m k : Nat) (σ : St), RIm h σ → (k : Int) + m = σ 375 h → (turn : Int) ≤ σ 375 h →
    ∃ τ, Fi σ τ ∧ ((pickF (rlR σ h) (rsR σ h) turn m k = none ∧ ∀ (u : Bool × Nat × Nat × Int) (Q : Rs → HS → Prop), Ex sc d 242 51 [some (vR 373), some (vI h), some (vI most), some (vI ((turn : Int))), some (vI 0), some (vI (-1)), some (vI ((k : Int)))] [] (wH σ u) Q ↔ Ex sc d 242 106 [some (vR 373), some (vI h), some (vI most), some (vI ((turn : Int))), some (vI 0), some (vI (-1)), some (vI (σ 375 h))] [] (wH τ u) Q) ∨ (∃ i r q k', pickF (rlR σ h) (rsR σ h) turn m k = some (i, r, q) ∧ (∀ (j : Nat) (w : Rw), q[j]? = some w → τ 391 j = w.1) ∧ ∀ (u : Bool × Nat × Nat × Int) (Q : Rs → HS → Prop), Ex sc d 242 51 [some (vR 373), some (vI h), some (vI most), some (vI ((turn : Int))), some (vI 0), some (vI (-1)), some (vI ((k : Int)))] [] (wH σ u) Q ↔ Ex sc d 242 106 [some (vR 373), some (vI h), some (vI most), some (vI ((turn : Int))), some (vI 0), some (vI ((i : Int))), some (vI k')] [] (wH τ u) Q)) := by
  intro m
  induction m with
  | zero =>
    intro k σ H hk ht
    have wm := H.1.rm h1 h2
    refine ⟨σ, Fi.refl, Or.inl ⟨rfl, fun u Q => ?_⟩⟩
    have ek : (k : Int) = σ 375 h := by omega
    rw [x242_51, ek]
    simp (disch := first | omega | exact notL_I | exact notL_N | exact notL_R | exact oM | exact catS_le (Nat.le_of_ble_eq_true rfl) | exact Nat.le_of_ble_eq_true rfl | rfl) only [x242_0, x242_1, x242_4, x242_5, x242_6, x242_7, x242_8, x242_9, x242_10, x242_13, x242_16, x242_17, x242_20, x242_23, x242_24, x242_25, x242_26, x242_27, x242_28, x242_29, x242_32, x242_35, x242_36, x242_37, x242_38, x242_40, x242_42, x242_45, x242_46, x242_48, x242_49, x242_53, x242_54, x242_57, x242_58, x242_59, x242_62, x242_64, x242_65, x242_68, x242_69, x242_70, x242_71, x242_73, x242_74, x242_75, x242_78, x242_79, x242_80, x242_81, x242_84, x242_87, x242_88, x242_90, x242_91, x242_92, x242_95, x242_96, x242_97, x242_98, x242_100, x242_103, x242_108, x242_109, x242_112, x242_113, x242_115, x242_118, x242_119, x242_122, x242_123, x242_124, x242_125, x242_128, x242_129, x242_131, x242_134, x242_135, x242_136, x242_138, x242_141, x242_143, x242_145, x242_146, x242_147, x242_148, x242_151, x242_152, x242_155, x242_156, x242_158, x242_159, x242_161, gM_ruleMany, RM_ruleMany, if_pos, if_neg, ↓reduceIte, not_true_eq_false, not_false_eq_true]
  | succ m ih =>
    intro k σ H hk ht
    have wm := H.1.rm h1 h2
    have lr := rlR_len (σ := σ) (h := h) wm.1
    have hjl : ((turn + k) % (rlR σ h).length : Nat) < (rlR σ h).length := Nat.mod_lt _ (by omega)
    have hjm : ((turn : Int) + k) % σ 375 h = (((turn + k) % (rlR σ h).length : Nat) : Int) := by
      rw [← lr]
      push_cast
      first | done | rfl
    generalize hmod2 : (turn + k) % (rlR σ h).length = j at hjl hjm
    have hjc : (j : Int) < σ 375 h := by omega
    obtain ⟨c0, c1⟩ := H.at_ h1 h2 (r := j) (by omega) hjc
    obtain ⟨τ1, F1, B1, r1⟩ := s_finds (sc := sc) (d := d - 1) (h := h) (r := j) h1 h2 (by omega) (by omega) H.1 c0 c1 (by omega)
    have D1 := F1.dt
    have e75 : τ1 375 h = σ 375 h := by rw [D1.1 375 (by omega) (by omega)]
    have erl : rlR τ1 h = rlR σ h := by
      have : ∀ (k : Nat) (r : Int), rlF τ1 h k r = rlF σ h k r := by
        intro k
        induction k with
        | zero => intro r; rfl
        | succ k ih => intro r; rw [rlF, rlF, D1.ru, ih]
      unfold rlR
      rw [e75, this]
    rw [pickF, hmod2, rlR_get hjc]
    dsimp only
    cases ho : openL (ruR σ h j) (rsR σ h) with
    | none =>
      rw [ho] at r1
      have hb0 : bI (none : Option (List Rw)).isSome = 0 := rfl
      obtain ⟨τ, G1, G2⟩ := ih (k + 1) τ1 (F1.rim H) (by rw [e75]; omega) (by rw [e75]; exact ht)
      rw [erl, D1.rsr, e75] at G2
      have step : ∀ (u : Bool × Nat × Nat × Int) (Q : Rs → HS → Prop), Ex sc d 242 51 [some (vR 373), some (vI h), some (vI most), some (vI ((turn : Int))), some (vI 0), some (vI (-1)), some (vI ((k : Int)))] [] (wH σ u) Q ↔ Ex sc d 242 51 [some (vR 373), some (vI h), some (vI most), some (vI ((turn : Int))), some (vI 0), some (vI (-1)), some (vI (((k + 1 : Nat) : Int)))] [] (wH τ1 u) Q := by
        intro u Q
        have ek : (k : Int) + 1 = ((k + 1 : Nat) : Int) := by omega
        rw [x242_51]
        simp (disch := first | omega | exact notL_I | exact notL_N | exact notL_R | exact oM | exact catS_le (Nat.le_of_ble_eq_true rfl) | exact Nat.le_of_ble_eq_true rfl | rfl) only [x242_0, x242_1, x242_4, x242_5, x242_6, x242_7, x242_8, x242_9, x242_10, x242_13, x242_16, x242_17, x242_20, x242_23, x242_24, x242_25, x242_26, x242_27, x242_28, x242_29, x242_32, x242_35, x242_36, x242_37, x242_38, x242_40, x242_42, x242_45, x242_46, x242_48, x242_49, x242_53, x242_54, x242_57, x242_58, x242_59, x242_62, x242_64, x242_65, x242_68, x242_69, x242_70, x242_71, x242_73, x242_74, x242_75, x242_78, x242_79, x242_80, x242_81, x242_84, x242_87, x242_88, x242_90, x242_91, x242_92, x242_95, x242_96, x242_97, x242_98, x242_100, x242_103, x242_108, x242_109, x242_112, x242_113, x242_115, x242_118, x242_119, x242_122, x242_123, x242_124, x242_125, x242_128, x242_129, x242_131, x242_134, x242_135, x242_136, x242_138, x242_141, x242_143, x242_145, x242_146, x242_147, x242_148, x242_151, x242_152, x242_155, x242_156, x242_158, x242_159, x242_161, gM_ruleMany, RM_ruleMany, hjm, r1 u, hb0, ek, Kc_some, if_pos, if_neg, ↓reduceIte, not_true_eq_false, not_false_eq_true]
      refine ⟨τ, F1.trans G1, ?_⟩
      rcases G2 with ⟨g1, g2⟩ | ⟨i, r, q, k', g1, g2, g3⟩
      · exact Or.inl ⟨g1, fun u Q => (step u Q).trans (g2 u Q)⟩
      · exact Or.inr ⟨i, r, q, k', g1, g2, fun u Q => (step u Q).trans (g3 u Q)⟩
    | some q =>
      rw [ho] at r1 B1
      have hb1 : bI (some q : Option (List Rw)).isSome = 1 := rfl
      refine ⟨τ1, F1, Or.inr ⟨j, _, q, (k : Int) + 1, rfl, B1.2.2.2.2, fun u Q => ?_⟩⟩
      rw [x242_51]
      simp (disch := first | omega | exact notL_I | exact notL_N | exact notL_R | exact oM | exact catS_le (Nat.le_of_ble_eq_true rfl) | exact Nat.le_of_ble_eq_true rfl | rfl) only [x242_0, x242_1, x242_4, x242_5, x242_6, x242_7, x242_8, x242_9, x242_10, x242_13, x242_16, x242_17, x242_20, x242_23, x242_24, x242_25, x242_26, x242_27, x242_28, x242_29, x242_32, x242_35, x242_36, x242_37, x242_38, x242_40, x242_42, x242_45, x242_46, x242_48, x242_49, x242_53, x242_54, x242_57, x242_58, x242_59, x242_62, x242_64, x242_65, x242_68, x242_69, x242_70, x242_71, x242_73, x242_74, x242_75, x242_78, x242_79, x242_80, x242_81, x242_84, x242_87, x242_88, x242_90, x242_91, x242_92, x242_95, x242_96, x242_97, x242_98, x242_100, x242_103, x242_108, x242_109, x242_112, x242_113, x242_115, x242_118, x242_119, x242_122, x242_123, x242_124, x242_125, x242_128, x242_129, x242_131, x242_134, x242_135, x242_136, x242_138, x242_141, x242_143, x242_145, x242_146, x242_147, x242_148, x242_151, x242_152, x242_155, x242_156, x242_158, x242_159, x242_161, gM_ruleMany, RM_ruleMany, hjm, r1 u, hb1, e75, Kc_some, if_pos, if_neg, ↓reduceIte, not_true_eq_false, not_false_eq_true]
      rw [x242_51]
      by_cases hl : (k : Int) + 1 < σ 375 h
      · simp (disch := first | omega | exact notL_I | exact notL_N | exact notL_R | exact oM | exact catS_le (Nat.le_of_ble_eq_true rfl) | exact Nat.le_of_ble_eq_true rfl | rfl) only [x242_0, x242_1, x242_4, x242_5, x242_6, x242_7, x242_8, x242_9, x242_10, x242_13, x242_16, x242_17, x242_20, x242_23, x242_24, x242_25, x242_26, x242_27, x242_28, x242_29, x242_32, x242_35, x242_36, x242_37, x242_38, x242_40, x242_42, x242_45, x242_46, x242_48, x242_49, x242_53, x242_54, x242_57, x242_58, x242_59, x242_62, x242_64, x242_65, x242_68, x242_69, x242_70, x242_71, x242_73, x242_74, x242_75, x242_78, x242_79, x242_80, x242_81, x242_84, x242_87, x242_88, x242_90, x242_91, x242_92, x242_95, x242_96, x242_97, x242_98, x242_100, x242_103, x242_108, x242_109, x242_112, x242_113, x242_115, x242_118, x242_119, x242_122, x242_123, x242_124, x242_125, x242_128, x242_129, x242_131, x242_134, x242_135, x242_136, x242_138, x242_141, x242_143, x242_145, x242_146, x242_147, x242_148, x242_151, x242_152, x242_155, x242_156, x242_158, x242_159, x242_161, gM_ruleMany, RM_ruleMany, e75, if_pos, if_neg, ↓reduceIte, not_true_eq_false, not_false_eq_true]
      · simp (disch := first | omega | exact notL_I | exact notL_N | exact notL_R | exact oM | exact catS_le (Nat.le_of_ble_eq_true rfl) | exact Nat.le_of_ble_eq_true rfl | rfl) only [x242_0, x242_1, x242_4, x242_5, x242_6, x242_7, x242_8, x242_9, x242_10, x242_13, x242_16, x242_17, x242_20, x242_23, x242_24, x242_25, x242_26, x242_27, x242_28, x242_29, x242_32, x242_35, x242_36, x242_37, x242_38, x242_40, x242_42, x242_45, x242_46, x242_48, x242_49, x242_53, x242_54, x242_57, x242_58, x242_59, x242_62, x242_64, x242_65, x242_68, x242_69, x242_70, x242_71, x242_73, x242_74, x242_75, x242_78, x242_79, x242_80, x242_81, x242_84, x242_87, x242_88, x242_90, x242_91, x242_92, x242_95, x242_96, x242_97, x242_98, x242_100, x242_103, x242_108, x242_109, x242_112, x242_113, x242_115, x242_118, x242_119, x242_122, x242_123, x242_124, x242_125, x242_128, x242_129, x242_131, x242_134, x242_135, x242_136, x242_138, x242_141, x242_143, x242_145, x242_146, x242_147, x242_148, x242_151, x242_152, x242_155, x242_156, x242_158, x242_159, x242_161, gM_ruleMany, RM_ruleMany, e75, if_pos, if_neg, ↓reduceIte, not_true_eq_false, not_false_eq_true]
theorem Mf.st {σ : St} {x : Int} (W : WfM σ) (h1 : 0 ≤ h) (h2 : h ≤ 4) (x0 : 0 ≤ x) (x3 : x ≤ 3) : Mf h σ (su σ 382 h x) ∧ rnR (su σ 382 h x) h = rnR σ h := by
  have so : ∀ c, c ≠ 382 → su σ 382 h x c = σ c := fun c hc => su_ne hc
  refine ⟨⟨RsR.su_ (by omega), fun c a b => su_ne (by omega), fun g hg => ?_, ?_, by rw [su_ne (by omega)]⟩, ?_⟩
  · refine ⟨HQa.of (fun c a b => su_ne (by omega)), ⟨fun n _ _ => ⟨by rw [so 377 (by omega)], by rw [so 378 (by omega)]⟩, fun n _ _ => by rw [so 379 (by omega)], by rw [so 381 (by omega)], fun k _ _ => by rw [so 385 (by omega)]⟩, ⟨fun n _ _ => by rw [so 380 (by omega)], by rw [su_off hg], by rw [so 383 (by omega)], fun k _ _ => by rw [so 384 (by omega)]⟩⟩
  · refine WfM.mk W ?_ ?_ ?_ ?_ ?_ ?_ ?_ ?_ ?_ ?_ ?_ ?_ ?_
    · rw [so 374 (by omega)]; exact W.p4
    · rw [so 375 (by omega)]; exact W.p5
    · intro i i0 i1; exact okU_c (W.p6 i i0 i1) (fun k _ _ => by rw [so 376 (by omega)])
    · rw [so 377 (by omega)]; exact W.p7
    · rw [so 378 (by omega)]; exact W.p8
    · rw [so 379 (by omega)]; exact W.p9
    · rw [so 380 (by omega)]; exact W.p0
    · rw [so 381 (by omega)]; exact W.p1
    · intro i i0 i1; rw [su_at]; split; omega; exact W.p2 i i0 i1
    · rw [so 383 (by omega)]; exact W.p3
    · rw [so 385 (by omega)]; exact W.pa
    · exact so 386 (by omega)
    · rw [so 373 (by omega)]
  · have er : rsR (su σ 382 h x) h = rsR σ h := by
      unfold rsR
      rw [so 381 (by omega)]
      exact rsF_ext _ _ (fun i _ _ => ⟨by rw [so 377 (by omega)], by unfold rwR; rw [so 374 (by omega), so 378 (by omega), so 379 (by omega)]⟩)
    have en : naR (su σ 382 h x) h = naR σ h := by unfold naR; rw [so 385 (by omega)]
    have es : stR (su σ 382 h x) h = stR σ h := by
      have : ∀ (k : Nat) (i : Int), stF (su σ 382 h x) h k i = stF σ h k i := by
        intro k
        induction k with
        | zero => intro i; rfl
        | succ k ih => intro i; rw [stF, stF, ih, so 384 (by omega)]
      unfold stR
      rw [so 383 (by omega), this]
    have eb : byR (su σ 382 h x) h = byR σ h := by unfold byR; rw [so 381 (by omega), so 380 (by omega)]
    unfold rnR
    rw [er, en, es, eb, so 381 (by omega)]
end Ma
