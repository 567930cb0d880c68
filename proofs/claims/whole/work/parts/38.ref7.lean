/-! the first hit that is not fulfilled; counts of hits (reference) -/
theorem bestI_fr {m : Int} {τ τ' : St} {b : Option (List Rw)} (h : bestI m τ b) (e3 : ∀ j, j ≠ 30 → τ' 373 j = τ 373 j) (e9 : τ' 391 = τ 391) : bestI m τ' b := by
  cases b with
  | none =>
    show τ' 373 32 = 0
    rw [e3 32 (by omega)]
    exact h
  | some q =>
    obtain ⟨a1, a2, a3, a4, a5⟩ := h
    refine ⟨?_, ?_, a3, a4, ?_⟩
    · rw [e3 32 (by omega)]; exact a1
    · rw [e3 31 (by omega)]; exact a2
    · rw [e9]; exact a5
section R7
variable {sc : Scr}
theorem s_firsts {h r m : Int} {pre : List Rw} {b : Option (List Rw)} (h1 : 0 ≤ h) (h2 : h ≤ 4) (r1 : 0 ≤ r) (r2 : r ≤ 9) {d : Nat} {σ0 τ : St} (W0 : WfM σ0) (D : Dt σ0 τ) (hg : gdB (τ 389)) (hc : atC σ0 h r 1 (σ0 376 (30 * (10 * h + r) + 2))) (hm : σ0 376 (30 * (10 * h + r)) = m) (hl : (pre.length : Int) = m) (hp : hR τ pre) (hn : ∀ w ∈ pre, 0 ≤ w.1 ∧ w.1 ≤ 199) (hb : bestI m τ b) (hd : 8 ≤ d) :
    ∃ τ', bestI m τ' (openF (ruR σ0 h r) (rsR σ0 h) b (pre, cB (τ 389))) ∧ Fh m τ τ' ∧ Fi τ τ' ∧ RnA sc d 229 0 [some (vR 373), some (vI h), some (vI r), none, none, none] τ none τ' := by
  have wr := W0.rul h1 h2 r1 r2
  have e0 : τ 376 (30 * (10 * h + r)) = m := by rw [D.1 376 (by omega) (by omega)]; exact hm
  have tp := topL_in hn
  have tt : ∀ u Q, Ex sc (d - 1) 230 0 [some (vR 373), some (vI m), none, none] [] (wH τ u) Q ↔ Q (.inl (some (vI (topL pre)))) (wH τ u) := fun u Q => s_top (by omega) hl hp hn
  obtain ⟨τ1, F1, run1⟩ := s_isFul (sc := sc) (d := d - 1) (h := h) (r := r) h1 h2 r1 r2 (D.wf W0) hg (atC_dt D (by rw [D.1 376 (by omega) (by omega)]; exact hc)) (by omega)
  rw [D.ru, D.rsr] at run1
  have f3 : ∀ j, τ1 373 j = τ 373 j := fun j => by rw [F1.1 373 (by omega) (by omega)]
  have go : fulfL (ruR σ0 h r) (rsR σ0 h) (cB (τ 389)) = false → ∃ τ', bestI m τ' (some pre) ∧ Fh m τ τ' ∧ Fi τ τ' ∧ ∀ u Q, Ex sc d 229 41 [some (vR 373), some (vI h), some (vI r), some (vI m), some (vI (topL pre)), none] [] (wH τ1 u) Q ↔ Q (.inl none) (wH τ' u) := by
    intro hf
    refine ⟨scp (su (su τ1 373 32 1) 373 31 (topL pre)) 390 0 391 0 m, ⟨?_, ?_, hl, hn, ?_⟩, ?_, ?_, ?_⟩
    · rw [scp_ne (by omega), su_off (by omega), su_eq]
    · rw [scp_ne (by omega), su_eq]
    · intro j w hj
      have hj1 := (List.getElem?_eq_some_iff.mp hj).1
      rw [scp_at, if_pos (by omega), su_ne (by omega), su_ne (by omega), F1.1 390 (by omega) (by omega), ← hp j w hj]
      congr 1
    · refine (F1.fh (i := m) (by omega)).trans ⟨⟨fun c a b => ?_, ?_⟩, ?_, fun j hj => ?_, fun j hj => ?_⟩
      · rw [scp_ne (by omega), su_ne (by omega), su_ne (by omega)]
      · rw [scp_ne (by omega), su_off (by omega), su_off (by omega)]
      · rw [scp_ne (by omega), su_ne (by omega), su_ne (by omega)]
      · rw [scp_ne (by omega), su_ne (by omega), su_ne (by omega)]
      · rw [scp_ne (by omega), su_ne (by omega), su_ne (by omega)]
    · refine F1.fi.trans ⟨fun c a b e f g => ?_, fun j a b e => ?_⟩
      · rw [scp_ne f, su_ne a, su_ne a]
      · rw [scp_ne (by omega), su_off b, su_off e]
    · intro u Q
      have lb := l_best (sc := sc) (u := u) (Q := Q) (d := d) (σ := su (su τ1 373 32 1) 373 31 (topL pre)) (m := m) (t := topL pre) (by omega) none (some (vI h)) (some (vI r)) m.toNat 0 (by omega) (by omega)
      rw [scp_0] at lb
      refine Iff.trans ?_ lb
      simp (disch := first | omega | exact notL_I | exact notL_N | exact notL_R | exact oM | exact catS_le (Nat.le_of_ble_eq_true rfl) | rfl) only [x229_41, x229_42, x229_43, x229_46, x229_47, x229_49, x229_52, x229_53, pM_some, pM_bestTop]
  cases b with
  | none =>
    have hb0 : τ 373 32 = 0 := hb
    cases hf : fulfL (ruR σ0 h r) (rsR σ0 h) (cB (τ 389)) with
    | true =>
      rw [hf, bI_t] at run1
      refine ⟨τ1, ?_, F1.fh (by omega), F1.fi, fun u Q => ?_⟩
      · unfold openF
        rw [if_pos hf]
        show τ1 373 32 = 0
        rw [f3]
        exact hb0
      · simp (disch := first | omega | exact notL_I | exact notL_N | exact notL_R | exact oM | exact catS_le (Nat.le_of_ble_eq_true rfl) | rfl) only [x229_0, x229_1, x229_2, x229_3, x229_4, x229_7, x229_8, x229_9, x229_10, x229_13, x229_15, x229_16, x229_19, x229_22, x229_24, x229_25, x229_28, x229_31, x229_32, x229_33, x229_34, x229_37, x229_40, x229_42, x229_43, x229_46, x229_47, x229_49, x229_52, x229_53, x229_57, x229_58, x229_61, x229_62, x229_65, x229_67, x229_68, x229_71, x229_73, x229_74, x229_75, x229_78, x229_81, s_rule, Int.add_zero, e0, tt u, Kc_some, gM_some, hb0, run1 u, if_pos, if_neg, ↓reduceIte, not_true_eq_false, not_false_eq_true]
    | false =>
      rw [hf, bI_f] at run1
      obtain ⟨τ', g1, g2, g3, g4⟩ := go hf
      refine ⟨τ', ?_, g2, g3, fun u Q => ?_⟩
      · unfold openF
        rw [if_neg (by rw [hf]; decide)]
        exact g1
      · refine Iff.trans ?_ (g4 u Q)
        simp (disch := first | omega | exact notL_I | exact notL_N | exact notL_R | exact oM | exact catS_le (Nat.le_of_ble_eq_true rfl) | rfl) only [x229_0, x229_1, x229_2, x229_3, x229_4, x229_7, x229_8, x229_9, x229_10, x229_13, x229_15, x229_16, x229_19, x229_22, x229_24, x229_25, x229_28, x229_31, x229_32, x229_33, x229_34, x229_37, x229_40, x229_42, x229_43, x229_46, x229_47, x229_49, x229_52, x229_53, x229_57, x229_58, x229_61, x229_62, x229_65, x229_67, x229_68, x229_71, x229_73, x229_74, x229_75, x229_78, x229_81, s_rule, Int.add_zero, e0, tt u, Kc_some, gM_some, hb0, run1 u, if_pos, if_neg, ↓reduceIte, not_true_eq_false, not_false_eq_true]
  | some q =>
    obtain ⟨b1, b2, b3, b4, b5⟩ := hb
    have tq := topL_in b4
    by_cases hq : topL q ≤ topL pre
    · refine ⟨τ, ?_, Fh.refl, Fi.refl, fun u Q => ?_⟩
      · have eo : openF (ruR σ0 h r) (rsR σ0 h) (some q) (pre, cB (τ 389)) = some q := by
          unfold openF
          split
          · rfl
          · dsimp only
            rw [if_pos hq]
        rw [eo]
        exact ⟨b1, b2, b3, b4, b5⟩
      · simp (disch := first | omega | exact notL_I | exact notL_N | exact notL_R | exact oM | exact catS_le (Nat.le_of_ble_eq_true rfl) | rfl) only [x229_0, x229_1, x229_2, x229_3, x229_4, x229_7, x229_8, x229_9, x229_10, x229_13, x229_15, x229_16, x229_19, x229_22, x229_24, x229_25, x229_28, x229_31, x229_32, x229_33, x229_34, x229_37, x229_40, x229_42, x229_43, x229_46, x229_47, x229_49, x229_52, x229_53, x229_57, x229_58, x229_61, x229_62, x229_65, x229_67, x229_68, x229_71, x229_73, x229_74, x229_75, x229_78, x229_81, s_rule, Int.add_zero, e0, tt u, Kc_some, gM_some, gM_bestTop, b1, b2, if_pos, if_neg, ↓reduceIte, not_true_eq_false, not_false_eq_true]
    · cases hf : fulfL (ruR σ0 h r) (rsR σ0 h) (cB (τ 389)) with
      | true =>
        rw [hf, bI_t] at run1
        refine ⟨τ1, ?_, F1.fh (by omega), F1.fi, fun u Q => ?_⟩
        · unfold openF
          rw [if_pos hf]
          exact bestI_fr (τ := τ) ⟨b1, b2, b3, b4, b5⟩ (fun j _ => f3 j) (F1.1 391 (by omega) (by omega))
        · simp (disch := first | omega | exact notL_I | exact notL_N | exact notL_R | exact oM | exact catS_le (Nat.le_of_ble_eq_true rfl) | rfl) only [x229_0, x229_1, x229_2, x229_3, x229_4, x229_7, x229_8, x229_9, x229_10, x229_13, x229_15, x229_16, x229_19, x229_22, x229_24, x229_25, x229_28, x229_31, x229_32, x229_33, x229_34, x229_37, x229_40, x229_42, x229_43, x229_46, x229_47, x229_49, x229_52, x229_53, x229_57, x229_58, x229_61, x229_62, x229_65, x229_67, x229_68, x229_71, x229_73, x229_74, x229_75, x229_78, x229_81, s_rule, Int.add_zero, e0, tt u, Kc_some, gM_some, gM_bestTop, b1, b2, run1 u, if_pos, if_neg, ↓reduceIte, not_true_eq_false, not_false_eq_true]
      | false =>
        rw [hf, bI_f] at run1
        obtain ⟨τ', g1, g2, g3, g4⟩ := go hf
        refine ⟨τ', ?_, g2, g3, fun u Q => ?_⟩
        · unfold openF
          rw [if_neg (by rw [hf]; decide)]
          dsimp only
          rw [if_neg hq]
          exact g1
        · refine Iff.trans ?_ (g4 u Q)
          simp (disch := first | omega | exact notL_I | exact notL_N | exact notL_R | exact oM | exact catS_le (Nat.le_of_ble_eq_true rfl) | rfl) only [x229_0, x229_1, x229_2, x229_3, x229_4, x229_7, x229_8, x229_9, x229_10, x229_13, x229_15, x229_16, x229_19, x229_22, x229_24, x229_25, x229_28, x229_31, x229_32, x229_33, x229_34, x229_37, x229_40, x229_42, x229_43, x229_46, x229_47, x229_49, x229_52, x229_53, x229_57, x229_58, x229_61, x229_62, x229_65, x229_67, x229_68, x229_71, x229_73, x229_74, x229_75, x229_78, x229_81, s_rule, Int.add_zero, e0, tt u, Kc_some, gM_some, gM_bestTop, b1, b2, run1 u, if_pos, if_neg, ↓reduceIte, not_true_eq_false, not_false_eq_true]
theorem map_nil9 {H : Hits} : H.map (fun q => (([] : List Rw) ++ q.1, q.2)) = H := by
  rw [show (fun q : List Rw × Bd => (([] : List Rw) ++ q.1, q.2)) = id from rfl, List.map_id]
theorem Fi.inc {τ : St} {x : Int} : Fi τ (su τ 373 30 x) := ⟨fun c a _ _ _ _ => su_ne a, fun j a _ _ => su_off a⟩
theorem Fh.inc {τ : St} {i x : Int} : Fh i τ (su τ 373 30 x) := ⟨Dt.dsu3 (by omega), by rw [su_ne (by omega)], fun j _ => by rw [su_ne (by omega)], fun j _ => by rw [su_ne (by omega)]⟩
theorem s_finds {h r : Int} (h1 : 0 ≤ h) (h2 : h ≤ 4) (r1 : 0 ≤ r) (r2 : r ≤ 9) {d : Nat} {σ : St} (W : WfM σ) (hc0 : atC σ h r 0 (σ 376 (30 * (10 * h + r)))) (hc1 : atC σ h r 1 (σ 376 (30 * (10 * h + r) + 2))) (hd : 14 ≤ d) :
    ∃ τ, Fi σ τ ∧ bestI (σ 376 (30 * (10 * h + r))) τ (openL (ruR σ h r) (rsR σ h)) ∧ RnA sc d 226 0 [some (vR 373), some (vI h), some (vI r)] σ (some (vI (bI (openL (ruR σ h r) (rsR σ h)).isSome))) τ := by
  have wr := W.rul h1 h2 r1 r2
  have F1 : Fi σ (fl (su (su σ 373 32 0) 373 30 0) 389 0 26 (-1)) := by
    refine ⟨fun c a b e f g => by rw [fl_ne b, su_ne a, su_ne a], fun j a b e => by rw [fl_ne (by omega), su_off a, su_off e]⟩
  obtain ⟨τ, ⟨t1, t2⟩, t3, t4⟩ := s_hits (sc := sc) (mode := 1) h1 h2 r1 r2 W hc0 (I := fun D τ => Fi σ τ ∧ bestI (σ 376 (30 * (10 * h + r))) τ (D.foldl (openF (ruR σ h r) (rsR σ h)) none)) (fun D τ τ' hI hs => ⟨hI.1.trans (Fi.sc hs), bestI_fr hI.2 (fun j _ => by rw [hs 373 (by omega) (by omega) (by omega)]) (hs 391 (by omega) (by omega) (by omega))⟩) (dl := 10)
    (by
      intro d τ D pre hd hI hD hg hp hm hl
      have e0 : τ 376 (30 * (10 * h + r)) = σ 376 (30 * (10 * h + r)) := by rw [hD.1 376 (by omega) (by omega)]
      obtain ⟨τ', g1, g2, g3, g4⟩ := s_firsts (sc := sc) (d := d - 1) (h := h) (r := r) (m := σ 376 (30 * (10 * h + r))) (pre := pre) (τ := su τ 373 30 (τ 373 30 + 1)) h1 h2 r1 r2 W (hD.trans (Dt.dsu3 (by omega))) (by rw [su_ne (by omega)]; exact hg) hc1 rfl hl (by unfold hR; rw [su_ne (by omega)]; exact hp) (fun w hw => rsR_num W h1 h2 (hm w hw)) (bestI_fr hI.2 (fun j hj => su_off hj) (su_ne (by omega))) (by omega)
      rw [su_ne (by omega)] at g1
      refine ⟨τ', ⟨(hI.1.trans Fi.inc).trans g3, ?_⟩, Fh.inc.trans g2, fun u Q => ?_⟩
      · rw [List.foldl_append]
        exact g1
      · simp (disch := first | omega | exact notL_I | exact notL_N | exact notL_R | exact oM | exact catS_le (Nat.le_of_ble_eq_true rfl) | rfl) only [x228_0, x228_1, x228_2, x228_3, x228_4, x228_5, x228_8, x228_11, x228_12I, x228_12, x228_13, x228_16, x228_17, x228_18, x228_21, x228_23, x228_24, x228_27, x228_28, x228_29, x228_30, x228_33, x228_35, x228_36, x228_39, x228_40, x228_43, x228_44, x228_45, x228_49, x228_50, x228_53, x228_54, x228_55, x228_58, x228_59, x228_60, x228_63, x228_64, x228_65, x228_66, x228_67, x228_68, x228_70, x228_73, x228_76, x228_77, x228_80, x228_81, x228_83, x228_84, x228_85, x228_86, x228_87, x228_88, x228_89, x228_90, x228_92, x228_95, x228_96, x228_97, x228_100, x228_103, x228_106, s_rule, Int.add_zero, e0, Kc_some, Kc_none, gM_hitMany, pM_hitMany, g4 u, if_pos, if_neg, ↓reduceIte, not_true_eq_false, not_false_eq_true])
    (σ 376 (30 * (10 * h + r))).toNat (d - 1) 0 (fl (su (su σ 373 32 0) 373 30 0) 389 0 26 (-1)) [] []
    ⟨F1, (by show (fl (su (su σ 373 32 0) 373 30 0) 389 0 26 (-1)) 373 32 = 0; rw [fl_ne (by omega), su_off (by omega), su_eq])⟩ F1.dt gdB_fl (fun j w hj => by simp at hj) (fun w hw => by cases hw) rfl (by omega) (by omega) (by omega)
  rw [cB_fl, map_nil9, List.nil_append] at t2
  have t2' : bestI (σ 376 (30 * (10 * h + r))) τ (openL (ruR σ h r) (rsR σ h)) := t2
  refine ⟨τ, t1, t2', fun u Q => ?_⟩
  have hs : τ 373 32 = bI (openL (ruR σ h r) (rsR σ h)).isSome := by
    cases ho : openL (ruR σ h r) (rsR σ h) with
    | none => rw [ho] at t2'; exact t2'
    | some q => rw [ho] at t2'; exact t2'.1
  rw [← hs]
  have hs01 : τ 373 32 = 0 ∨ τ 373 32 = 1 := by
    rw [hs]
    cases (openL (ruR σ h r) (rsR σ h)).isSome
    · exact Or.inl rfl
    · exact Or.inr rfl
  simp (disch := first | omega | exact notL_I | exact notL_N | exact notL_R | exact oM | exact catS_le (Nat.le_of_ble_eq_true rfl) | rfl) only [x226_0, x226_1, x226_2, x226_5, x226_6, x226_7, x226_10, x226_11, x226_14, x226_15, x226_16, x226_17, x226_18, x226_19, x226_22, x226_23, x226_26, pM_some, pM_hitMany, gM_some, s_forget, Kc_none, t4 u]
theorem s_count {h r : Int} (h1 : 0 ≤ h) (h2 : h ≤ 4) (r1 : 0 ≤ r) (r2 : r ≤ 9) {d : Nat} {σ : St} (W : WfM σ) (hc0 : atC σ h r 0 (σ 376 (30 * (10 * h + r)))) (hb : cB (σ 389) = bd0) (hg : gdB (σ 389)) (h0 : σ 373 30 = 0) (hd : 6 ≤ d) :
    ∃ τ, Fi σ τ ∧ τ 373 30 = ((hitsL (rsR σ h) (ruR σ h r).2.1 bd0).length : Int) ∧ RnA sc d 228 0 [some (vR 373), some (vI h), some (vI r), some (vI 0), some (vI 0), none] σ none τ := by
  have wr := W.rul h1 h2 r1 r2
  obtain ⟨τ, ⟨t1, t2⟩, t3, t4⟩ := s_hits (sc := sc) (mode := 0) h1 h2 r1 r2 W hc0 (I := fun D τ => Fi σ τ ∧ τ 373 30 = (D.length : Int)) (fun D τ τ' hI hs => ⟨hI.1.trans (Fi.sc hs), by rw [hs 373 (by omega) (by omega) (by omega)]; exact hI.2⟩) (dl := 1)
    (by
      intro d τ D pre hd hI hD hg hp hm hl
      have e0 : τ 376 (30 * (10 * h + r)) = σ 376 (30 * (10 * h + r)) := by rw [hD.1 376 (by omega) (by omega)]
      refine ⟨su τ 373 30 (τ 373 30 + 1), ⟨hI.1.trans Fi.inc, ?_⟩, Fh.inc, fun u Q => ?_⟩
      · rw [su_eq, hI.2, List.length_append, List.length_singleton]
        omega
      · simp (disch := first | omega | exact notL_I | exact notL_N | exact notL_R | exact oM | exact catS_le (Nat.le_of_ble_eq_true rfl) | rfl) only [x228_0, x228_1, x228_2, x228_3, x228_4, x228_5, x228_8, x228_11, x228_12I, x228_12, x228_13, x228_16, x228_17, x228_18, x228_21, x228_23, x228_24, x228_27, x228_28, x228_29, x228_30, x228_33, x228_35, x228_36, x228_39, x228_40, x228_43, x228_44, x228_45, x228_49, x228_50, x228_53, x228_54, x228_55, x228_58, x228_59, x228_60, x228_63, x228_64, x228_65, x228_66, x228_67, x228_68, x228_70, x228_73, x228_76, x228_77, x228_80, x228_81, x228_83, x228_84, x228_85, x228_86, x228_87, x228_88, x228_89, x228_90, x228_92, x228_95, x228_96, x228_97, x228_100, x228_103, x228_106, s_rule, Int.add_zero, e0, Kc_some, Kc_none, gM_hitMany, pM_hitMany, if_pos, if_neg, ↓reduceIte, not_true_eq_false, not_false_eq_true])
    (σ 376 (30 * (10 * h + r))).toNat d 0 σ [] []
    ⟨Fi.refl, h0⟩ Fi.refl.dt hg (fun j w hj => by simp at hj) (fun w hw => by cases hw) rfl (by omega) (by omega) (by omega)
  rw [hb, map_nil9, List.nil_append] at t2
  exact ⟨τ, t1, t2, t4⟩
end R7
