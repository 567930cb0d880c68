/-! the reference reads: texts, questions, a rule told -/
def T0x : Tx := (fun _ => 0, [], [], 0, fun _ => 0)
theorem T0_ok : TxOk T0x := by
  refine ⟨fun t => ⟨Int.le_refl _, by show (0 : Int) ≤ 3; decide⟩, by decide, (fun q hq => by cases hq), Nat.zero_le _, ⟨(fun w hw => by cases hw), List.Pairwise.nil, (fun w hw => by cases hw), ⟨by show (0 : Int) ≤ 0; decide, by show (0 : Int) ≤ 200; decide⟩, Nat.zero_le _, fun k => Or.inl rfl, (fun w hw => by cases hw)⟩, rfl, fun t _ => rfl⟩
theorem emC_v {σ : St} (W : WfM σ) : WfM (emC σ 4) ∧ Fx σ (emC σ 4) ∧ hlR (emC σ 4) 4 = HxT T0x := by
  have ne : ∀ c, c ≠ 374 → c ≠ 375 → su (fl σ 374 (26 * 4) (26 * 4 + 26) 0) 375 4 0 c = σ c := fun c a b => by rw [su_ne b, fl_ne a]
  have e4 : ∀ j, su (fl σ 374 (26 * 4) (26 * 4 + 26) 0) 375 4 0 374 j = if 26 * 4 ≤ j ∧ j < 26 * 4 + 26 then 0 else σ 374 j := fun j => by rw [su_ne (by omega), fl_at]
  have e5 : ∀ j, su (fl σ 374 (26 * 4) (26 * 4 + 26) 0) 375 4 0 375 j = if j = 4 then 0 else σ 375 j := fun j => by rw [su_at, fl_ne (by omega)]
  have W1 : WfM (su (fl σ 374 (26 * 4) (26 * 4 + 26) 0) 375 4 0) := by
    refine W.mk ?_ ?_ ?_ ?_ ?_ ?_ ?_ ?_ ?_ ?_ ?_ ?_ ?_
    case refine_1 =>
      intro i i0 i1
      rw [e4]
      split
      · omega
      · exact W.p4 i i0 i1
    case refine_2 =>
      intro i i0 i1
      rw [e5]
      split
      · omega
      · exact W.p5 i i0 i1
    case refine_3 =>
      intro i i0 i1
      have := W.p6 i i0 i1
      unfold okU at this ⊢
      rw [ne 376 (by omega) (by omega)]
      exact this
    all_goals rw [ne _ (by omega) (by omega)]
    · exact W.p7
    · exact W.p8
    · exact W.p9
    · exact W.p0
    · exact W.p1
    · exact W.p2
    · exact W.p3
    · exact W.pa
  have F1 : Fx σ (su (fl σ 374 (26 * 4) (26 * 4 + 26) 0) 375 4 0) := ⟨RsR.of (fun c a b => ne c (by omega) (by omega)) (fun j _ => by rw [ne 373 (by omega) (by omega)]), fun g g0 g1 => ⟨⟨fun t a b => by rw [e4, if_neg (by omega)], by rw [e5, if_neg (by omega)], fun t a b => by rw [ne 376 (by omega) (by omega)]⟩, ⟨fun t a b => ⟨by rw [ne 377 (by omega) (by omega)], by rw [ne 378 (by omega) (by omega)]⟩, fun t a b => by rw [ne 379 (by omega) (by omega)], by rw [ne 381 (by omega) (by omega)], fun t a b => by rw [ne 385 (by omega) (by omega)]⟩, ⟨fun t a b => by rw [ne 380 (by omega) (by omega)], by rw [ne 382 (by omega) (by omega)], by rw [ne 383 (by omega) (by omega)], fun t a b => by rw [ne 384 (by omega) (by omega)]⟩⟩, ne 393 (by omega) (by omega), by rw [ne 373 (by omega) (by omega)]⟩
  have c1 : coR (su (fl σ 374 (26 * 4) (26 * 4 + 26) 0) 375 4 0) 4 = fun _ => 0 := by
    funext t
    unfold coR
    split
    · rename_i h
      rw [e4, if_pos (by omega)]
    · rfl
  have m1 : su (fl σ 374 (26 * 4) (26 * 4 + 26) 0) 375 4 0 375 4 = 0 := su_eq
  unfold emC
  generalize su (fl σ 374 (26 * 4) (26 * 4 + 26) 0) 375 4 0 = σ1 at *
  have a := emE_a (σ := σ1) (h := 4) (g := 4)
  refine ⟨emE_wf W1, F1.trans ⟨emE_rest, fun g g0 g1 => emE_q (by omega), emE_r.1 393 (by omega) (by omega) (by omega) (by omega) (by omega) (by omega), by rw [emE_r.1 373 (by omega) (by omega) (by omega) (by omega) (by omega) (by omega)]⟩, ?_⟩
  have v := emE_hl (σ := σ1) (h := 4)
  have b1 : coR (emE σ1 4) 4 = fun _ => 0 := a.co.trans c1
  have b2 : rlR (emE σ1 4) 4 = [] := by
    unfold rlR
    rw [a.2.1, m1]
    rfl
  have e : hlR (emE σ1 4) 4 = (coR (emE σ1 4) 4, rlR (emE σ1 4) 4, (hlR (emE σ1 4) 4).2.2) := rfl
  rw [e, b1, b2, v]
  rfl
section La
variable {sc : Scr} {d : Nat} {σ : St}
theorem s_beginR (hd : 4 ≤ d) (W : WfM σ) : ∃ τ, Fpa σ τ ∧ WfM τ ∧ PcI τ (nxT (σ 386) (σ 373 14) 0) ∧ RnA sc d 185 0 [some (vR 373)] σ none τ := by
  have wt := W.tpd
  have F : Fpa σ (su (su (su σ 373 18 0) 373 19 (-1)) 373 15 0) := ((Fpa.su3 (by omega)).trans (Fpa.su3 (by omega))).trans (Fpa.su3 (by omega))
  have e18 : su (su (su σ 373 18 0) 373 19 (-1)) 373 15 0 373 18 = 0 := by rw [su_off (by omega), su_off (by omega), su_eq]
  have e15 : su (su (su σ 373 18 0) 373 19 (-1)) 373 15 0 373 15 = 0 := su_eq
  have run : ∀ (u : Bool × Nat × Nat × Int) (Q : Rs → HS → Prop), Ex sc d 185 0 [some (vR 373)] [] (wH σ u) Q ↔ Ex sc d 185 15 [some (vR 373)] [] (wH (su (su (su σ 373 18 0) 373 19 (-1)) 373 15 0) u) Q := by
    intro u Q
    simp (disch := first | omega | exact notL_I | exact notL_N | exact notL_R | exact oM | exact catS_le (Nat.le_of_ble_eq_true rfl) | exact Nat.le_of_ble_eq_true rfl | rfl) only [x185_0, x185_1, x185_2, x185_5, x185_6, x185_7, x185_10, x185_11, x185_12, x185_16, x185_19, pM_wrong, pM_wrongAt, pM_at]
  generalize su (su (su σ 373 18 0) 373 19 (-1)) 373 15 0 = X at *
  have WX := F.dt.wf W
  obtain ⟨τ, z1, z2, z3⟩ := s_look0 (sc := sc) (d := d - 1) (σ := X) (by omega) WX (p := 0) (by omega) (by rw [F.tx.2]; omega) e15
  rw [F.tx.1, F.tx.2] at z2
  refine ⟨τ, F.trans z1.pa, z1.dt.wf WX, ⟨z2, by rw [z1.2 18 (by omega) (by omega) (by omega)]; exact e18, by rw [z1.2 14 (by omega) (by omega) (by omega), F.tx.2]; exact tk_nx (tapF W) (by omega) (by omega)⟩, fun u Q => ?_⟩
  rw [run u Q, x185_15]
  simp (disch := first | omega | exact notL_I | exact notL_N | exact notL_R | exact oM | exact catS_le (Nat.le_of_ble_eq_true rfl) | exact Nat.le_of_ble_eq_true rfl | rfl) only [x185_0, x185_1, x185_2, x185_5, x185_6, x185_7, x185_10, x185_11, x185_12, x185_16, x185_19, z3 u, Kc_none]
theorem tkP_0 (W : WfM σ) : tkP (σ 373 14) (nxT (σ 386) (σ 373 14) 0) := by
  have wt := W.tpd
  have e := tok_e (f := σ 386) (n := σ 373 14) (p := 0) (by omega) (by omega)
  exact ⟨by omega, e.2.2.1, e.2.2.2.1, e.2.2.2.2.2⟩
theorem s_textR (hd : 9 ≤ d) (W : WfM σ) :
    (∃ T ρ, txtP (nxT (σ 386) (σ 373 14)) 1001 T0x (nxT (σ 386) (σ 373 14) 0) = .inr T ∧ Fx σ ρ ∧ WfM ρ ∧ hlR ρ 4 = HxT T ∧ TxOk T ∧ ρ 373 18 = 0 ∧ RnA sc d 184 0 [some (vR 373), none, none] σ (some (vI 1)) ρ) ∨
    (∃ e ρ, txtP (nxT (σ 386) (σ 373 14)) 1001 T0x (nxT (σ 386) (σ 373 14) 0) = .inl e ∧ Fx σ ρ ∧ WfM ρ ∧ BdI ρ e ∧ RnA sc d 184 0 [some (vR 373), none, none] σ (some (vI 0)) ρ) := by
  have wt := W.tpd
  obtain ⟨W1, F1, V1⟩ := emC_v W
  have cl := fun u Q => s_clear (sc := sc) (σ := σ) (u := u) (Q := Q) (d := d - 1) (h := 4) (by omega) (by omega) (by omega)
  obtain ⟨τ, F2, W2, H2, x2⟩ := s_beginR (sc := sc) (d := d - 1) (σ := emC σ 4) (by omega) W1
  rw [F1.tx.1, F1.tx.2] at H2
  have V2 : hlR τ 4 = HxT T0x := (F2.dt.hl W1 (by omega) (by omega)).trans V1
  have run : ∀ (u : Bool × Nat × Nat × Int) (Q : Rs → HS → Prop), Ex sc d 184 0 [some (vR 373), none, none] [] (wH σ u) Q ↔ Ex sc d 184 9 [some (vR 373), none, none] [] (wH τ u) Q := by
    intro u Q
    simp (disch := first | omega | exact notL_I | exact notL_N | exact notL_R | exact oM | exact catS_le (Nat.le_of_ble_eq_true rfl) | exact Nat.le_of_ble_eq_true rfl | rfl) only [x184_0, x184_1, x184_2, x184_5, x184_6, x184_10, x184_13, x184_16, x184_17, x184_18, x184_19, x184_22, x184_23, x184_26, x184_27, x184_30, x184_31, x184_32, x184_33, x184_36, x184_37, x184_40, x184_41, x184_44, x184_45, x184_48, x184_49, x184_52, x184_53, x184_56, x184_57, x184_60, x184_61, x184_64, x184_65, x184_68, x184_69, x184_72, x184_73, x184_74, x184_75, x184_78, x184_81, x184_82, x184_85, x184_86, x184_89, x184_90, x184_91, x184_93, x184_96, x184_97, x184_98, x184_99, x184_102, x184_105, x184_106, x184_109, x184_110, x184_111, x184_112, x184_115, x184_116, x184_117, x184_120, x184_121, x184_122, x184_125, x184_126, x184_127, x184_128, x184_131, x184_132, x184_133, x184_134, x184_135, x184_138, x184_139, x184_142, x184_143, x184_144, x184_145, x184_148, x184_149, cl, x2 u, Kc_none]
  have tp := tkP_0 W
  have t1 := tp.1
  rcases l_text (sc := sc) (d := d) (σ := σ) (by omega) 1001 T0x (nxT (σ 386) (σ 373 14) 0) τ (by omega) (F1.trans F2.x) W2 V2 T0_ok H2 tp with ⟨T, ρ, a1, a2, a3, a4, a5, a6, a7⟩ | ⟨e, ρ, a1, a2, a3, a4, a5⟩
  · exact Or.inl ⟨T, ρ, a1, a2, a3, a4, a5, a6, fun u Q => (run u Q).trans (a7 u Q none none)⟩
  · exact Or.inr ⟨e, ρ, a1, a2, a3, a4, fun u Q => (run u Q).trans (a5 u Q none none)⟩
/-- a rule told -/
theorem s_oneRule (hd : 8 ≤ d) (W : WfM σ) :
    (∃ q ρ, tldP (nxT (σ 386) (σ 373 14)) (coR σ 4) (nxT (σ 386) (σ 373 14) 0) = .inr q ∧ Fpr 4 0 σ ρ ∧ WfM ρ ∧ ruR ρ 4 0 = q ∧ okRl (coR σ 4) q ∧ ρ 373 18 = 0 ∧ RnA sc d 266 0 [some (vR 373)] σ (some (vI 1)) ρ) ∨
    (∃ e ρ, tldP (nxT (σ 386) (σ 373 14)) (coR σ 4) (nxT (σ 386) (σ 373 14) 0) = .inl e ∧ Fpr 4 0 σ ρ ∧ WfM ρ ∧ BdI ρ e ∧ RnA sc d 266 0 [some (vR 373)] σ (some (vI 0)) ρ) := by
  obtain ⟨τ, F, W1, H, x1⟩ := s_beginR (sc := sc) (d := d - 1) (σ := σ) (by omega) W
  generalize nxT (σ 386) (σ 373 14) 0 = s at *
  have tk := H.2.2.1
  unfold tldP
  by_cases h4 : s.1 = 4
  case neg =>
    rw [if_neg h4]
    have bd := fun u Q => s_bad (sc := sc) (d := d - 1) (σ := τ) (k := 1) (p := s.2.1) H.2.1 u Q
    refine Or.inr ⟨_, _, rfl, F.pr.trans bad_v.1.pr, bad_v.1.dt.wf W1, bad_v.2, fun u Q => ?_⟩
    simp (disch := first | omega | exact notL_I | exact notL_N | exact notL_R | exact oM | exact catS_le (Nat.le_of_ble_eq_true rfl) | exact Nat.le_of_ble_eq_true rfl | rfl) only [x266_0, x266_1, x266_4, x266_5, x266_8, x266_9, x266_12, x266_13, x266_14, x266_15, x266_18, x266_21, x266_22, x266_23, x266_24, x266_25, x266_28, x266_31, x266_32, x266_33, x266_34, x266_37, x266_40, x266_41, x266_42, x266_43, x266_46, x266_49, x266_52, x266_53, x266_56, x266_57, x1 u, gM_token, gM_tokenAt, H.1.1, H.1.2.1, bd, Kc_some, Kc_none, if_pos, if_neg, ↓reduceIte, not_true_eq_false, not_false_eq_true]
  rw [if_pos h4]
  have rt := s_ruleT (sc := sc) (d := d - 1) (σ := τ) (h := 4) (r := 0) (s0 := s) (by omega) W1 (by omega) (by omega) (by omega) (by omega) H
  have eC : coR τ 4 = coR σ 4 := by unfold coR; rw [F.1 374 (by omega) (by omega)]
  rw [F.tx.1, F.tx.2, eC] at rt
  rcases rt with ⟨q, s', ρ, q1, q2, q3, q4, q5, q6, q7⟩ | ⟨e, ρ, q1, q2, q3, q4, q5⟩
  case inr =>
    refine Or.inr ⟨e, ρ, by rw [q1, andP_l], F.pr.trans q2, q3, q4, fun u Q => ?_⟩
    simp (disch := first | omega | exact notL_I | exact notL_N | exact notL_R | exact oM | exact catS_le (Nat.le_of_ble_eq_true rfl) | exact Nat.le_of_ble_eq_true rfl | rfl) only [x266_0, x266_1, x266_4, x266_5, x266_8, x266_9, x266_12, x266_13, x266_14, x266_15, x266_18, x266_21, x266_22, x266_23, x266_24, x266_25, x266_28, x266_31, x266_32, x266_33, x266_34, x266_37, x266_40, x266_41, x266_42, x266_43, x266_46, x266_49, x266_52, x266_53, x266_56, x266_57, x1 u, gM_token, H.1.1, h4, q5 u, Kc_some, Kc_none, if_pos, if_neg, ↓reduceIte, not_true_eq_false, not_false_eq_true]
  rw [q1, andP_r]
  have tk2 := q4.2.2.1
  by_cases h0 : s'.1 = 0
  · refine Or.inl ⟨q, ρ, if_pos h0, F.pr.trans q2, q3, q5, q6, q4.2.1, fun u Q => ?_⟩
    simp (disch := first | omega | exact notL_I | exact notL_N | exact notL_R | exact oM | exact catS_le (Nat.le_of_ble_eq_true rfl) | exact Nat.le_of_ble_eq_true rfl | rfl) only [x266_0, x266_1, x266_4, x266_5, x266_8, x266_9, x266_12, x266_13, x266_14, x266_15, x266_18, x266_21, x266_22, x266_23, x266_24, x266_25, x266_28, x266_31, x266_32, x266_33, x266_34, x266_37, x266_40, x266_41, x266_42, x266_43, x266_46, x266_49, x266_52, x266_53, x266_56, x266_57, x1 u, gM_token, H.1.1, h4, q7 u, q4.1.1, h0, Kc_some, Kc_none, if_pos, if_neg, ↓reduceIte, not_true_eq_false, not_false_eq_true]
  · have bd := fun u Q => s_bad (sc := sc) (d := d - 1) (σ := ρ) (k := 1) (p := s'.2.1) q4.2.1 u Q
    refine Or.inr ⟨(1, s'.2.1), _, if_neg h0, (F.pr.trans q2).trans bad_v.1.pr, bad_v.1.dt.wf q3, bad_v.2, fun u Q => ?_⟩
    simp (disch := first | omega | exact notL_I | exact notL_N | exact notL_R | exact oM | exact catS_le (Nat.le_of_ble_eq_true rfl) | exact Nat.le_of_ble_eq_true rfl | rfl) only [x266_0, x266_1, x266_4, x266_5, x266_8, x266_9, x266_12, x266_13, x266_14, x266_15, x266_18, x266_21, x266_22, x266_23, x266_24, x266_25, x266_28, x266_31, x266_32, x266_33, x266_34, x266_37, x266_40, x266_41, x266_42, x266_43, x266_46, x266_49, x266_52, x266_53, x266_56, x266_57, x1 u, gM_token, gM_tokenAt, H.1.1, h4, q7 u, q4.1.1, q4.1.2.1, bd, Kc_some, Kc_none, if_pos, if_neg, ↓reduceIte, not_true_eq_false, not_false_eq_true]
/-- the letters asked for -/
theorem l_askR {as : List At} (hd : 4 ≤ d) (W : WfM σ) (hat : atC σ 3 0 0 (σ 376 900)) (has : atsF σ 3 0 0 (σ 376 900).toNat 0 = as) :
    ∀ (f n : Nat) (acc : List Int) (s : Ps) (τ : St), f + n = 4 → acc.length = n → n ≤ 3 → Fpa σ τ → PcI τ s → (∀ (k : Nat) (v : Int), acc[k]? = some v → τ 387 k = v ∧ (0 ≤ v ∧ v ≤ 25) ∧ mentL as (2000 + v) = true) →
    (∃ A s' ρ, askP (nxT (σ 386) (σ 373 14)) as f n acc s = .inr (A, s') ∧ 1 ≤ A.length ∧ A.length ≤ 3 ∧ Fpa σ ρ ∧ PcI ρ s' ∧ (∀ (k : Nat) (v : Int), A[k]? = some v → ρ 387 k = v ∧ (0 ≤ v ∧ v ≤ 25) ∧ mentL as (2000 + v) = true) ∧ ∀ (u : Bool × Nat × Nat × Int) (Q : Rs → HS → Prop), Ex sc d 263 42 [some (vR 373), some (vI ((n : Int)))] [] (wH τ u) Q ↔ Ex sc d 263 144 [some (vR 373), some (vI ((A.length : Int)))] [] (wH ρ u) Q) ∨
    (∃ e ρ, askP (nxT (σ 386) (σ 373 14)) as f n acc s = .inl e ∧ Fpa σ ρ ∧ BdI ρ e ∧ ∀ (u : Bool × Nat × Nat × Int) (Q : Rs → HS → Prop), Ex sc d 263 42 [some (vR 373), some (vI ((n : Int)))] [] (wH τ u) Q ↔ Q (.inl (some (vI (0)))) (wH ρ u)) := by
  intro f
  induction f with
  | zero => intro n acc s τ fn ha hn; omega
  | succ f ih =>
    intro n acc s τ fn ha hn F H hac
    obtain ⟨⟨p1, p2, p3⟩, hw, q0, q1, q2⟩ := H
    have ctx : PcI τ s := ⟨⟨p1, p2, p3⟩, hw, q0, q1, q2⟩
    have Wt := F.dt.wf W
    have isv := fun u Q => s_isIn (sc := sc) (σ := τ) (u := u) (Q := Q) (d := d - 1) (v := s.1) (a := 200) (b := 225) ⟨by omega, by omega⟩ ⟨by decide, by decide⟩ ⟨by decide, by decide⟩
    have bdK := fun k u Q => s_bad (sc := sc) (d := d - 1) (σ := τ) (k := k) (p := s.2.1) hw u Q
    rw [askP]
    by_cases hV : 200 ≤ s.1 ∧ s.1 ≤ 225
    case neg =>
      have hV' : ¬ isVr s := hV
      rw [if_neg hV']
      simp only [if_neg hV] at isv
      refine Or.inr ⟨_, _, rfl, F.trans bad_v.1, bad_v.2, fun u Q => ?_⟩
      rw [x263_42]
      simp (disch := first | omega | exact notL_I | exact notL_N | exact notL_R | exact oM | exact catS_le (Nat.le_of_ble_eq_true rfl) | exact Nat.le_of_ble_eq_true rfl | rfl) only [x263_0, x263_1, x263_4, x263_5, x263_6, x263_7, x263_8, x263_9, x263_12, x263_15, x263_16, x263_17, x263_18, x263_21, x263_23, x263_26, x263_27, x263_28, x263_29, x263_32, x263_35, x263_36, x263_37, x263_39, x263_43, x263_46, x263_49, x263_52, x263_55, x263_58, x263_59, x263_60, x263_61, x263_64, x263_67, x263_68, x263_69, x263_70, x263_73, x263_74, x263_75, x263_76, x263_79, x263_82, x263_83, x263_84, x263_85, x263_86, x263_89, x263_90, x263_93, x263_94, x263_97, x263_98, x263_101, x263_104, x263_105, x263_106, x263_107, x263_110, x263_113, x263_114, x263_115, x263_118, x263_119, x263_120, x263_123, x263_126, x263_127, x263_128, x263_131, x263_132, x263_135, x263_136, x263_138, x263_141, x263_145, x263_147, x263_150, x263_153, x263_154, x263_155, x263_156, x263_159, x263_162, x263_163, x263_164, x263_165, x263_168, x263_171, x263_172, x263_173, x263_174, x263_177, x263_178, gM_token, p1, isv, gM_tokenAt, p2, bdK, Kc_some, if_pos, if_neg, ↓reduceIte, not_true_eq_false, not_false_eq_true]
    have hV' : isVr s := hV
    rw [if_pos hV']
    simp only [if_pos hV] at isv
    by_cases h3 : n = 3
    · rw [if_pos (show (n : Int) = 3 by omega)]
      refine Or.inr ⟨_, _, rfl, F.trans bad_v.1, bad_v.2, fun u Q => ?_⟩
      rw [x263_42]
      simp (disch := first | omega | exact notL_I | exact notL_N | exact notL_R | exact oM | exact catS_le (Nat.le_of_ble_eq_true rfl) | exact Nat.le_of_ble_eq_true rfl | rfl) only [x263_0, x263_1, x263_4, x263_5, x263_6, x263_7, x263_8, x263_9, x263_12, x263_15, x263_16, x263_17, x263_18, x263_21, x263_23, x263_26, x263_27, x263_28, x263_29, x263_32, x263_35, x263_36, x263_37, x263_39, x263_43, x263_46, x263_49, x263_52, x263_55, x263_58, x263_59, x263_60, x263_61, x263_64, x263_67, x263_68, x263_69, x263_70, x263_73, x263_74, x263_75, x263_76, x263_79, x263_82, x263_83, x263_84, x263_85, x263_86, x263_89, x263_90, x263_93, x263_94, x263_97, x263_98, x263_101, x263_104, x263_105, x263_106, x263_107, x263_110, x263_113, x263_114, x263_115, x263_118, x263_119, x263_120, x263_123, x263_126, x263_127, x263_128, x263_131, x263_132, x263_135, x263_136, x263_138, x263_141, x263_145, x263_147, x263_150, x263_153, x263_154, x263_155, x263_156, x263_159, x263_162, x263_163, x263_164, x263_165, x263_168, x263_171, x263_172, x263_173, x263_174, x263_177, x263_178, gM_token, p1, isv, gM_tokenAt, p2, bdK, Kc_some, if_pos, if_neg, ↓reduceIte, not_true_eq_false, not_false_eq_true]
    rw [if_neg (show ¬ (n : Int) = 3 by omega)]
    have e76 : τ 376 = σ 376 := F.1 376 (by omega) (by omega)
    have ah := fun u Q => s_isAh (sc := sc) (σ := τ) (u := u) (Q := Q) (d := d - 1) (h := 3) (r := 0) (v := 2000 + (s.1 - 200)) (by omega) Wt (by omega) (by omega) (by omega) (by omega) ⟨by omega, by omega⟩ (by omega) (by rw [e76]; exact atC_dt F.dt hat)
    have e9 : (30 : Int) * (10 * 3 + 0) = 900 := by decide
    rw [e76, F.dt.ats, e9, has] at ah
    have ev : 2000 + s.1 - 200 = 2000 + (s.1 - 200) := by omega
    cases hm : mentL as (2000 + (s.1 - 200)) with
    | false =>
      rw [if_neg (by simp)]
      rw [hm, bI_f] at ah
      refine Or.inr ⟨_, _, rfl, F.trans bad_v.1, bad_v.2, fun u Q => ?_⟩
      rw [x263_42]
      simp (disch := first | omega | exact notL_I | exact notL_N | exact notL_R | exact oM | exact catS_le (Nat.le_of_ble_eq_true rfl) | exact Nat.le_of_ble_eq_true rfl | rfl) only [x263_0, x263_1, x263_4, x263_5, x263_6, x263_7, x263_8, x263_9, x263_12, x263_15, x263_16, x263_17, x263_18, x263_21, x263_23, x263_26, x263_27, x263_28, x263_29, x263_32, x263_35, x263_36, x263_37, x263_39, x263_43, x263_46, x263_49, x263_52, x263_55, x263_58, x263_59, x263_60, x263_61, x263_64, x263_67, x263_68, x263_69, x263_70, x263_73, x263_74, x263_75, x263_76, x263_79, x263_82, x263_83, x263_84, x263_85, x263_86, x263_89, x263_90, x263_93, x263_94, x263_97, x263_98, x263_101, x263_104, x263_105, x263_106, x263_107, x263_110, x263_113, x263_114, x263_115, x263_118, x263_119, x263_120, x263_123, x263_126, x263_127, x263_128, x263_131, x263_132, x263_135, x263_136, x263_138, x263_141, x263_145, x263_147, x263_150, x263_153, x263_154, x263_155, x263_156, x263_159, x263_162, x263_163, x263_164, x263_165, x263_168, x263_171, x263_172, x263_173, x263_174, x263_177, x263_178, gM_token, p1, isv, ev, ah, gM_tokenAt, p2, bdK, Kc_some, if_pos, if_neg, ↓reduceIte, not_true_eq_false, not_false_eq_true]
    | true =>
      rw [if_pos rfl]
      rw [hm, bI_t] at ah
      have F2 : Fpa σ (su τ 387 n (s.1 - 200)) := F.trans Fpa.su7
      have H2 : PcI (su τ 387 n (s.1 - 200)) s := by
        unfold PcI PsI
        rw [su_ne (by omega)]
        exact ctx
      obtain ⟨τ3, g1, g2, g3⟩ := s_lookP (sc := sc) (d := d - 1) (by omega) (F2.dt.wf W) H2
      rw [F2.tx.1, F2.tx.2] at g2
      have F3 := F2.trans g1.pa
      have hl : ∀ (k : Nat) (v : Int), (acc ++ [s.1 - 200])[k]? = some v → τ3 387 k = v ∧ (0 ≤ v ∧ v ≤ 25) ∧ mentL as (2000 + v) = true := by
        intro k v hk
        rw [g1.1 387 (by omega)]
        by_cases hin : k < acc.length
        · rw [List.getElem?_append_left hin] at hk
          rw [su_off (by omega)]
          exact hac k v hk
        · have hil := (List.getElem?_eq_some_iff.mp hk).1
          rw [List.length_append, List.length_singleton] at hil
          have : k = n := by omega
          subst this
          rw [List.getElem?_append_right (by omega), ha, Nat.sub_self] at hk
          have hv : s.1 - 200 = v := Option.some.inj hk
          subst hv
          exact ⟨su_eq, ⟨by omega, by omega⟩, hm⟩
      have hln : (acc ++ [s.1 - 200]).length = n + 1 := by rw [List.length_append, List.length_singleton, ha]
      generalize nxT (σ 386) (σ 373 14) s.2.2 = s2 at *
      have c44 := s_isSign (sc := sc) (d := d - 1) (c := 44) g2.1.1 g2.2.2.1 (by omega)
      have run : ∀ (u : Bool × Nat × Nat × Int) (Q : Rs → HS → Prop), Ex sc d 263 42 [some (vR 373), some (vI ((n : Int)))] [] (wH τ u) Q ↔ Ex sc d 263 135 [some (vR 373), some (vI ((n : Int) + 1))] [] (wH τ3 u) Q := by
        intro u Q
        rw [x263_42]
        simp (disch := first | omega | exact notL_I | exact notL_N | exact notL_R | exact oM | exact catS_le (Nat.le_of_ble_eq_true rfl) | exact Nat.le_of_ble_eq_true rfl | rfl) only [x263_0, x263_1, x263_4, x263_5, x263_6, x263_7, x263_8, x263_9, x263_12, x263_15, x263_16, x263_17, x263_18, x263_21, x263_23, x263_26, x263_27, x263_28, x263_29, x263_32, x263_35, x263_36, x263_37, x263_39, x263_43, x263_46, x263_49, x263_52, x263_55, x263_58, x263_59, x263_60, x263_61, x263_64, x263_67, x263_68, x263_69, x263_70, x263_73, x263_74, x263_75, x263_76, x263_79, x263_82, x263_83, x263_84, x263_85, x263_86, x263_89, x263_90, x263_93, x263_94, x263_97, x263_98, x263_101, x263_104, x263_105, x263_106, x263_107, x263_110, x263_113, x263_114, x263_115, x263_118, x263_119, x263_120, x263_123, x263_126, x263_127, x263_128, x263_131, x263_132, x263_136, x263_138, x263_141, x263_145, x263_147, x263_150, x263_153, x263_154, x263_155, x263_156, x263_159, x263_162, x263_163, x263_164, x263_165, x263_168, x263_171, x263_172, x263_173, x263_174, x263_177, x263_178, gM_token, p1, isv, ev, ah, gM_list, WM_list, g3 u, Kc_some, Kc_none, if_pos, if_neg, ↓reduceIte, not_true_eq_false, not_false_eq_true]
      have ei : ((n + 1 : Nat) : Int) = (n : Int) + 1 := by omega
      by_cases k44 : s2.1 = 544
      · rw [if_pos k44]
        simp only [if_pos (show s2.1 = 500 + 44 by omega)] at c44
        obtain ⟨τ4, y1, y2, y3⟩ := s_lookP (sc := sc) (d := d - 1) (by omega) (F3.dt.wf W) g2
        rw [F3.tx.1, F3.tx.2] at y2
        have nx := ih (n + 1) (acc ++ [s.1 - 200]) _ τ4 (by omega) hln (by omega) (F3.trans y1.pa) y2 (fun k v hk => by rw [y1.1 387 (by omega)]; exact hl k v hk)
        rw [ei] at nx
        have run2 : ∀ (u : Bool × Nat × Nat × Int) (Q : Rs → HS → Prop), Ex sc d 263 42 [some (vR 373), some (vI ((n : Int)))] [] (wH τ u) Q ↔ Ex sc d 263 42 [some (vR 373), some (vI ((n : Int) + 1))] [] (wH τ4 u) Q := by
          intro u Q
          rw [run u Q, x263_135]
          simp (disch := first | omega | exact notL_I | exact notL_N | exact notL_R | exact oM | exact catS_le (Nat.le_of_ble_eq_true rfl) | exact Nat.le_of_ble_eq_true rfl | rfl) only [x263_0, x263_1, x263_4, x263_5, x263_6, x263_7, x263_8, x263_9, x263_12, x263_15, x263_16, x263_17, x263_18, x263_21, x263_23, x263_26, x263_27, x263_28, x263_29, x263_32, x263_35, x263_36, x263_37, x263_38, x263_39, x263_43, x263_46, x263_49, x263_52, x263_55, x263_58, x263_59, x263_60, x263_61, x263_64, x263_67, x263_68, x263_69, x263_70, x263_73, x263_74, x263_75, x263_76, x263_79, x263_82, x263_83, x263_84, x263_85, x263_86, x263_89, x263_90, x263_93, x263_94, x263_97, x263_98, x263_101, x263_104, x263_105, x263_106, x263_107, x263_110, x263_113, x263_114, x263_115, x263_118, x263_119, x263_120, x263_123, x263_126, x263_127, x263_128, x263_131, x263_132, x263_136, x263_138, x263_141, x263_145, x263_147, x263_150, x263_153, x263_154, x263_155, x263_156, x263_159, x263_162, x263_163, x263_164, x263_165, x263_168, x263_171, x263_172, x263_173, x263_174, x263_177, x263_178, c44, y3 u, Kc_some, Kc_none, if_pos, if_neg, ↓reduceIte, not_true_eq_false, not_false_eq_true]
        rcases nx with ⟨A, s', ρ, z1, z2, z3, z4, z5, z6, z7⟩ | ⟨e, ρ, z1, z2, z3, z4⟩
        · exact Or.inl ⟨A, s', ρ, z1, z2, z3, z4, z5, z6, fun u Q => (run2 u Q).trans (z7 u Q)⟩
        · exact Or.inr ⟨e, ρ, z1, z2, z3, fun u Q => (run2 u Q).trans (z4 u Q)⟩
      · rw [if_neg k44]
        simp only [if_neg (show ¬ s2.1 = 500 + 44 by omega)] at c44
        refine Or.inl ⟨_, _, τ3, rfl, by omega, by omega, F3, g2, hl, fun u Q => ?_⟩
        rw [run u Q, x263_135, hln, ei]
        simp (disch := first | omega | exact notL_I | exact notL_N | exact notL_R | exact oM | exact catS_le (Nat.le_of_ble_eq_true rfl) | exact Nat.le_of_ble_eq_true rfl | rfl) only [x263_0, x263_1, x263_4, x263_5, x263_6, x263_7, x263_8, x263_9, x263_12, x263_15, x263_16, x263_17, x263_18, x263_21, x263_23, x263_26, x263_27, x263_28, x263_29, x263_32, x263_35, x263_36, x263_37, x263_39, x263_43, x263_46, x263_49, x263_52, x263_55, x263_58, x263_59, x263_60, x263_61, x263_64, x263_67, x263_68, x263_69, x263_70, x263_73, x263_74, x263_75, x263_76, x263_79, x263_82, x263_83, x263_84, x263_85, x263_86, x263_89, x263_90, x263_93, x263_94, x263_97, x263_98, x263_101, x263_104, x263_105, x263_106, x263_107, x263_110, x263_113, x263_114, x263_115, x263_118, x263_119, x263_120, x263_123, x263_126, x263_127, x263_128, x263_131, x263_132, x263_136, x263_138, x263_141, x263_145, x263_147, x263_150, x263_153, x263_154, x263_155, x263_156, x263_159, x263_162, x263_163, x263_164, x263_165, x263_168, x263_171, x263_172, x263_173, x263_174, x263_177, x263_178, c44, Kc_some, if_pos, if_neg, ↓reduceIte, not_true_eq_false, not_false_eq_true]
/-- what a question changes -/
def Fpq (σ τ : St) : Prop := (∀ c, c ≠ 373 → c ≠ 376 → c ≠ 387 → τ c = σ c) ∧ (∀ j, j < 15 ∨ 19 < j → j ≠ 22 → j ≠ 23 → τ 373 j = σ 373 j) ∧ ∀ k, k < 900 ∨ 930 ≤ k → τ 376 k = σ 376 k
theorem Fpr.q {σ τ : St} (F : Fpr 3 0 σ τ) : Fpq σ τ := ⟨F.1, fun j a b _ => F.2.1 j a b, fun k hk => F.2.2 k (by omega)⟩
theorem Fpq.trans {σ τ ρ : St} (h1 : Fpq σ τ) (h2 : Fpq τ ρ) : Fpq σ ρ := ⟨fun c a b e => (h2.1 c a b e).trans (h1.1 c a b e), fun j a b e => (h2.2.1 j a b e).trans (h1.2.1 j a b e), fun k a => (h2.2.2 k a).trans (h1.2.2 k a)⟩
theorem s_question (hd : 8 ≤ d) (W : WfM σ) :
    (∃ as A ρ, qstP (nxT (σ 386) (σ 373 14)) (coR σ 3) (nxT (σ 386) (σ 373 14) 0) = .inr (as, A) ∧ Fpq σ ρ ∧ WfM ρ ∧ ρ 373 18 = 0 ∧ (1 ≤ as.length ∧ as.length ≤ 2) ∧ ρ 376 900 = (as.length : Int) ∧ atsF ρ 3 0 0 (ρ 376 900).toNat 0 = as ∧ (∀ a ∈ as, okA (coR σ 3) a) ∧ (1 ≤ A.length ∧ A.length ≤ 3) ∧ ρ 373 23 = (A.length : Int) ∧ (∀ (k : Nat) (v : Int), A[k]? = some v → ρ 387 k = v ∧ (0 ≤ v ∧ v ≤ 25) ∧ mentL as (2000 + v) = true) ∧ RnA sc d 263 0 [some (vR 373), none] σ (some (vI 1)) ρ) ∨
    (∃ e ρ, qstP (nxT (σ 386) (σ 373 14)) (coR σ 3) (nxT (σ 386) (σ 373 14) 0) = .inl e ∧ Fpq σ ρ ∧ WfM ρ ∧ BdI ρ e ∧ RnA sc d 263 0 [some (vR 373), none] σ (some (vI 0)) ρ) := by
  obtain ⟨τ0, F0, W0, H0, x0⟩ := s_beginR (sc := sc) (d := d - 1) (σ := σ) (by omega) W
  generalize nxT (σ 386) (σ 373 14) 0 = s at *
  have eC : coR τ0 3 = coR σ 3 := by unfold coR; rw [F0.1 374 (by omega) (by omega)]
  have am := s_atm (sc := sc) (d := d - 1) (σ := τ0) (h := 3) (r := 0) (sd := 0) (most := 2) (s := s) (by omega) W0 (by omega) (by omega) (by omega) (by omega) (by omega) (by omega) (by omega) (by omega) H0
  have e2 : ((2 : Nat) : Int) = 2 := rfl
  rw [F0.tx.1, F0.tx.2, eC, e2] at am
  unfold qstP
  rcases am with ⟨as, s1, τ1, q1, a1, a3, G1, W1, H1, c1, at1, x1⟩ | ⟨e, τ1, q1, G1, W1, B1, x1⟩
  case inr =>
    refine Or.inr ⟨e, τ1, by rw [q1, andP_l], (F0.pr.trans G1.pr).q, W1, B1, fun u Q => ?_⟩
    simp (disch := first | omega | exact notL_I | exact notL_N | exact notL_R | exact oM | exact catS_le (Nat.le_of_ble_eq_true rfl) | exact Nat.le_of_ble_eq_true rfl | rfl) only [x263_0, x263_1, x263_4, x263_5, x263_6, x263_7, x263_8, x263_9, x263_12, x263_15, x263_16, x263_17, x263_18, x263_21, x263_23, x263_26, x263_27, x263_28, x263_29, x263_32, x263_35, x263_36, x263_37, x263_39, x263_43, x263_46, x263_49, x263_52, x263_55, x263_58, x263_59, x263_60, x263_61, x263_64, x263_67, x263_68, x263_69, x263_70, x263_73, x263_74, x263_75, x263_76, x263_79, x263_82, x263_83, x263_84, x263_85, x263_86, x263_89, x263_90, x263_93, x263_94, x263_97, x263_98, x263_101, x263_104, x263_105, x263_106, x263_107, x263_110, x263_113, x263_114, x263_115, x263_118, x263_119, x263_120, x263_123, x263_126, x263_127, x263_128, x263_131, x263_132, x263_135, x263_136, x263_138, x263_141, x263_145, x263_147, x263_150, x263_153, x263_154, x263_155, x263_156, x263_159, x263_162, x263_163, x263_164, x263_165, x263_168, x263_171, x263_172, x263_173, x263_174, x263_177, x263_178, x0 u, x1 u, Kc_some, Kc_none, if_pos, if_neg, ↓reduceIte, not_true_eq_false, not_false_eq_true]
  have F1 : Fpr 3 0 σ τ1 := F0.pr.trans G1.pr
  have e9 : (30 : Int) * (10 * 3 + 0) + 2 * 0 = 900 := by decide
  have e9' : (30 : Int) * (10 * 3 + 0) = 900 := by decide
  rw [e9] at c1
  have has := ats_of (ρ := τ1) (h := 3) (r := 0) (sd := 0) c1 (fun i a hi => (at1 i a hi).1)
  have oka : ∀ a ∈ as, okA (coR σ 3) a := fun a ha => by
    obtain ⟨i, hi, ei⟩ := List.mem_iff_getElem.mp ha
    exact (at1 i a (by rw [List.getElem?_eq_getElem hi, ei])).2
  have hat : atC τ1 3 0 0 (τ1 376 900) := by
    intro i i0 i1
    rw [c1] at i1
    have hil : i.toNat < as.length := by omega
    have hi : ((i.toNat : Nat) : Int) = i := by omega
    have q := at1 i.toNat _ (List.getElem?_eq_getElem hil)
    rw [hi] at q
    have o := q.2
    rw [← q.1] at o
    have o1 := o.1
    have o2 := o.2.1
    have o3 := o.2.2.1
    have et : (atR τ1 3 0 0 i).1 = τ1 376 (30 * (10 * 3 + 0) + (3 + 4 * (3 * 0 + i))) := rfl
    rw [et] at o1 o2 o3
    rw [← F1.co (g := 3), coR_in o1 o2] at o3
    exact o3
  have tk1 := H1.2.2.1
  have run1 : ∀ (u : Bool × Nat × Nat × Int) (Q : Rs → HS → Prop), Ex sc d 263 0 [some (vR 373), none] [] (wH σ u) Q ↔ Ex sc d 263 17 [some (vR 373), none] [] (wH τ1 u) Q := by
    intro u Q
    simp (disch := first | omega | exact notL_I | exact notL_N | exact notL_R | exact oM | exact catS_le (Nat.le_of_ble_eq_true rfl) | exact Nat.le_of_ble_eq_true rfl | rfl) only [x263_0, x263_1, x263_4, x263_5, x263_6, x263_7, x263_8, x263_9, x263_12, x263_15, x263_16, x263_18, x263_21, x263_23, x263_26, x263_27, x263_28, x263_29, x263_32, x263_35, x263_36, x263_37, x263_39, x263_43, x263_46, x263_49, x263_52, x263_55, x263_58, x263_59, x263_60, x263_61, x263_64, x263_67, x263_68, x263_69, x263_70, x263_73, x263_74, x263_75, x263_76, x263_79, x263_82, x263_83, x263_84, x263_85, x263_86, x263_89, x263_90, x263_93, x263_94, x263_97, x263_98, x263_101, x263_104, x263_105, x263_106, x263_107, x263_110, x263_113, x263_114, x263_115, x263_118, x263_119, x263_120, x263_123, x263_126, x263_127, x263_128, x263_131, x263_132, x263_135, x263_136, x263_138, x263_141, x263_145, x263_147, x263_150, x263_153, x263_154, x263_155, x263_156, x263_159, x263_162, x263_163, x263_164, x263_165, x263_168, x263_171, x263_172, x263_173, x263_174, x263_177, x263_178, x0 u, x1 u, Kc_some, Kc_none, if_pos, if_neg, ↓reduceIte, not_true_eq_false, not_false_eq_true]
  rw [q1, andP_r]
  by_cases h6 : s1.1 = 6
  case neg =>
    have bd := fun u Q => s_bad (sc := sc) (d := d - 1) (σ := τ1) (k := 1) (p := s1.2.1) H1.2.1 u Q
    refine Or.inr ⟨(1, s1.2.1), _, if_neg h6, (F1.trans bad_v.1.pr).q, bad_v.1.dt.wf W1, bad_v.2, fun u Q => ?_⟩
    rw [run1 u Q, x263_17]
    simp (disch := first | omega | exact notL_I | exact notL_N | exact notL_R | exact oM | exact catS_le (Nat.le_of_ble_eq_true rfl) | exact Nat.le_of_ble_eq_true rfl | rfl) only [x263_0, x263_1, x263_4, x263_5, x263_6, x263_7, x263_8, x263_9, x263_12, x263_15, x263_16, x263_18, x263_21, x263_23, x263_26, x263_27, x263_28, x263_29, x263_32, x263_35, x263_36, x263_37, x263_39, x263_43, x263_46, x263_49, x263_52, x263_55, x263_58, x263_59, x263_60, x263_61, x263_64, x263_67, x263_68, x263_69, x263_70, x263_73, x263_74, x263_75, x263_76, x263_79, x263_82, x263_83, x263_84, x263_85, x263_86, x263_89, x263_90, x263_93, x263_94, x263_97, x263_98, x263_101, x263_104, x263_105, x263_106, x263_107, x263_110, x263_113, x263_114, x263_115, x263_118, x263_119, x263_120, x263_123, x263_126, x263_127, x263_128, x263_131, x263_132, x263_135, x263_136, x263_138, x263_141, x263_145, x263_147, x263_150, x263_153, x263_154, x263_155, x263_156, x263_159, x263_162, x263_163, x263_164, x263_165, x263_168, x263_171, x263_172, x263_173, x263_174, x263_177, x263_178, gM_token, gM_tokenAt, H1.1.1, H1.1.2.1, bd, Kc_some, if_pos, if_neg, ↓reduceIte, not_true_eq_false, not_false_eq_true]
  obtain ⟨τ2, v1, v2, v3⟩ := s_lookP (sc := sc) (d := d - 1) (by omega) W1 H1
  have W2 := v1.dt.wf W1
  have run2 : ∀ (u : Bool × Nat × Nat × Int) (Q : Rs → HS → Prop), Ex sc d 263 0 [some (vR 373), none] [] (wH σ u) Q ↔ Ex sc d 263 42 [some (vR 373), some (vI 0)] [] (wH τ2 u) Q := by
    intro u Q
    rw [run1 u Q, x263_17]
    simp (disch := first | omega | exact notL_I | exact notL_N | exact notL_R | exact oM | exact catS_le (Nat.le_of_ble_eq_true rfl) | exact Nat.le_of_ble_eq_true rfl | rfl) only [x263_0, x263_1, x263_4, x263_5, x263_6, x263_7, x263_8, x263_9, x263_12, x263_15, x263_16, x263_18, x263_21, x263_23, x263_26, x263_27, x263_28, x263_29, x263_32, x263_35, x263_36, x263_37, x263_38, x263_39, x263_43, x263_46, x263_49, x263_52, x263_55, x263_58, x263_59, x263_60, x263_61, x263_64, x263_67, x263_68, x263_69, x263_70, x263_73, x263_74, x263_75, x263_76, x263_79, x263_82, x263_83, x263_84, x263_85, x263_86, x263_89, x263_90, x263_93, x263_94, x263_97, x263_98, x263_101, x263_104, x263_105, x263_106, x263_107, x263_110, x263_113, x263_114, x263_115, x263_118, x263_119, x263_120, x263_123, x263_126, x263_127, x263_128, x263_131, x263_132, x263_135, x263_136, x263_138, x263_141, x263_145, x263_147, x263_150, x263_153, x263_154, x263_155, x263_156, x263_159, x263_162, x263_163, x263_164, x263_165, x263_168, x263_171, x263_172, x263_173, x263_174, x263_177, x263_178, gM_token, H1.1.1, h6, v3 u, Kc_none, if_pos, if_neg, ↓reduceIte, not_true_eq_false, not_false_eq_true]
  have la := l_askR (sc := sc) (d := d) (σ := τ1) (as := as) (by omega) W1 hat has 4 0 [] _ τ2 (by omega) rfl (by omega) v1.pa v2 (fun k v hk => by cases hk)
  rw [F1.tx.1, F1.tx.2, Int.natCast_zero] at la
  have eq6 : ∀ X : Fa ⊕ (List At × List Int), ((fun q : List At × Ps => if q.2.1 = 6 then andP (askP (nxT (σ 386) (σ 373 14)) q.1 4 0 [] (nxT (σ 386) (σ 373 14) q.2.2.2)) fun l => andP (needP (nxT (σ 386) (σ 373 14)) 59 l.2) fun s => if s.1 = 0 then .inr (q.1, l.1) else .inl (1, s.2.1) else .inl (1, q.2.2.1)) (as, s1) = X ↔ (andP (askP (nxT (σ 386) (σ 373 14)) as 4 0 [] (nxT (σ 386) (σ 373 14) s1.2.2)) fun l => andP (needP (nxT (σ 386) (σ 373 14)) 59 l.2) fun s => if s.1 = 0 then (.inr (as, l.1) : Fa ⊕ (List At × List Int)) else .inl (1, s.2.1)) = X) := fun X => by
    dsimp only
    rw [if_pos h6]
  simp only [eq6]
  rcases la with ⟨A, s3, τ3, z1, z2, z3, z4, z5, z6, z7⟩ | ⟨e, τ3, z1, z2, z3, z4⟩
  case inr =>
    exact Or.inr ⟨e, τ3, by rw [z1, andP_l], (F1.trans z2.pr).q, z2.dt.wf W1, z3, fun u Q => (run2 u Q).trans (z4 u Q)⟩
  have W3 := z4.dt.wf W1
  have F3 : Fpr 3 0 σ τ3 := F1.trans z4.pr
  rcases s_needR (sc := sc) (d := d - 1) (c := 59) (τ0 := σ) (by omega) W3 z5 (by omega) F3.tx.1 F3.tx.2 with ⟨s4, τ4, n1, n2, n3, n4⟩ | ⟨e, τ4, n1, n2, n3, n4⟩
  case inr =>
    refine Or.inr ⟨e, τ4, by rw [z1, andP_r, n1, andP_l], (F3.trans n2.pr).q, n2.dt.wf W3, n3, fun u Q => ?_⟩
    rw [run2 u Q, z7 u Q, x263_144]
    simp (disch := first | omega | exact notL_I | exact notL_N | exact notL_R | exact oM | exact catS_le (Nat.le_of_ble_eq_true rfl) | exact Nat.le_of_ble_eq_true rfl | rfl) only [x263_0, x263_1, x263_4, x263_5, x263_6, x263_7, x263_8, x263_9, x263_12, x263_15, x263_16, x263_18, x263_21, x263_23, x263_26, x263_27, x263_28, x263_29, x263_32, x263_35, x263_36, x263_37, x263_39, x263_43, x263_46, x263_49, x263_52, x263_55, x263_58, x263_59, x263_60, x263_61, x263_64, x263_67, x263_68, x263_69, x263_70, x263_73, x263_74, x263_75, x263_76, x263_79, x263_82, x263_83, x263_84, x263_85, x263_86, x263_89, x263_90, x263_93, x263_94, x263_97, x263_98, x263_101, x263_104, x263_105, x263_106, x263_107, x263_110, x263_113, x263_114, x263_115, x263_118, x263_119, x263_120, x263_123, x263_126, x263_127, x263_128, x263_131, x263_132, x263_135, x263_136, x263_138, x263_141, x263_145, x263_147, x263_150, x263_153, x263_154, x263_155, x263_156, x263_159, x263_162, x263_163, x263_164, x263_165, x263_168, x263_171, x263_172, x263_173, x263_174, x263_177, x263_178, n4 u, Kc_some, if_pos, if_neg, ↓reduceIte, not_true_eq_false, not_false_eq_true]
  have W4 := n2.dt.wf W3
  have tk4 := n3.2.2.1
  have F4 : Fpr 3 0 σ τ4 := F3.trans n2.pa.pr
  by_cases h0 : s4.1 = 0
  · refine Or.inl ⟨as, A, su τ4 373 23 (A.length : Int), by rw [z1, andP_r, n1, andP_r, if_pos h0], F4.q.trans ⟨fun c a _ _ => su_ne a, fun j _ _ a => su_off a, fun k _ => by rw [su_ne (by omega)]⟩, (Dt.dsu3 (by omega)).wf W4, by rw [su_off (by omega)]; exact n3.2.1, ⟨a1, a3⟩, ?_, ?_, oka, ⟨z2, z3⟩, su_eq, fun k v hk => ?_, fun u Q => ?_⟩
    · rw [su_ne (by omega), n2.1 376 (by omega), z4.1 376 (by omega) (by omega), c1]
    · have D : Dt τ1 (su τ4 373 23 (A.length : Int)) := (z4.dt.trans n2.dt).trans (Dt.dsu3 (by omega))
      rw [D.ats, D.1 376 (by omega) (by omega)]
      exact has
    · rw [su_ne (by omega), n2.1 387 (by omega)]
      exact z6 k v hk
    · rw [run2 u Q, z7 u Q, x263_144]
      simp (disch := first | omega | exact notL_I | exact notL_N | exact notL_R | exact oM | exact catS_le (Nat.le_of_ble_eq_true rfl) | exact Nat.le_of_ble_eq_true rfl | rfl) only [x263_0, x263_1, x263_4, x263_5, x263_6, x263_7, x263_8, x263_9, x263_12, x263_15, x263_16, x263_18, x263_21, x263_23, x263_26, x263_27, x263_28, x263_29, x263_32, x263_35, x263_36, x263_37, x263_39, x263_43, x263_46, x263_49, x263_52, x263_55, x263_58, x263_59, x263_60, x263_61, x263_64, x263_67, x263_68, x263_69, x263_70, x263_73, x263_74, x263_75, x263_76, x263_79, x263_82, x263_83, x263_84, x263_85, x263_86, x263_89, x263_90, x263_93, x263_94, x263_97, x263_98, x263_101, x263_104, x263_105, x263_106, x263_107, x263_110, x263_113, x263_114, x263_115, x263_118, x263_119, x263_120, x263_123, x263_126, x263_127, x263_128, x263_131, x263_132, x263_135, x263_136, x263_138, x263_141, x263_145, x263_147, x263_150, x263_153, x263_154, x263_155, x263_156, x263_159, x263_162, x263_163, x263_164, x263_165, x263_168, x263_171, x263_172, x263_173, x263_174, x263_177, x263_178, n4 u, gM_token, n3.1.1, h0, pM_last, Kc_some, if_pos, if_neg, ↓reduceIte, not_true_eq_false, not_false_eq_true]
  · have bd := fun u Q => s_bad (sc := sc) (d := d - 1) (σ := τ4) (k := 1) (p := s4.2.1) n3.2.1 u Q
    refine Or.inr ⟨(1, s4.2.1), _, by rw [z1, andP_r, n1, andP_r, if_neg h0], (F4.trans bad_v.1.pr).q, bad_v.1.dt.wf W4, bad_v.2, fun u Q => ?_⟩
    rw [run2 u Q, z7 u Q, x263_144]
    simp (disch := first | omega | exact notL_I | exact notL_N | exact notL_R | exact oM | exact catS_le (Nat.le_of_ble_eq_true rfl) | exact Nat.le_of_ble_eq_true rfl | rfl) only [x263_0, x263_1, x263_4, x263_5, x263_6, x263_7, x263_8, x263_9, x263_12, x263_15, x263_16, x263_18, x263_21, x263_23, x263_26, x263_27, x263_28, x263_29, x263_32, x263_35, x263_36, x263_37, x263_39, x263_43, x263_46, x263_49, x263_52, x263_55, x263_58, x263_59, x263_60, x263_61, x263_64, x263_67, x263_68, x263_69, x263_70, x263_73, x263_74, x263_75, x263_76, x263_79, x263_82, x263_83, x263_84, x263_85, x263_86, x263_89, x263_90, x263_93, x263_94, x263_97, x263_98, x263_101, x263_104, x263_105, x263_106, x263_107, x263_110, x263_113, x263_114, x263_115, x263_118, x263_119, x263_120, x263_123, x263_126, x263_127, x263_128, x263_131, x263_132, x263_135, x263_136, x263_138, x263_141, x263_145, x263_147, x263_150, x263_153, x263_154, x263_155, x263_156, x263_159, x263_162, x263_163, x263_164, x263_165, x263_168, x263_171, x263_172, x263_173, x263_174, x263_177, x263_178, n4 u, gM_token, gM_tokenAt, n3.1.1, n3.1.2.1, bd, Kc_some, if_pos, if_neg, ↓reduceIte, not_true_eq_false, not_false_eq_true]
end La
