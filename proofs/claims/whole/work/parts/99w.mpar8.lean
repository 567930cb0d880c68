/-! the reference reads: a text -/
theorem rlF_snoc {σ : St} {h : Int} : ∀ (k : Nat) (r : Int), rlF σ h (k + 1) r = rlF σ h k r ++ [ruR σ h (r + k)] := by
  intro k
  induction k with
  | zero => intro r; rw [rlF, rlF, rlF, Int.natCast_zero, Int.add_zero, List.nil_append]
  | succ k ih =>
    intro r
    rw [rlF, ih (r + 1), rlF, List.cons_append, show r + 1 + (k : Int) = r + ((k + 1 : Nat) : Int) by omega]
/-- a rule more -/
theorem rule_keep {τ ρ : St} {r : Int} {q : Ru} (F : Fpr 4 r τ ρ) (W : WfM τ) (Wρ : WfM ρ) (hr : τ 375 4 = r) (r9 : r ≤ 9) (hq : ruR ρ 4 r = q) : WfM (su ρ 375 4 (r + 1)) ∧ Fx τ (su ρ 375 4 (r + 1)) ∧ hlR (su ρ 375 4 (r + 1)) 4 = ((hlR τ 4).1, (hlR τ 4).2.1 ++ [q], (hlR τ 4).2.2) := by
  have wm := W.rm (h := 4) (by omega) (by omega)
  have ne : ∀ c, c ≠ 373 → c ≠ 375 → c ≠ 376 → c ≠ 387 → su ρ 375 4 (r + 1) c = τ c := fun c a b e g => by rw [su_ne b]; exact F.1 c a e g
  have e6 : ∀ k, k < 30 * (40 + r) ∨ 30 * (40 + r) + 30 ≤ k → su ρ 375 4 (r + 1) 376 k = τ 376 k := fun k hk => by rw [su_ne (by omega)]; exact F.2.2 k (by omega)
  have e5 : ∀ g, g ≠ 4 → su ρ 375 4 (r + 1) 375 g = τ 375 g := fun g hg => by rw [su_off hg, F.1 375 (by omega) (by omega) (by omega)]
  have e54 : su ρ 375 4 (r + 1) 375 4 = r + 1 := su_eq
  refine ⟨?_, ⟨RsR.of (fun c a b => ne c a (by omega) (by omega) (by omega)) (fun j hj => by rw [su_ne (by omega)]; exact F.2.1 j (by omega) (by omega)), fun g g0 g1 => ?_, ne 393 (by omega) (by omega) (by omega) (by omega), by rw [su_ne (by omega)]; exact F.2.1 0 (by omega) (by omega)⟩, ?_⟩
  · refine Wρ.mk ?_ ?_ ?_ ?_ ?_ ?_ ?_ ?_ ?_ ?_ ?_ ?_ ?_
    case refine_2 =>
      intro i i0 i1
      by_cases e : i = 4
      · subst e
        rw [su_eq]
        omega
      · rw [su_off e]
        exact Wρ.p5 i i0 i1
    case refine_3 =>
      intro i i0 i1
      have := Wρ.p6 i i0 i1
      unfold okU at this ⊢
      rw [su_ne (by omega)]
      exact this
    all_goals rw [su_ne (by omega)]
    · exact Wρ.p4
    · exact Wρ.p7
    · exact Wρ.p8
    · exact Wρ.p9
    · exact Wρ.p0
    · exact Wρ.p1
    · exact Wρ.p2
    · exact Wρ.p3
    · exact Wρ.pa
  · exact ⟨⟨fun t a b => by rw [ne 374 (by omega) (by omega) (by omega) (by omega)], e5 g (by omega), fun t a b => e6 _ (by omega)⟩, ⟨fun t a b => ⟨by rw [ne 377 (by omega) (by omega) (by omega) (by omega)], by rw [ne 378 (by omega) (by omega) (by omega) (by omega)]⟩, fun t a b => by rw [ne 379 (by omega) (by omega) (by omega) (by omega)], by rw [ne 381 (by omega) (by omega) (by omega) (by omega)], fun t a b => by rw [ne 385 (by omega) (by omega) (by omega) (by omega)]⟩, ⟨fun t a b => by rw [ne 380 (by omega) (by omega) (by omega) (by omega)], by rw [ne 382 (by omega) (by omega) (by omega) (by omega)], by rw [ne 383 (by omega) (by omega) (by omega) (by omega)], fun t a b => by rw [ne 384 (by omega) (by omega) (by omega) (by omega)]⟩⟩
  · have b1 : coR (su ρ 375 4 (r + 1)) 4 = coR τ 4 := by unfold coR; rw [ne 374 (by omega) (by omega) (by omega) (by omega)]
    have b2 : rlR (su ρ 375 4 (r + 1)) 4 = rlR τ 4 ++ [q] := by
      unfold rlR
      rw [e54, hr, show (r + 1).toNat = r.toNat + 1 by omega, rlF_snoc]
      have k1 : ∀ (k : Nat) (i : Int), 0 ≤ i → i + k ≤ r → rlF (su ρ 375 4 (r + 1)) 4 k i = rlF τ 4 k i := by
        intro k
        induction k with
        | zero => intro i _ _; rfl
        | succ k ih =>
          intro i i0 ik
          rw [rlF, rlF, ih (i + 1) (by omega) (by omega)]
          congr 1
          have ea : ∀ (s : Int) (m : Int), m ≤ 3 → 0 ≤ s → s ≤ 1 → atsF (su ρ 375 4 (r + 1)) 4 i s m.toNat 0 = atsF τ 4 i s m.toNat 0 := fun s m m3 s0 s1 => by
            apply atsF_ext2
            intro j j0 j1
            unfold atR
            rw [ne 374 (by omega) (by omega) (by omega) (by omega), e6 _ (by omega), e6 _ (by omega), e6 _ (by omega), e6 _ (by omega)]
          have wr := W.rul (h := 4) (r := i) (by omega) (by omega) i0 (by omega)
          unfold ruR
          rw [e6 _ (by omega), e6 _ (by omega), e6 _ (by omega), e6 _ (by omega), e6 _ (by omega), ea 0 _ wr.1.2 (by omega) (by omega), ea 1 _ wr.2.2.1.2 (by omega) (by omega)]
      rw [k1 _ 0 (by omega) (by omega)]
      congr 2
      have ez : 0 + ((r.toNat : Nat) : Int) = r := by omega
      rw [ez, ← hq]
      have eat : ∀ s j, atR (su ρ 375 4 (r + 1)) 4 r s j = atR ρ 4 r s j := fun s j => by
        unfold atR
        rw [su_ne (by omega), su_ne (by omega)]
      have eats : ∀ (s : Int) (k : Nat) (j : Int), atsF (su ρ 375 4 (r + 1)) 4 r s k j = atsF ρ 4 r s k j := fun s k j => atsF_ext2 k j (fun i _ _ => eat s i)
      unfold ruR
      rw [su_ne (by omega), eats, eats]
    have b3 : rsR (su ρ 375 4 (r + 1)) 4 = rsR τ 4 := by
      have wn := W.nxt (h := 4) (by omega) (by omega)
      unfold rsR
      rw [ne 381 (by omega) (by omega) (by omega) (by omega)]
      apply rsF_ext2
      intro i i0 i1
      refine ⟨by rw [ne 377 (by omega) (by omega) (by omega) (by omega)], fun _ => ?_⟩
      unfold rwR
      rw [ne 378 (by omega) (by omega) (by omega) (by omega), ne 374 (by omega) (by omega) (by omega) (by omega), ne 379 (by omega) (by omega) (by omega) (by omega)]
    have hc : HQc τ 4 (su ρ 375 4 (r + 1)) 4 := ⟨fun t a b => by rw [ne 380 (by omega) (by omega) (by omega) (by omega)], by rw [ne 382 (by omega) (by omega) (by omega) (by omega)], by rw [ne 383 (by omega) (by omega) (by omega) (by omega)], fun t a b => by rw [ne 384 (by omega) (by omega) (by omega) (by omega)]⟩
    have b5 := hc.st W (by omega) (by omega)
    have b6 : naR (su ρ 375 4 (r + 1)) 4 = naR τ 4 := by unfold naR; rw [ne 385 (by omega) (by omega) (by omega) (by omega)]
    have b7 : byR (su ρ 375 4 (r + 1)) 4 = byR τ 4 := by unfold byR; rw [ne 380 (by omega) (by omega) (by omega) (by omega), ne 381 (by omega) (by omega) (by omega) (by omega)]
    unfold hlR rnR
    rw [b1, b2, b3, b5, b6, b7, ne 382 (by omega) (by omega) (by omega) (by omega), ne 381 (by omega) (by omega) (by omega) (by omega)]
theorem Fpr.x4 {σ τ : St} {r : Int} (r0 : 0 ≤ r) (F : Fpr 4 r σ τ) : Fx σ τ := ⟨RsR.of (fun c a b => F.1 c a (by omega) (by omega)) (fun j hj => F.2.1 j (by omega) (by omega)), fun g g0 g1 => ⟨⟨fun t a b => by rw [F.1 374 (by omega) (by omega) (by omega)], by rw [F.1 375 (by omega) (by omega) (by omega)], fun t a b => F.2.2 _ (by omega)⟩, ⟨fun t a b => ⟨by rw [F.1 377 (by omega) (by omega) (by omega)], by rw [F.1 378 (by omega) (by omega) (by omega)]⟩, fun t a b => by rw [F.1 379 (by omega) (by omega) (by omega)], by rw [F.1 381 (by omega) (by omega) (by omega)], fun t a b => by rw [F.1 385 (by omega) (by omega) (by omega)]⟩, ⟨fun t a b => by rw [F.1 380 (by omega) (by omega) (by omega)], by rw [F.1 382 (by omega) (by omega) (by omega)], by rw [F.1 383 (by omega) (by omega) (by omega)], fun t a b => by rw [F.1 384 (by omega) (by omega) (by omega)]⟩⟩, F.1 393 (by omega) (by omega) (by omega), F.2.1 0 (by omega) (by omega)⟩
section L9
variable {sc : Scr} {d : Nat} {σ : St}
set_option maxHeartbeats 1000000 in
theorem l_text (hd : 8 ≤ d) : ∀ (f : Nat) (T : Tx) (s : Ps) (τ : St), σ 373 14 - s.2.1 < f → Fx σ τ → WfM τ → hlR τ 4 = HxT T → TxOk T → PcI τ s → tkP (σ 373 14) s →
    (∃ T' ρ, txtP (nxT (σ 386) (σ 373 14)) f T s = .inr T' ∧ Fx σ ρ ∧ WfM ρ ∧ hlR ρ 4 = HxT T' ∧ TxOk T' ∧ ρ 373 18 = 0 ∧ ∀ (u : Bool × Nat × Nat × Int) (Q : Rs → HS → Prop) (l1 l2 : Option V), Ex sc d 184 9 [some (vR 373), l1, l2] [] (wH τ u) Q ↔ Q (.inl (some (vI (1)))) (wH ρ u)) ∨
    (∃ e ρ, txtP (nxT (σ 386) (σ 373 14)) f T s = .inl e ∧ Fx σ ρ ∧ WfM ρ ∧ BdI ρ e ∧ ∀ (u : Bool × Nat × Nat × Int) (Q : Rs → HS → Prop) (l1 l2 : Option V), Ex sc d 184 9 [some (vR 373), l1, l2] [] (wH τ u) Q ↔ Q (.inl (some (vI (0)))) (wH ρ u)) := by
  intro f
  induction f with
  | zero =>
    intro T s τ hf F W hT ok H tp
    have := tp.2.1
    have := tp.2.2.1
    omega
  | succ f ih =>
    intro T s τ hf F W hT ok H tp
    have tk := H.2.2.1
    have t1 := H.1.1
    rw [txt_pie]
    by_cases h0 : s.1 = 0
    · rw [if_pos h0]
      refine Or.inl ⟨T, τ, rfl, F, W, hT, ok, H.2.1, fun u Q l1 l2 => ?_⟩
      rw [x184_9]
      simp (disch := first | omega | exact notL_I | exact notL_N | exact notL_R | exact oM | exact catS_le (Nat.le_of_ble_eq_true rfl) | exact Nat.le_of_ble_eq_true rfl | rfl) only [x184_0, x184_1, x184_2, x184_5, x184_6, x184_10, x184_13, x184_16, x184_17, x184_18, x184_19, x184_22, x184_23, x184_26, x184_27, x184_30, x184_31, x184_32, x184_33, x184_36, x184_37, x184_40, x184_41, x184_44, x184_45, x184_48, x184_49, x184_52, x184_53, x184_56, x184_57, x184_60, x184_61, x184_64, x184_65, x184_68, x184_69, x184_72, x184_73, x184_74, x184_75, x184_78, x184_81, x184_82, x184_85, x184_86, x184_89, x184_90, x184_91, x184_93, x184_96, x184_97, x184_98, x184_99, x184_102, x184_105, x184_106, x184_109, x184_110, x184_111, x184_112, x184_115, x184_116, x184_117, x184_120, x184_122, x184_125, x184_126, x184_127, x184_128, x184_131, x184_132, x184_133, x184_134, x184_135, x184_138, x184_139, x184_142, x184_143, x184_144, x184_145, x184_148, x184_149, gM_token, t1, h0, if_pos, if_neg, ↓reduceIte, not_true_eq_false, not_false_eq_true]
    rw [if_neg h0]
    -- going on
    have go : ∀ (T' : Tx) (s' : Ps) (ρ : St), pieP (nxT (σ 386) (σ 373 14)) T s = .inr (T', s') → Fx σ ρ → WfM ρ → hlR ρ 4 = HxT T' → TxOk T' → PcI ρ s' → (∀ (u : Bool × Nat × Nat × Int) (Q : Rs → HS → Prop) (l1 l2 : Option V), ∃ l1' l2', Ex sc d 184 9 [some (vR 373), l1, l2] [] (wH τ u) Q ↔ Ex sc d 184 9 [some (vR 373), l1', l2'] [] (wH ρ u) Q) →
        (∃ T' ρ, (andP (pieP (nxT (σ 386) (σ 373 14)) T s) fun q => txtP (nxT (σ 386) (σ 373 14)) f q.1 q.2) = .inr T' ∧ Fx σ ρ ∧ WfM ρ ∧ hlR ρ 4 = HxT T' ∧ TxOk T' ∧ ρ 373 18 = 0 ∧ ∀ (u : Bool × Nat × Nat × Int) (Q : Rs → HS → Prop) (l1 l2 : Option V), Ex sc d 184 9 [some (vR 373), l1, l2] [] (wH τ u) Q ↔ Q (.inl (some (vI (1)))) (wH ρ u)) ∨
        (∃ e ρ, (andP (pieP (nxT (σ 386) (σ 373 14)) T s) fun q => txtP (nxT (σ 386) (σ 373 14)) f q.1 q.2) = .inl e ∧ Fx σ ρ ∧ WfM ρ ∧ BdI ρ e ∧ ∀ (u : Bool × Nat × Nat × Int) (Q : Rs → HS → Prop) (l1 l2 : Option V), Ex sc d 184 9 [some (vR 373), l1, l2] [] (wH τ u) Q ↔ Q (.inl (some (vI (0)))) (wH ρ u)) := by
      intro T' s' ρ hp Fr Wr hv ho Hc run
      have pm := pie_m (nxM_T (f := σ 386) (n := σ 373 14)) tp h0 hp
      rw [hp, andP_r]
      have pm2 : s.2.1 < s'.2.1 := pm.2
      rcases ih T' s' ρ (by omega) Fr Wr hv ho Hc pm.1 with ⟨T2, ρ2, a1, a2, a3, a4, a5, a6, a7⟩ | ⟨e, ρ2, a1, a2, a3, a4, a5⟩
      · refine Or.inl ⟨T2, ρ2, a1, a2, a3, a4, a5, a6, fun u Q l1 l2 => ?_⟩
        obtain ⟨l1', l2', r1⟩ := run u Q l1 l2
        exact r1.trans (a7 u Q l1' l2')
      · refine Or.inr ⟨e, ρ2, a1, a2, a3, a4, fun u Q l1 l2 => ?_⟩
        obtain ⟨l1', l2', r1⟩ := run u Q l1 l2
        exact r1.trans (a5 u Q l1' l2')
    have rm4 : ∀ ρ : St, WfM ρ → 0 ≤ ρ 375 4 ∧ ρ 375 4 ≤ 10 := fun ρ Wr => Wr.rm (by omega) (by omega)
    have add0 : ∀ ρ : St, su ρ 375 4 (ρ 375 4 + 0) = ρ := fun ρ => by rw [Int.add_zero]; exact su_self
    by_cases h2 : s.1 = 2
    · have ep : pieP (nxT (σ 386) (σ 373 14)) T s = tblP (nxT (σ 386) (σ 373 14)) T (nxT (σ 386) (σ 373 14) s.2.2) := by unfold pieP; rw [if_pos h2]
      have tb := s_tableT (sc := sc) (d := d - 1) (σ := τ) (T := T) (s0 := s) (by omega) W hT ok H
      rw [F.tx.1, F.tx.2, ← ep] at tb
      rcases tb with ⟨T', s', ρ, q1, q2, q3, q4, q5, q6, q7, q8⟩ | ⟨e, ρ, q1, q2, q3, q4, q5⟩
      · refine go T' s' ρ q1 (F.trans q2) q3 q5 q6 q4 (fun u Q l1 l2 => ⟨some (vI 1), some (vI 0), ?_⟩)
        have r4 := rm4 ρ q3
        rw [x184_9]
        simp (disch := first | omega | exact notL_I | exact notL_N | exact notL_R | exact oM | exact catS_le (Nat.le_of_ble_eq_true rfl) | exact Nat.le_of_ble_eq_true rfl | rfl) only [x184_0, x184_1, x184_2, x184_5, x184_6, x184_10, x184_13, x184_16, x184_17, x184_18, x184_19, x184_22, x184_23, x184_26, x184_27, x184_30, x184_31, x184_32, x184_33, x184_36, x184_37, x184_40, x184_41, x184_44, x184_45, x184_48, x184_49, x184_52, x184_53, x184_56, x184_57, x184_60, x184_61, x184_64, x184_65, x184_68, x184_69, x184_72, x184_73, x184_74, x184_75, x184_78, x184_81, x184_82, x184_85, x184_86, x184_89, x184_90, x184_91, x184_93, x184_96, x184_97, x184_98, x184_99, x184_102, x184_105, x184_106, x184_109, x184_110, x184_111, x184_112, x184_115, x184_116, x184_117, x184_120, x184_121, x184_122, x184_125, x184_126, x184_127, x184_128, x184_131, x184_132, x184_133, x184_134, x184_135, x184_138, x184_139, x184_142, x184_143, x184_144, x184_145, x184_148, x184_149, gM_token, t1, h2, q8 u, gM_ruleMany, RM_ruleMany, WM_ruleMany, add0, Kc_some, if_pos, if_neg, ↓reduceIte, not_true_eq_false, not_false_eq_true]
      · rw [q1, andP_l]
        refine Or.inr ⟨e, ρ, rfl, F.trans q2, q3, q4, fun u Q l1 l2 => ?_⟩
        rw [x184_9]
        simp (disch := first | omega | exact notL_I | exact notL_N | exact notL_R | exact oM | exact catS_le (Nat.le_of_ble_eq_true rfl) | exact Nat.le_of_ble_eq_true rfl | rfl) only [x184_0, x184_1, x184_2, x184_5, x184_6, x184_10, x184_13, x184_16, x184_17, x184_18, x184_19, x184_22, x184_23, x184_26, x184_27, x184_30, x184_31, x184_32, x184_33, x184_36, x184_37, x184_40, x184_41, x184_44, x184_45, x184_48, x184_49, x184_52, x184_53, x184_56, x184_57, x184_60, x184_61, x184_64, x184_65, x184_68, x184_69, x184_72, x184_73, x184_74, x184_75, x184_78, x184_81, x184_82, x184_85, x184_86, x184_89, x184_90, x184_91, x184_93, x184_96, x184_97, x184_98, x184_99, x184_102, x184_105, x184_106, x184_109, x184_110, x184_111, x184_112, x184_115, x184_116, x184_117, x184_120, x184_121, x184_122, x184_125, x184_126, x184_127, x184_128, x184_131, x184_132, x184_133, x184_134, x184_135, x184_138, x184_139, x184_142, x184_143, x184_144, x184_145, x184_148, x184_149, gM_token, t1, h2, q5 u, Kc_some, if_pos, if_neg, ↓reduceIte, not_true_eq_false, not_false_eq_true]
    by_cases h3 : s.1 = 3
    · have ep : pieP (nxT (σ 386) (σ 373 14)) T s = rowP (nxT (σ 386) (σ 373 14)) T (nxT (σ 386) (σ 373 14) s.2.2) := by unfold pieP; rw [if_neg h2, if_pos h3]
      have tb := s_rowT (sc := sc) (d := d - 1) (σ := τ) (T := T) (s0 := s) (by omega) W hT ok H
      rw [F.tx.1, F.tx.2, ← ep] at tb
      rcases tb with ⟨T', s', ρ, q1, q2, q3, q4, q5, q6, q7, q8⟩ | ⟨e, ρ, q1, q2, q3, q4, q5⟩
      · refine go T' s' ρ q1 (F.trans q2) q3 q5 q6 q4 (fun u Q l1 l2 => ⟨some (vI 1), some (vI 0), ?_⟩)
        have r4 := rm4 ρ q3
        rw [x184_9]
        simp (disch := first | omega | exact notL_I | exact notL_N | exact notL_R | exact oM | exact catS_le (Nat.le_of_ble_eq_true rfl) | exact Nat.le_of_ble_eq_true rfl | rfl) only [x184_0, x184_1, x184_2, x184_5, x184_6, x184_10, x184_13, x184_16, x184_17, x184_18, x184_19, x184_22, x184_23, x184_26, x184_27, x184_30, x184_31, x184_32, x184_33, x184_36, x184_37, x184_40, x184_41, x184_44, x184_45, x184_48, x184_49, x184_52, x184_53, x184_56, x184_57, x184_60, x184_61, x184_64, x184_65, x184_68, x184_69, x184_72, x184_73, x184_74, x184_75, x184_78, x184_81, x184_82, x184_85, x184_86, x184_89, x184_90, x184_91, x184_93, x184_96, x184_97, x184_98, x184_99, x184_102, x184_105, x184_106, x184_109, x184_110, x184_111, x184_112, x184_115, x184_116, x184_117, x184_120, x184_121, x184_122, x184_125, x184_126, x184_127, x184_128, x184_131, x184_132, x184_133, x184_134, x184_135, x184_138, x184_139, x184_142, x184_143, x184_144, x184_145, x184_148, x184_149, gM_token, t1, h3, q8 u, gM_ruleMany, RM_ruleMany, WM_ruleMany, add0, Kc_some, if_pos, if_neg, ↓reduceIte, not_true_eq_false, not_false_eq_true]
      · rw [q1, andP_l]
        refine Or.inr ⟨e, ρ, rfl, F.trans q2, q3, q4, fun u Q l1 l2 => ?_⟩
        rw [x184_9]
        simp (disch := first | omega | exact notL_I | exact notL_N | exact notL_R | exact oM | exact catS_le (Nat.le_of_ble_eq_true rfl) | exact Nat.le_of_ble_eq_true rfl | rfl) only [x184_0, x184_1, x184_2, x184_5, x184_6, x184_10, x184_13, x184_16, x184_17, x184_18, x184_19, x184_22, x184_23, x184_26, x184_27, x184_30, x184_31, x184_32, x184_33, x184_36, x184_37, x184_40, x184_41, x184_44, x184_45, x184_48, x184_49, x184_52, x184_53, x184_56, x184_57, x184_60, x184_61, x184_64, x184_65, x184_68, x184_69, x184_72, x184_73, x184_74, x184_75, x184_78, x184_81, x184_82, x184_85, x184_86, x184_89, x184_90, x184_91, x184_93, x184_96, x184_97, x184_98, x184_99, x184_102, x184_105, x184_106, x184_109, x184_110, x184_111, x184_112, x184_115, x184_116, x184_117, x184_120, x184_121, x184_122, x184_125, x184_126, x184_127, x184_128, x184_131, x184_132, x184_133, x184_134, x184_135, x184_138, x184_139, x184_142, x184_143, x184_144, x184_145, x184_148, x184_149, gM_token, t1, h3, q5 u, Kc_some, if_pos, if_neg, ↓reduceIte, not_true_eq_false, not_false_eq_true]
    by_cases h4 : s.1 = 4
    case neg =>
      have ep : pieP (nxT (σ 386) (σ 373 14)) T s = .inl (1, s.2.1) := by unfold pieP; rw [if_neg h2, if_neg h3, if_neg h4]
      have bd := fun u Q => s_bad (sc := sc) (d := d - 1) (σ := τ) (k := 1) (p := s.2.1) H.2.1 u Q
      rw [ep, andP_l]
      refine Or.inr ⟨_, _, rfl, F.trans bad_v.1.x, bad_v.1.dt.wf W, bad_v.2, fun u Q l1 l2 => ?_⟩
      rw [x184_9]
      simp (disch := first | omega | exact notL_I | exact notL_N | exact notL_R | exact oM | exact catS_le (Nat.le_of_ble_eq_true rfl) | exact Nat.le_of_ble_eq_true rfl | rfl) only [x184_0, x184_1, x184_2, x184_5, x184_6, x184_10, x184_13, x184_16, x184_17, x184_18, x184_19, x184_22, x184_23, x184_26, x184_27, x184_30, x184_31, x184_32, x184_33, x184_36, x184_37, x184_40, x184_41, x184_44, x184_45, x184_48, x184_49, x184_52, x184_53, x184_56, x184_57, x184_60, x184_61, x184_64, x184_65, x184_68, x184_69, x184_72, x184_73, x184_74, x184_75, x184_78, x184_81, x184_82, x184_85, x184_86, x184_89, x184_90, x184_91, x184_93, x184_96, x184_97, x184_98, x184_99, x184_102, x184_105, x184_106, x184_109, x184_110, x184_111, x184_112, x184_115, x184_116, x184_117, x184_120, x184_121, x184_122, x184_125, x184_126, x184_127, x184_128, x184_131, x184_132, x184_133, x184_134, x184_135, x184_138, x184_139, x184_142, x184_143, x184_144, x184_145, x184_148, x184_149, gM_token, gM_tokenAt, t1, H.1.2.1, bd, Kc_some, if_pos, if_neg, ↓reduceIte, not_true_eq_false, not_false_eq_true]
    have L : rlR τ 4 = T.2.1 := congrArg (fun x : Hl => x.2.1) hT
    have C : coR τ 4 = T.1 := congrArg (fun x : Hl => x.1) hT
    have r4 := rm4 τ W
    have ln := rlR_len (σ := τ) (h := 4) r4.1
    rw [L] at ln
    by_cases h10 : T.2.1.length = 10
    · have ep : pieP (nxT (σ 386) (σ 373 14)) T s = .inl (4, s.2.1) := by unfold pieP; rw [if_neg h2, if_neg h3, if_pos h4, if_pos h10]
      have bd := fun u Q => s_bad (sc := sc) (d := d - 1) (σ := τ) (k := 4) (p := s.2.1) H.2.1 u Q
      have e10 : τ 375 4 = 10 := by omega
      rw [ep, andP_l]
      refine Or.inr ⟨_, _, rfl, F.trans bad_v.1.x, bad_v.1.dt.wf W, bad_v.2, fun u Q l1 l2 => ?_⟩
      rw [x184_9]
      simp (disch := first | omega | exact notL_I | exact notL_N | exact notL_R | exact oM | exact catS_le (Nat.le_of_ble_eq_true rfl) | exact Nat.le_of_ble_eq_true rfl | rfl) only [x184_0, x184_1, x184_2, x184_5, x184_6, x184_10, x184_13, x184_16, x184_17, x184_18, x184_19, x184_22, x184_23, x184_26, x184_27, x184_30, x184_31, x184_32, x184_33, x184_36, x184_37, x184_40, x184_41, x184_44, x184_45, x184_48, x184_49, x184_52, x184_53, x184_56, x184_57, x184_60, x184_61, x184_64, x184_65, x184_68, x184_69, x184_72, x184_73, x184_74, x184_75, x184_78, x184_81, x184_82, x184_85, x184_86, x184_89, x184_90, x184_91, x184_93, x184_96, x184_97, x184_98, x184_99, x184_102, x184_105, x184_106, x184_109, x184_110, x184_111, x184_112, x184_115, x184_116, x184_117, x184_120, x184_121, x184_122, x184_125, x184_126, x184_127, x184_128, x184_131, x184_132, x184_133, x184_134, x184_135, x184_138, x184_139, x184_142, x184_143, x184_144, x184_145, x184_148, x184_149, gM_token, gM_tokenAt, t1, h4, H.1.2.1, gM_ruleMany, RM_ruleMany, e10, bd, Kc_some, if_pos, if_neg, ↓reduceIte, not_true_eq_false, not_false_eq_true]
    have ep : pieP (nxT (σ 386) (σ 373 14)) T s = andP (rulP (nxT (σ 386) (σ 373 14)) T.1 (nxT (σ 386) (σ 373 14) s.2.2)) fun q => .inr ((T.1, T.2.1 ++ [q.1], T.2.2), q.2) := by unfold pieP; rw [if_neg h2, if_neg h3, if_pos h4, if_neg h10]
    have rt := s_ruleT (sc := sc) (d := d - 1) (σ := τ) (h := 4) (r := τ 375 4) (s0 := s) (by omega) W (by omega) (by omega) (by omega) (by omega) H
    rw [F.tx.1, F.tx.2, C] at rt
    rcases rt with ⟨q, s', ρ, q1, q2, q3, q4, q5, q6, q7⟩ | ⟨e, ρ, q1, q2, q3, q4, q5⟩
    · obtain ⟨k1, k2, k3⟩ := rule_keep q2 W q3 rfl (by omega) q5
      rw [hT] at k3
      have e75 : ρ 375 4 = τ 375 4 := by rw [q2.1 375 (by omega) (by omega) (by omega)]
      refine go (T.1, T.2.1 ++ [q], T.2.2) s' _ (by rw [ep, q1, andP_r]) (F.trans k2) k1 k3 ?_ ?_ (fun u Q l1 l2 => ⟨some (vI 1), some (vI 1), ?_⟩)
      · obtain ⟨o1, o2, o3, o4, o5, o6, o7⟩ := ok
        refine ⟨o1, o2, fun x hx => ?_, ?_, o5, o6, o7⟩
        · rcases List.mem_append.mp hx with h | h
          · exact o3 x h
          · rw [List.mem_singleton.mp h]
            exact q6
        · show (T.2.1 ++ [q]).length ≤ 10
          rw [List.length_append, List.length_singleton]
          omega
      · unfold PcI PsI
        rw [su_ne (by omega)]
        exact q4
      · have n10 : ¬ τ 375 4 = 10 := by omega
        rw [x184_9]
        simp (disch := first | omega | exact notL_I | exact notL_N | exact notL_R | exact oM | exact catS_le (Nat.le_of_ble_eq_true rfl) | exact Nat.le_of_ble_eq_true rfl | rfl) only [x184_0, x184_1, x184_2, x184_5, x184_6, x184_10, x184_13, x184_16, x184_17, x184_18, x184_19, x184_22, x184_23, x184_26, x184_27, x184_30, x184_31, x184_32, x184_33, x184_36, x184_37, x184_40, x184_41, x184_44, x184_45, x184_48, x184_49, x184_52, x184_53, x184_56, x184_57, x184_60, x184_61, x184_64, x184_65, x184_68, x184_69, x184_72, x184_73, x184_74, x184_75, x184_78, x184_81, x184_82, x184_85, x184_86, x184_89, x184_90, x184_91, x184_93, x184_96, x184_97, x184_98, x184_99, x184_102, x184_105, x184_106, x184_109, x184_110, x184_111, x184_112, x184_115, x184_116, x184_117, x184_120, x184_121, x184_122, x184_125, x184_126, x184_127, x184_128, x184_131, x184_132, x184_133, x184_134, x184_135, x184_138, x184_139, x184_142, x184_143, x184_144, x184_145, x184_148, x184_149, gM_token, t1, h4, q7 u, gM_ruleMany, RM_ruleMany, WM_ruleMany, e75, Kc_some, if_pos, if_neg, ↓reduceIte, not_true_eq_false, not_false_eq_true]
    · rw [ep, q1, andP_l, andP_l]
      have n10 : ¬ τ 375 4 = 10 := by omega
      refine Or.inr ⟨e, ρ, rfl, F.trans (q2.x4 r4.1), q3, q4, fun u Q l1 l2 => ?_⟩
      rw [x184_9]
      simp (disch := first | omega | exact notL_I | exact notL_N | exact notL_R | exact oM | exact catS_le (Nat.le_of_ble_eq_true rfl) | exact Nat.le_of_ble_eq_true rfl | rfl) only [x184_0, x184_1, x184_2, x184_5, x184_6, x184_10, x184_13, x184_16, x184_17, x184_18, x184_19, x184_22, x184_23, x184_26, x184_27, x184_30, x184_31, x184_32, x184_33, x184_36, x184_37, x184_40, x184_41, x184_44, x184_45, x184_48, x184_49, x184_52, x184_53, x184_56, x184_57, x184_60, x184_61, x184_64, x184_65, x184_68, x184_69, x184_72, x184_73, x184_74, x184_75, x184_78, x184_81, x184_82, x184_85, x184_86, x184_89, x184_90, x184_91, x184_93, x184_96, x184_97, x184_98, x184_99, x184_102, x184_105, x184_106, x184_109, x184_110, x184_111, x184_112, x184_115, x184_116, x184_117, x184_120, x184_121, x184_122, x184_125, x184_126, x184_127, x184_128, x184_131, x184_132, x184_133, x184_134, x184_135, x184_138, x184_139, x184_142, x184_143, x184_144, x184_145, x184_148, x184_149, gM_token, t1, h4, gM_ruleMany, RM_ruleMany, q5 u, Kc_some, if_pos, if_neg, ↓reduceIte, not_true_eq_false, not_false_eq_true]
end L9
