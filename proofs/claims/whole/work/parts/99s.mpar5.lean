/-! the reference reads: a rule -/
def Fpr (h r : Int) (σ τ : St) : Prop := (∀ c, c ≠ 373 → c ≠ 376 → c ≠ 387 → τ c = σ c) ∧ (∀ j, j < 15 ∨ 19 < j → j ≠ 22 → τ 373 j = σ 373 j) ∧ ∀ k, k < 30 * (10 * h + r) ∨ 30 * (10 * h + r) + 30 ≤ k → τ 376 k = σ 376 k
section L5
variable {h r sd : Int}
theorem Fpr.refl {σ : St} : Fpr h r σ σ := ⟨fun _ _ _ _ => rfl, fun _ _ _ => rfl, fun _ _ => rfl⟩
theorem Fpr.trans {σ τ ρ : St} (h1 : Fpr h r σ τ) (h2 : Fpr h r τ ρ) : Fpr h r σ ρ := ⟨fun c a b e => (h2.1 c a b e).trans (h1.1 c a b e), fun j a b => (h2.2.1 j a b).trans (h1.2.1 j a b), fun k a => (h2.2.2 k a).trans (h1.2.2 k a)⟩
theorem Fpa.pr {σ τ : St} (h1 : Fpa σ τ) : Fpr h r σ τ := ⟨fun c a _ b => h1.1 c a b, h1.2, fun k _ => by rw [h1.1 376 (by omega) (by omega)]⟩
theorem Fpb.pr {σ τ : St} (h1 : Fpb h r sd σ τ) : Fpr h r σ τ := ⟨h1.1, h1.2.1, fun k hk => h1.2.2 k (fun f f0 f1 _ => by omega)⟩
theorem Fpr.su_ {σ : St} {f v : Int} (f0 : 0 ≤ f) (f1 : f ≤ 29) : Fpr h r σ (su σ 376 (30 * (10 * h + r) + f) v) := ⟨fun c _ a _ => su_ne a, fun j _ _ => by rw [su_ne (by omega)], fun k hk => su_off (by omega)⟩
theorem Fpr.tx {σ τ : St} (F : Fpr h r σ τ) : τ 386 = σ 386 ∧ τ 373 14 = σ 373 14 := ⟨F.1 386 (by omega) (by omega) (by omega), F.2.1 14 (by omega) (by omega)⟩
theorem Fpr.co {σ τ : St} (F : Fpr h r σ τ) {g : Int} : coR τ g = coR σ g := by
  unfold coR
  rw [F.1 374 (by omega) (by omega) (by omega)]
theorem PcI.su6 {σ : St} {s : Ps} {k v : Int} (H : PcI σ s) : PcI (su σ 376 k v) s := by
  unfold PcI PsI
  rw [su_ne (by omega)]
  exact H
/-- atoms of a side where nothing of them changes -/
theorem ats_keep {σ τ : St} (e4 : τ 374 = σ 374) (e6 : ∀ f, 3 + 12 * sd ≤ f → f < 15 + 12 * sd → τ 376 (30 * (10 * h + r) + f) = σ 376 (30 * (10 * h + r) + f)) : ∀ (k : Nat) (i : Int), 0 ≤ i → i + k ≤ 3 → atsF τ h r sd k i = atsF σ h r sd k i := by
  intro k
  induction k with
  | zero => intro i _ _; rfl
  | succ k ih =>
    intro i i0 ik
    rw [atsF, atsF, ih (i + 1) (by omega) (by omega)]
    congr 1
    unfold atR
    rw [e4, e6 _ (by omega) (by omega), e6 _ (by omega) (by omega), e6 _ (by omega) (by omega), e6 _ (by omega) (by omega)]
end L5
section L6
variable {sc : Scr} {d : Nat} {σ : St} {h r : Int}
theorem s_melting {f : Int} {s : Ps} {as : List At} (hd : 4 ≤ d) (W : WfM σ) (h1 : 0 ≤ h) (h2 : h ≤ 4) (r1 : 0 ≤ r) (r2 : r ≤ 9) (hf : f = 27 ∨ f = 28) (H : PcI σ s) (ha : atC σ h r 0 (σ 376 (30 * (10 * h + r)))) (has : atsF σ h r 0 (σ 376 (30 * (10 * h + r))).toNat 0 = as) :
    (∃ v s' ρ, sideP (nxT (σ 386) (σ 373 14)) as s = .inr (v, s') ∧ isPl v ∧ (2000 ≤ v → mentL as v = true) ∧ Ft (su σ 376 (30 * (10 * h + r) + f) v) ρ ∧ PcI ρ s' ∧ RnA sc d 209 0 [some (vR 373), some (vI h), some (vI r), some (vI f), none, none] σ (some (vI 1)) ρ) ∨
    (∃ e ρ, sideP (nxT (σ 386) (σ 373 14)) as s = .inl e ∧ Fpa σ ρ ∧ BdI ρ e ∧ RnA sc d 209 0 [some (vR 373), some (vI h), some (vI r), some (vI f), none, none] σ (some (vI 0)) ρ) := by
  obtain ⟨⟨p1, p2, p3⟩, hw, q0, q1, q2⟩ := H
  have isn := s_isNum (sc := sc) (d := d - 1) (by omega) p1 q0
  have isv := fun u Q => s_isIn (sc := sc) (σ := σ) (u := u) (Q := Q) (d := d - 1) (v := s.1) (a := 200) (b := 225) ⟨by omega, by omega⟩ ⟨by decide, by decide⟩ ⟨by decide, by decide⟩
  have ctx : PcI σ s := ⟨⟨p1, p2, p3⟩, hw, q0, q1, q2⟩
  have good : ∀ v, isPl v → (∃ ρ, Ft (su σ 376 (30 * (10 * h + r) + f) v) ρ ∧ PcI ρ (nxT (σ 386) (σ 373 14) s.2.2) ∧ RnA sc (d - 1) 186 0 [some (vR 373), none, none, none, none] (su σ 376 (30 * (10 * h + r) + f) v) none ρ) := by
    intro v hv
    have Wv := W.su6 (i := 10 * h + r) (f := f) (v := v) (by omega) (by omega) (by omega) (by omega) ⟨fun z => by omega, fun z => by omega, fun _ => hv, fun _ z => by omega, fun _ z => by omega⟩
    obtain ⟨τ, z1, z2, z3⟩ := s_lookP (sc := sc) (d := d - 1) (by omega) Wv (ctx.su6 (k := 30 * (10 * h + r) + f) (v := v))
    rw [su_ne (by omega), su_ne (by omega)] at z2
    exact ⟨τ, z1, z2, z3⟩
  unfold sideP
  by_cases hN : 300 ≤ s.1 ∧ s.1 ≤ 399
  · rw [if_pos hN]
    simp only [if_pos hN] at isn
    simp only [if_neg (show ¬ (200 ≤ s.1 ∧ s.1 ≤ 225) by omega)] at isv
    have hv : isPl (s.1 - 300) := Or.inl ⟨by omega, by omega⟩
    obtain ⟨ρ, z1, z2, z3⟩ := good _ hv
    refine Or.inl ⟨_, _, ρ, rfl, hv, fun z => by omega, z1, z2, fun u Q => ?_⟩
    simp (disch := first | omega | exact notL_I | exact notL_N | exact notL_R | exact oM | exact catS_le (Nat.le_of_ble_eq_true rfl) | exact Nat.le_of_ble_eq_true rfl | rfl) only [x209_0, x209_1, x209_4, x209_7, x209_10, x209_13, x209_15, x209_16, x209_19, x209_22, x209_24, x209_27, x209_28, x209_29, x209_30, x209_33, x209_36, x209_37, x209_39, x209_42, x209_45, x209_46, x209_49, x209_50, x209_53, x209_54, x209_57, x209_58, x209_61, x209_64, x209_65, x209_67, x209_69, x209_72, x209_73, x209_74, x209_75, x209_77, x209_80, x209_83, x209_84, x209_85, x209_86, x209_89, x209_92, x209_93, x209_94, x209_95, x209_96, x209_97, x209_99, x209_102, x209_103, x209_106, x209_107, gM_token, p1, isv, isn, s_setRule, z3 u, Kc_some, Kc_none, if_pos, if_neg, ↓reduceIte, not_true_eq_false, not_false_eq_true]
  · rw [if_neg hN]
    simp only [if_neg hN] at isn
    by_cases hV : 200 ≤ s.1 ∧ s.1 ≤ 225
    · rw [if_pos hV]
      simp only [if_pos hV] at isv
      have ah := fun u Q => s_isAh (sc := sc) (σ := σ) (u := u) (Q := Q) (d := d - 1) (v := 2000 + (s.1 - 200)) (by omega) W h1 h2 r1 r2 ⟨by omega, by omega⟩ (by omega) ha
      rw [has] at ah
      have ev : 2000 + s.1 - 200 = 2000 + (s.1 - 200) := by omega
      cases hm : mentL as (2000 + (s.1 - 200)) with
      | true =>
        rw [if_pos rfl]
        rw [hm, bI_t] at ah
        have hv : isPl (2000 + (s.1 - 200)) := Or.inr ⟨by omega, by omega⟩
        obtain ⟨ρ, z1, z2, z3⟩ := good _ hv
        refine Or.inl ⟨_, _, ρ, rfl, hv, fun _ => hm, z1, z2, fun u Q => ?_⟩
        simp (disch := first | omega | exact notL_I | exact notL_N | exact notL_R | exact oM | exact catS_le (Nat.le_of_ble_eq_true rfl) | exact Nat.le_of_ble_eq_true rfl | rfl) only [x209_0, x209_1, x209_4, x209_7, x209_10, x209_13, x209_15, x209_16, x209_19, x209_22, x209_24, x209_27, x209_28, x209_29, x209_30, x209_33, x209_36, x209_37, x209_39, x209_42, x209_45, x209_46, x209_49, x209_50, x209_53, x209_54, x209_57, x209_58, x209_61, x209_64, x209_65, x209_67, x209_69, x209_72, x209_73, x209_74, x209_75, x209_77, x209_80, x209_83, x209_84, x209_85, x209_86, x209_89, x209_92, x209_93, x209_94, x209_95, x209_96, x209_97, x209_99, x209_102, x209_103, x209_106, x209_107, gM_token, p1, isv, isn, ev, ah, s_setRule, z3 u, Kc_some, Kc_none, if_pos, if_neg, ↓reduceIte, not_true_eq_false, not_false_eq_true]
      | false =>
        rw [if_neg (by simp)]
        rw [hm, bI_f] at ah
        have bd := fun u Q => s_bad (sc := sc) (d := d - 1) (σ := σ) (k := 5) (p := s.2.1) hw u Q
        refine Or.inr ⟨_, _, rfl, bad_v.1, bad_v.2, fun u Q => ?_⟩
        simp (disch := first | omega | exact notL_I | exact notL_N | exact notL_R | exact oM | exact catS_le (Nat.le_of_ble_eq_true rfl) | exact Nat.le_of_ble_eq_true rfl | rfl) only [x209_0, x209_1, x209_4, x209_7, x209_10, x209_13, x209_15, x209_16, x209_19, x209_22, x209_24, x209_27, x209_28, x209_29, x209_30, x209_33, x209_36, x209_37, x209_39, x209_42, x209_45, x209_46, x209_49, x209_50, x209_53, x209_54, x209_57, x209_58, x209_61, x209_64, x209_65, x209_67, x209_69, x209_72, x209_73, x209_74, x209_75, x209_77, x209_80, x209_83, x209_84, x209_85, x209_86, x209_89, x209_92, x209_93, x209_94, x209_95, x209_96, x209_97, x209_99, x209_102, x209_103, x209_106, x209_107, gM_token, gM_tokenAt, p1, p2, isv, isn, ev, ah, bd, Kc_some, Kc_none, if_pos, if_neg, ↓reduceIte, not_true_eq_false, not_false_eq_true]
    · rw [if_neg hV]
      simp only [if_neg hV] at isv
      have bd := fun u Q => s_bad (sc := sc) (d := d - 1) (σ := σ) (k := 1) (p := s.2.1) hw u Q
      refine Or.inr ⟨_, _, rfl, bad_v.1, bad_v.2, fun u Q => ?_⟩
      simp (disch := first | omega | exact notL_I | exact notL_N | exact notL_R | exact oM | exact catS_le (Nat.le_of_ble_eq_true rfl) | exact Nat.le_of_ble_eq_true rfl | rfl) only [x209_0, x209_1, x209_4, x209_7, x209_10, x209_13, x209_15, x209_16, x209_19, x209_22, x209_24, x209_27, x209_28, x209_29, x209_30, x209_33, x209_36, x209_37, x209_39, x209_42, x209_45, x209_46, x209_49, x209_50, x209_53, x209_54, x209_57, x209_58, x209_61, x209_64, x209_65, x209_67, x209_69, x209_72, x209_73, x209_74, x209_75, x209_77, x209_80, x209_83, x209_84, x209_85, x209_86, x209_89, x209_92, x209_93, x209_94, x209_95, x209_96, x209_97, x209_99, x209_102, x209_103, x209_106, x209_107, gM_token, gM_tokenAt, p1, p2, isv, isn, bd, Kc_some, Kc_none, if_pos, if_neg, ↓reduceIte, not_true_eq_false, not_false_eq_true]
theorem s_needR {c : Int} {s : Ps} {τ0 : St} (hd : 4 ≤ d) (W : WfM σ) (H : PcI σ s) (c0 : 0 ≤ c ∧ c ≤ 255) (e1 : σ 386 = τ0 386) (e2 : σ 373 14 = τ0 373 14) :
    (∃ s' τ, needP (nxT (τ0 386) (τ0 373 14)) c s = .inr s' ∧ Ft σ τ ∧ PcI τ s' ∧ RnA sc d 196 0 [some (vR 373), some (vI c)] σ (some (vI 1)) τ) ∨ (∃ e τ, needP (nxT (τ0 386) (τ0 373 14)) c s = .inl e ∧ Fpa σ τ ∧ BdI τ e ∧ RnA sc d 196 0 [some (vR 373), some (vI c)] σ (some (vI 0)) τ) := by
  have := s_need (sc := sc) (d := d) hd W H c0
  rw [e1, e2] at this
  exact this
set_option maxHeartbeats 2000000 in
theorem s_ruleT {s0 : Ps} (hd : 7 ≤ d) (W : WfM σ) (h1 : 0 ≤ h) (h2 : h ≤ 4) (r1 : 0 ≤ r) (r2 : r ≤ 9) (H : PcI σ s0) :
    (∃ q s' ρ, rulP (nxT (σ 386) (σ 373 14)) (coR σ h) (nxT (σ 386) (σ 373 14) s0.2.2) = .inr (q, s') ∧ Fpr h r σ ρ ∧ WfM ρ ∧ PcI ρ s' ∧ ruR ρ h r = q ∧ okRl (coR σ h) q ∧ RnA sc d 206 0 [some (vR 373), some (vI h), some (vI r)] σ (some (vI 1)) ρ) ∨
    (∃ e ρ, rulP (nxT (σ 386) (σ 373 14)) (coR σ h) (nxT (σ 386) (σ 373 14) s0.2.2) = .inl e ∧ Fpr h r σ ρ ∧ WfM ρ ∧ BdI ρ e ∧ RnA sc d 206 0 [some (vR 373), some (vI h), some (vI r)] σ (some (vI 0)) ρ) := by
  have ob : ∀ i : Int, i = 10 * h + r → 0 ≤ i ∧ i < 50 := fun i hi => by omega
  obtain ⟨τ0, y1, y2, y3⟩ := s_lookP (sc := sc) (d := d - 1) (by omega) W H
  generalize nxT (σ 386) (σ 373 14) s0.2.2 = s at *
  have F0 : Fpr h r σ τ0 := y1.pa.pr
  have W0 := y1.dt.wf W
  have am := s_atm (sc := sc) (d := d - 1) (σ := τ0) (h := h) (r := r) (sd := 0) (most := 3) (s := s) (by omega) W0 h1 h2 r1 r2 (by omega) (by omega) (by omega) (by omega) y2
  rw [F0.tx.1, F0.tx.2, F0.co] at am
  have e3 : ((3 : Nat) : Int) = 3 := rfl
  rw [e3] at am
  unfold rulP
  rcases am with ⟨as, s1, τ1, q1, a1, a3, G1, W1, H1, c1, at1, x1⟩ | ⟨e, τ1, q1, G1, W1, B1, x1⟩
  case inr =>
    rw [q1]
    refine Or.inr ⟨e, τ1, rfl, F0.trans G1.pr, W1, B1, fun u Q => ?_⟩
    simp (disch := first | omega | exact notL_I | exact notL_N | exact notL_R | exact oM | exact catS_le (Nat.le_of_ble_eq_true rfl) | exact Nat.le_of_ble_eq_true rfl | rfl) only [x206_0, x206_1, x206_4, x206_5, x206_6, x206_7, x206_8, x206_9, x206_12, x206_15, x206_16, x206_18, x206_21, x206_23, x206_26, x206_27, x206_28, x206_29, x206_32, x206_35, x206_37, x206_40, x206_41, x206_42, x206_43, x206_44, x206_45, x206_48, x206_49, x206_52, x206_53, x206_56, x206_57, x206_58, x206_59, x206_60, x206_61, x206_64, x206_65, x206_68, x206_71, x206_72, x206_75, x206_77, x206_79, x206_82, x206_85, x206_86, x206_87, x206_88, x206_89, x206_90, x206_93, x206_94, x206_95, x206_96, x206_97, x206_98, x206_101, x206_104, x206_105, x206_106, x206_107, x206_108, x206_109, x206_110, x206_111, x206_114, x206_115, x206_116, x206_117, x206_119, x206_122, x206_125, x206_126, x206_128, x206_131, x206_134, x206_135, x206_136, x206_137, x206_139, x206_142, x206_145, x206_146, x206_148, x206_150, x206_153, y3 u, x1 u, Kc_some, Kc_none, if_pos, if_neg, ↓reduceIte, not_true_eq_false, not_false_eq_true]
  rw [q1]
  have F1 : Fpr h r σ τ1 := F0.trans G1.pr
  have z20 : 30 * (10 * h + r) + 2 * 0 = 30 * (10 * h + r) := by omega
  rw [z20] at c1
  have has := ats_of (ρ := τ1) (h := h) (r := r) (sd := 0) c1 (fun i a hi => (at1 i a hi).1)
  have oka : ∀ a ∈ as, okA (coR σ h) a := fun a ha => by
    obtain ⟨i, hi, ei⟩ := List.mem_iff_getElem.mp ha
    exact (at1 i a (by rw [List.getElem?_eq_getElem hi, ei])).2
  have run1 : ∀ (u : Bool × Nat × Nat × Int) (Q : Rs → HS → Prop), Ex sc d 206 0 [some (vR 373), some (vI h), some (vI r)] [] (wH σ u) Q ↔ Ex sc d 206 17 [some (vR 373), some (vI h), some (vI r)] [] (wH τ1 u) Q := by
    intro u Q
    simp (disch := first | omega | exact notL_I | exact notL_N | exact notL_R | exact oM | exact catS_le (Nat.le_of_ble_eq_true rfl) | exact Nat.le_of_ble_eq_true rfl | rfl) only [x206_0, x206_1, x206_4, x206_5, x206_6, x206_7, x206_8, x206_9, x206_12, x206_15, x206_16, x206_18, x206_21, x206_23, x206_26, x206_27, x206_28, x206_29, x206_32, x206_35, x206_37, x206_40, x206_41, x206_42, x206_43, x206_44, x206_45, x206_48, x206_49, x206_52, x206_53, x206_56, x206_57, x206_58, x206_59, x206_60, x206_61, x206_64, x206_65, x206_68, x206_71, x206_72, x206_75, x206_77, x206_79, x206_82, x206_85, x206_86, x206_87, x206_88, x206_89, x206_90, x206_93, x206_94, x206_95, x206_96, x206_97, x206_98, x206_101, x206_104, x206_105, x206_106, x206_107, x206_108, x206_109, x206_110, x206_111, x206_114, x206_115, x206_116, x206_117, x206_119, x206_122, x206_125, x206_126, x206_128, x206_131, x206_134, x206_135, x206_136, x206_137, x206_139, x206_142, x206_145, x206_146, x206_148, x206_150, x206_153, y3 u, x1 u, Kc_some, Kc_none, if_pos, if_neg, ↓reduceIte, not_true_eq_false, not_false_eq_true]
  have tk1 := H1.2.2.1
  -- the arrow
  by_cases h6 : s1.1 = 6
  case neg =>
    have bd := fun u Q => s_bad (sc := sc) (d := d - 1) (σ := τ1) (k := 1) (p := s1.2.1) H1.2.1 u Q
    refine Or.inr ⟨_, _, (show (if s1.1 = 6 then _ else (Sum.inl (1, s1.2.1) : Fa ⊕ (Ru × Ps))) = _ from if_neg h6), F1.trans bad_v.1.pr, bad_v.1.dt.wf W1, bad_v.2, fun u Q => ?_⟩
    rw [run1 u Q, x206_17]
    simp (disch := first | omega | exact notL_I | exact notL_N | exact notL_R | exact oM | exact catS_le (Nat.le_of_ble_eq_true rfl) | exact Nat.le_of_ble_eq_true rfl | rfl) only [x206_0, x206_1, x206_4, x206_5, x206_6, x206_7, x206_8, x206_9, x206_12, x206_15, x206_16, x206_18, x206_21, x206_23, x206_26, x206_27, x206_28, x206_29, x206_32, x206_35, x206_37, x206_40, x206_41, x206_42, x206_43, x206_44, x206_45, x206_48, x206_49, x206_52, x206_53, x206_56, x206_57, x206_58, x206_59, x206_60, x206_61, x206_64, x206_65, x206_68, x206_71, x206_72, x206_75, x206_77, x206_79, x206_82, x206_85, x206_86, x206_87, x206_88, x206_89, x206_90, x206_93, x206_94, x206_95, x206_96, x206_97, x206_98, x206_101, x206_104, x206_105, x206_106, x206_107, x206_108, x206_109, x206_110, x206_111, x206_114, x206_115, x206_116, x206_117, x206_119, x206_122, x206_125, x206_126, x206_128, x206_131, x206_134, x206_135, x206_136, x206_137, x206_139, x206_142, x206_145, x206_146, x206_148, x206_150, x206_153, gM_token, gM_tokenAt, H1.1.1, H1.1.2.1, bd, Kc_some, if_pos, if_neg, ↓reduceIte, not_true_eq_false, not_false_eq_true]
  obtain ⟨τ2, v1, v2, v3⟩ := s_lookP (sc := sc) (d := d - 1) (by omega) W1 H1
  rw [F1.tx.1, F1.tx.2] at v2
  have W2 := v1.dt.wf W1
  have F2 : Fpr h r σ τ2 := F1.trans v1.pa.pr
  have ok2 : fOk 2 0 := ⟨fun _ => by omega, fun z => by omega, fun z => by omega, fun z => by omega, fun z => by omega⟩
  have W3 := W2.su6 (i := 10 * h + r) (f := 2) (v := 0) (by omega) (by omega) (by omega) (by omega) ok2
  have F3 : Fpr h r σ (su τ2 376 (30 * (10 * h + r) + 2) 0) := F2.trans (Fpr.su_ (by omega) (by omega))
  have H3 := v2.su6 (k := 30 * (10 * h + r) + 2) (v := 0)
  have run3 : ∀ (u : Bool × Nat × Nat × Int) (Q : Rs → HS → Prop), Ex sc d 206 0 [some (vR 373), some (vI h), some (vI r)] [] (wH σ u) Q ↔ Ex sc d 206 48 [some (vR 373), some (vI h), some (vI r)] [] (wH (su τ2 376 (30 * (10 * h + r) + 2) 0) u) Q := by
    intro u Q
    rw [run1 u Q, x206_17]
    simp (disch := first | omega | exact notL_I | exact notL_N | exact notL_R | exact oM | exact catS_le (Nat.le_of_ble_eq_true rfl) | exact Nat.le_of_ble_eq_true rfl | rfl) only [x206_0, x206_1, x206_4, x206_5, x206_6, x206_7, x206_8, x206_9, x206_12, x206_15, x206_16, x206_18, x206_21, x206_23, x206_26, x206_27, x206_28, x206_29, x206_32, x206_35, x206_36, x206_37, x206_40, x206_41, x206_42, x206_43, x206_44, x206_45, x206_49, x206_52, x206_53, x206_56, x206_57, x206_58, x206_59, x206_60, x206_61, x206_64, x206_65, x206_68, x206_71, x206_72, x206_75, x206_77, x206_79, x206_82, x206_85, x206_86, x206_87, x206_88, x206_89, x206_90, x206_93, x206_94, x206_95, x206_96, x206_97, x206_98, x206_101, x206_104, x206_105, x206_106, x206_107, x206_108, x206_109, x206_110, x206_111, x206_114, x206_115, x206_116, x206_117, x206_119, x206_122, x206_125, x206_126, x206_128, x206_131, x206_134, x206_135, x206_136, x206_137, x206_139, x206_142, x206_145, x206_146, x206_148, x206_150, x206_153, gM_token, H1.1.1, h6, v3 u, s_setRule, Kc_none, if_pos, if_neg, ↓reduceIte, not_true_eq_false, not_false_eq_true]
  -- what is kept of the atoms ahead
  have keep : ∀ ρ : St, (∀ c, c ≠ 373 → c ≠ 376 → c ≠ 387 → ρ c = τ2 c) → (∀ f, f = 0 ∨ (3 ≤ f ∧ f < 15) → ρ 376 (30 * (10 * h + r) + f) = τ2 376 (30 * (10 * h + r) + f)) → ρ 376 (30 * (10 * h + r)) = (as.length : Int) ∧ atsF ρ h r 0 (ρ 376 (30 * (10 * h + r))).toNat 0 = as ∧ atC ρ h r 0 (ρ 376 (30 * (10 * h + r))) := by
    intro ρ k1 k2
    have e0 := k2 0 (Or.inl rfl)
    rw [Int.add_zero, v1.1 376 (by omega), c1] at e0
    have e4 : ρ 374 = τ1 374 := by rw [k1 374 (by omega) (by omega) (by omega), v1.1 374 (by omega)]
    have e4s : τ1 374 = σ 374 := F1.1 374 (by omega) (by omega) (by omega)
    have sm : ∀ f, 3 ≤ f → f < 15 → ρ 376 (30 * (10 * h + r) + f) = τ1 376 (30 * (10 * h + r) + f) := fun f a b => by rw [k2 f (Or.inr ⟨a, b⟩), v1.1 376 (by omega)]
    refine ⟨e0, ?_, ?_⟩
    · have kk := ats_keep (h := h) (r := r) (sd := 0) e4 (fun f a b => sm f (by omega) (by omega)) (as.length : Int).toNat 0 (by omega) (by omega)
      rw [e0, kk, ← c1]
      exact has
    · intro i i0 i1
      rw [e0] at i1
      have hil : i.toNat < as.length := by omega
      have hi : ((i.toNat : Nat) : Int) = i := by omega
      have q := at1 i.toNat _ (List.getElem?_eq_getElem hil)
      rw [hi] at q
      have o := q.2
      rw [← q.1] at o
      have o1 := o.1
      have o2 := o.2.1
      have o3 := o.2.2.1
      have et : (atR τ1 h r 0 i).1 = τ1 376 (30 * (10 * h + r) + (3 + 4 * (3 * 0 + i))) := rfl
      rw [et] at o1 o2 o3
      rw [sm _ (by omega) (by omega), e4, e4s]
      rw [coR_in o1 o2] at o3
      exact o3
  generalize hs2 : nxT (σ 386) (σ 373 14) s1.2.2 = s2 at *
  have tk2 := v2.2.2.1
  have eR : ∀ X : Fa ⊕ (Ru × Ps), (andP (Sum.inr (as, s1) : Fa ⊕ (List At × Ps)) fun q => if q.2.1 = 6 then
    (if (nxT (σ 386) (σ 373 14) q.2.2.2).1 = 5 then andP (needP (nxT (σ 386) (σ 373 14)) 59 (nxT (σ 386) (σ 373 14) (nxT (σ 386) (σ 373 14) q.2.2.2).2.2)) fun s => .inr ((2, q.1, [], -1, -1), s)
    else if isTb (nxT (σ 386) (σ 373 14) q.2.2.2) then andP (atmP (nxT (σ 386) (σ 373 14)) (coR σ h) 3 4 0 [] (nxT (σ 386) (σ 373 14) q.2.2.2)) fun b => andP (needP (nxT (σ 386) (σ 373 14)) 59 b.2) fun s => .inr ((0, q.1, b.1, -1, -1), s)
    else andP (sideP (nxT (σ 386) (σ 373 14)) q.1 (nxT (σ 386) (σ 373 14) q.2.2.2)) fun l => andP (needP (nxT (σ 386) (σ 373 14)) 61 l.2) fun s => andP (sideP (nxT (σ 386) (σ 373 14)) q.1 s) fun r => andP (needP (nxT (σ 386) (σ 373 14)) 59 r.2) fun s => .inr ((1, q.1, [], l.1, r.1), s))
  else .inl (1, q.2.2.1)) = X ↔ (if s2.1 = 5 then andP (needP (nxT (σ 386) (σ 373 14)) 59 (nxT (σ 386) (σ 373 14) s2.2.2)) fun s => .inr ((2, as, [], -1, -1), s)
    else if isTb s2 then andP (atmP (nxT (σ 386) (σ 373 14)) (coR σ h) 3 4 0 [] s2) fun b => andP (needP (nxT (σ 386) (σ 373 14)) 59 b.2) fun s => .inr ((0, as, b.1, -1, -1), s)
    else andP (sideP (nxT (σ 386) (σ 373 14)) as s2) fun l => andP (needP (nxT (σ 386) (σ 373 14)) 61 l.2) fun s => andP (sideP (nxT (σ 386) (σ 373 14)) as s) fun r => andP (needP (nxT (σ 386) (σ 373 14)) 59 r.2) fun s => .inr ((1, as, [], l.1, r.1), s)) = X := fun X => by
    rw [andP_r]
    dsimp only
    rw [if_pos h6, hs2]
  simp only [eR]
  generalize hX3 : su τ2 376 (30 * (10 * h + r) + 2) 0 = τ3 at *
  have k3a : ∀ c, c ≠ 373 → c ≠ 376 → c ≠ 387 → τ3 c = τ2 c := fun c a b e => by rw [← hX3, su_ne b]
  have k3b : ∀ f, f ≠ 2 → τ3 376 (30 * (10 * h + r) + f) = τ2 376 (30 * (10 * h + r) + f) := fun f a => by rw [← hX3, su_off (by omega)]
  have k3c : τ3 376 (30 * (10 * h + r) + 2) = 0 := by rw [← hX3, su_eq]
  -- the end: a semicolon
  have fin : ∀ (τ : St) (s' : Ps) (q : Ru), Fpr h r σ τ → WfM τ → PcI τ s' → ruR τ h r = q → okRl (coR σ h) q → (∀ (u : Bool × Nat × Nat × Int) (Q : Rs → HS → Prop), Ex sc d 206 0 [some (vR 373), some (vI h), some (vI r)] [] (wH σ u) Q ↔ Ex sc d 206 147 [some (vR 373), some (vI h), some (vI r)] [] (wH τ u) Q) →
      (∃ q' s'' ρ, (andP (needP (nxT (σ 386) (σ 373 14)) 59 s') fun s => (.inr (q, s) : Fa ⊕ (Ru × Ps))) = .inr (q', s'') ∧ Fpr h r σ ρ ∧ WfM ρ ∧ PcI ρ s'' ∧ ruR ρ h r = q' ∧ okRl (coR σ h) q' ∧ RnA sc d 206 0 [some (vR 373), some (vI h), some (vI r)] σ (some (vI 1)) ρ) ∨ (∃ e ρ, (andP (needP (nxT (σ 386) (σ 373 14)) 59 s') fun s => (.inr (q, s) : Fa ⊕ (Ru × Ps))) = .inl e ∧ Fpr h r σ ρ ∧ WfM ρ ∧ BdI ρ e ∧ RnA sc d 206 0 [some (vR 373), some (vI h), some (vI r)] σ (some (vI 0)) ρ) := by
    intro τ s' q F Wt Hc hq ho run
    rcases s_needR (sc := sc) (d := d - 1) (c := 59) (τ0 := σ) (by omega) Wt Hc (by omega) F.tx.1 F.tx.2 with ⟨s'', ρ, n1, n2, n3, n4⟩ | ⟨e, ρ, n1, n2, n3, n4⟩
    · refine Or.inl ⟨q, s'', ρ, by rw [n1, andP_r], F.trans n2.pa.pr, n2.dt.wf Wt, n3, by rw [n2.dt.ru]; exact hq, ho, fun u Q => ?_⟩
      rw [run u Q, x206_147]
      simp (disch := first | omega | exact notL_I | exact notL_N | exact notL_R | exact oM | exact catS_le (Nat.le_of_ble_eq_true rfl) | exact Nat.le_of_ble_eq_true rfl | rfl) only [x206_0, x206_1, x206_4, x206_5, x206_6, x206_7, x206_8, x206_9, x206_12, x206_15, x206_16, x206_18, x206_21, x206_23, x206_26, x206_27, x206_28, x206_29, x206_32, x206_35, x206_37, x206_40, x206_41, x206_42, x206_43, x206_44, x206_45, x206_48, x206_49, x206_52, x206_53, x206_56, x206_57, x206_58, x206_59, x206_60, x206_61, x206_64, x206_65, x206_68, x206_71, x206_72, x206_75, x206_77, x206_79, x206_82, x206_85, x206_86, x206_87, x206_88, x206_89, x206_90, x206_93, x206_94, x206_95, x206_96, x206_97, x206_98, x206_101, x206_104, x206_105, x206_106, x206_107, x206_108, x206_109, x206_110, x206_111, x206_114, x206_115, x206_116, x206_117, x206_119, x206_122, x206_125, x206_126, x206_128, x206_131, x206_134, x206_135, x206_136, x206_137, x206_139, x206_142, x206_145, x206_146, x206_148, x206_150, x206_153, n4 u, Kc_some]
    · refine Or.inr ⟨e, ρ, by rw [n1, andP_l], F.trans n2.pr, n2.dt.wf Wt, n3, fun u Q => ?_⟩
      rw [run u Q, x206_147]
      simp (disch := first | omega | exact notL_I | exact notL_N | exact notL_R | exact oM | exact catS_le (Nat.le_of_ble_eq_true rfl) | exact Nat.le_of_ble_eq_true rfl | rfl) only [x206_0, x206_1, x206_4, x206_5, x206_6, x206_7, x206_8, x206_9, x206_12, x206_15, x206_16, x206_18, x206_21, x206_23, x206_26, x206_27, x206_28, x206_29, x206_32, x206_35, x206_37, x206_40, x206_41, x206_42, x206_43, x206_44, x206_45, x206_48, x206_49, x206_52, x206_53, x206_56, x206_57, x206_58, x206_59, x206_60, x206_61, x206_64, x206_65, x206_68, x206_71, x206_72, x206_75, x206_77, x206_79, x206_82, x206_85, x206_86, x206_87, x206_88, x206_89, x206_90, x206_93, x206_94, x206_95, x206_96, x206_97, x206_98, x206_101, x206_104, x206_105, x206_106, x206_107, x206_108, x206_109, x206_110, x206_111, x206_114, x206_115, x206_116, x206_117, x206_119, x206_122, x206_125, x206_126, x206_128, x206_131, x206_134, x206_135, x206_136, x206_137, x206_139, x206_142, x206_145, x206_146, x206_148, x206_150, x206_153, n4 u, Kc_some]
  by_cases h5 : s2.1 = 5
  · simp only [if_pos h5]
    have okd : fOk 1 2 := ⟨fun z => by omega, fun _ => by omega, fun z => by omega, fun z => by omega, fun z => by omega⟩
    have W4 := W3.su6 (i := 10 * h + r) (f := 1) (v := 2) (by omega) (by omega) (by omega) (by omega) okd
    have H4 := H3.su6 (k := 30 * (10 * h + r) + 1) (v := 2)
    have F4 : Fpr h r σ (su τ3 376 (30 * (10 * h + r) + 1) 2) := F3.trans (Fpr.su_ (by omega) (by omega))
    have kp := keep (su τ3 376 (30 * (10 * h + r) + 1) 2) (fun c a b e => by rw [su_ne b]; exact k3a c a b e) (fun f hf => by rw [su_off (by omega)]; exact k3b f (by omega))
    have c2 : su τ3 376 (30 * (10 * h + r) + 1) 2 376 (30 * (10 * h + r) + 2) = 0 := by rw [su_off (by omega)]; exact k3c
    have cd : su τ3 376 (30 * (10 * h + r) + 1) 2 376 (30 * (10 * h + r) + 1) = 2 := su_eq
    have st : ∀ (u : Bool × Nat × Nat × Int) (Q : Rs → HS → Prop), Ex sc d 206 0 [some (vR 373), some (vI h), some (vI r)] [] (wH σ u) Q ↔ Ex sc d 206 64 [some (vR 373), some (vI h), some (vI r)] [] (wH (su τ3 376 (30 * (10 * h + r) + 1) 2) u) Q := by
      intro u Q
      rw [run3 u Q, x206_48]
      simp (disch := first | omega | exact notL_I | exact notL_N | exact notL_R | exact oM | exact catS_le (Nat.le_of_ble_eq_true rfl) | exact Nat.le_of_ble_eq_true rfl | rfl) only [x206_0, x206_1, x206_4, x206_5, x206_6, x206_7, x206_8, x206_9, x206_12, x206_15, x206_16, x206_18, x206_21, x206_23, x206_26, x206_27, x206_28, x206_29, x206_32, x206_35, x206_36, x206_37, x206_40, x206_41, x206_42, x206_43, x206_44, x206_45, x206_49, x206_52, x206_53, x206_56, x206_57, x206_58, x206_59, x206_60, x206_61, x206_65, x206_68, x206_71, x206_72, x206_75, x206_77, x206_79, x206_82, x206_85, x206_86, x206_87, x206_88, x206_89, x206_90, x206_93, x206_94, x206_95, x206_96, x206_97, x206_98, x206_101, x206_104, x206_105, x206_106, x206_107, x206_108, x206_109, x206_110, x206_111, x206_114, x206_115, x206_116, x206_117, x206_119, x206_122, x206_125, x206_126, x206_128, x206_131, x206_134, x206_135, x206_136, x206_137, x206_139, x206_142, x206_145, x206_146, x206_148, x206_150, x206_153, gM_token, H3.1.1, h5, s_setRule, Kc_none, if_pos, if_neg, ↓reduceIte, not_true_eq_false, not_false_eq_true]
    generalize su τ3 376 (30 * (10 * h + r) + 1) 2 = τ4 at *
    obtain ⟨τ5, w1, w2, w3⟩ := s_lookP (sc := sc) (d := d - 1) (by omega) W4 H4
    rw [F4.tx.1, F4.tx.2] at w2
    refine fin τ5 _ (2, as, [], -1, -1) (F4.trans w1.pa.pr) (w1.dt.wf W4) w2 ?_ ⟨(show (0 : Int) ≤ 2 ∧ (2 : Int) ≤ 2 by decide), oka, (fun a ha => by cases ha), ⟨a1, a3⟩, Nat.zero_le _, fun z => by cases z⟩ (fun u Q => ?_)
    · rw [w1.dt.ru]
      unfold ruR
      rw [cd, kp.2.1, c2, if_neg (by decide), if_neg (by decide)]
      rfl
    · rw [st u Q, x206_64]
      simp (disch := first | omega | exact notL_I | exact notL_N | exact notL_R | exact oM | exact catS_le (Nat.le_of_ble_eq_true rfl) | exact Nat.le_of_ble_eq_true rfl | rfl) only [x206_0, x206_1, x206_4, x206_5, x206_6, x206_7, x206_8, x206_9, x206_12, x206_15, x206_16, x206_18, x206_21, x206_23, x206_26, x206_27, x206_28, x206_29, x206_32, x206_35, x206_36, x206_37, x206_40, x206_41, x206_42, x206_43, x206_44, x206_45, x206_49, x206_52, x206_53, x206_56, x206_57, x206_58, x206_59, x206_60, x206_61, x206_65, x206_68, x206_71, x206_72, x206_75, x206_77, x206_79, x206_82, x206_85, x206_86, x206_87, x206_88, x206_89, x206_90, x206_93, x206_94, x206_95, x206_96, x206_97, x206_98, x206_101, x206_104, x206_105, x206_106, x206_107, x206_108, x206_109, x206_110, x206_111, x206_114, x206_115, x206_116, x206_117, x206_119, x206_122, x206_125, x206_126, x206_128, x206_131, x206_134, x206_135, x206_136, x206_137, x206_139, x206_142, x206_145, x206_146, x206_148, x206_150, x206_153, w3 u, Kc_none]
  · simp only [if_neg h5]
    have isT := fun u Q => s_isIn (sc := sc) (σ := τ3) (u := u) (Q := Q) (d := d - 1) (v := s2.1) (a := 100) (b := 125) ⟨by omega, by omega⟩ ⟨by decide, by decide⟩ ⟨by decide, by decide⟩
    by_cases hT : 100 ≤ s2.1 ∧ s2.1 ≤ 125
    · -- atoms behind
      have hT' : isTb s2 := hT
      simp only [if_pos hT', if_pos hT] at isT ⊢
      have okd : fOk 1 0 := ⟨fun z => by omega, fun _ => by omega, fun z => by omega, fun z => by omega, fun z => by omega⟩
      have W4 := W3.su6 (i := 10 * h + r) (f := 1) (v := 0) (by omega) (by omega) (by omega) (by omega) okd
      have H4 := H3.su6 (k := 30 * (10 * h + r) + 1) (v := 0)
      have F4 : Fpr h r σ (su τ3 376 (30 * (10 * h + r) + 1) 0) := F3.trans (Fpr.su_ (by omega) (by omega))
      have k4a : ∀ c, c ≠ 373 → c ≠ 376 → c ≠ 387 → su τ3 376 (30 * (10 * h + r) + 1) 0 c = τ2 c := fun c a b e => by rw [su_ne b]; exact k3a c a b e
      have k4b : ∀ f, f = 0 ∨ (3 ≤ f ∧ f < 15) → su τ3 376 (30 * (10 * h + r) + 1) 0 376 (30 * (10 * h + r) + f) = τ2 376 (30 * (10 * h + r) + f) := fun f hf => by rw [su_off (by omega)]; exact k3b f (by omega)
      have cd : su τ3 376 (30 * (10 * h + r) + 1) 0 376 (30 * (10 * h + r) + 1) = 0 := su_eq
      have st : ∀ (u : Bool × Nat × Nat × Int) (Q : Rs → HS → Prop), Ex sc d 206 0 [some (vR 373), some (vI h), some (vI r)] [] (wH σ u) Q ↔ Ex sc d 206 93 [some (vR 373), some (vI h), some (vI r)] [] (wH (su τ3 376 (30 * (10 * h + r) + 1) 0) u) Q := by
        intro u Q
        rw [run3 u Q, x206_48]
        simp (disch := first | omega | exact notL_I | exact notL_N | exact notL_R | exact oM | exact catS_le (Nat.le_of_ble_eq_true rfl) | exact Nat.le_of_ble_eq_true rfl | rfl) only [x206_0, x206_1, x206_4, x206_5, x206_6, x206_7, x206_8, x206_9, x206_12, x206_15, x206_16, x206_18, x206_21, x206_23, x206_26, x206_27, x206_28, x206_29, x206_32, x206_35, x206_36, x206_37, x206_40, x206_41, x206_42, x206_43, x206_44, x206_45, x206_49, x206_52, x206_53, x206_56, x206_57, x206_58, x206_59, x206_60, x206_61, x206_65, x206_68, x206_71, x206_72, x206_75, x206_77, x206_79, x206_82, x206_85, x206_86, x206_87, x206_88, x206_89, x206_90, x206_94, x206_95, x206_96, x206_97, x206_98, x206_101, x206_104, x206_105, x206_106, x206_107, x206_108, x206_109, x206_110, x206_111, x206_114, x206_115, x206_116, x206_117, x206_119, x206_122, x206_125, x206_126, x206_128, x206_131, x206_134, x206_135, x206_136, x206_137, x206_139, x206_142, x206_145, x206_146, x206_148, x206_150, x206_153, gM_token, H3.1.1, isT, s_setRule, Kc_some, Kc_none, if_pos, if_neg, ↓reduceIte, not_true_eq_false, not_false_eq_true]
      generalize su τ3 376 (30 * (10 * h + r) + 1) 0 = τ4 at *
      have am := s_atm (sc := sc) (d := d - 1) (σ := τ4) (h := h) (r := r) (sd := 1) (most := 3) (s := s2) (by omega) W4 h1 h2 r1 r2 (by omega) (by omega) (by omega) (by omega) H4
      rw [F4.tx.1, F4.tx.2, F4.co, e3] at am
      rcases am with ⟨bs, s3, τ5, q5, b1, b3, G5, W5, H5, c5, at5, x5⟩ | ⟨e, τ5, q5, G5, W5, B5, x5⟩
      case inr =>
        refine Or.inr ⟨e, τ5, by rw [q5, andP_l], F4.trans G5.pr, W5, B5, fun u Q => ?_⟩
        rw [st u Q, x206_93]
        simp (disch := first | omega | exact notL_I | exact notL_N | exact notL_R | exact oM | exact catS_le (Nat.le_of_ble_eq_true rfl) | exact Nat.le_of_ble_eq_true rfl | rfl) only [x206_0, x206_1, x206_4, x206_5, x206_6, x206_7, x206_8, x206_9, x206_12, x206_15, x206_16, x206_18, x206_21, x206_23, x206_26, x206_27, x206_28, x206_29, x206_32, x206_35, x206_36, x206_37, x206_40, x206_41, x206_42, x206_43, x206_44, x206_45, x206_49, x206_52, x206_53, x206_56, x206_57, x206_58, x206_59, x206_60, x206_61, x206_65, x206_68, x206_71, x206_72, x206_75, x206_77, x206_79, x206_82, x206_85, x206_86, x206_87, x206_88, x206_89, x206_90, x206_94, x206_95, x206_96, x206_97, x206_98, x206_101, x206_104, x206_105, x206_106, x206_107, x206_108, x206_109, x206_110, x206_111, x206_114, x206_115, x206_116, x206_117, x206_119, x206_122, x206_125, x206_126, x206_128, x206_131, x206_134, x206_135, x206_136, x206_137, x206_139, x206_142, x206_145, x206_146, x206_148, x206_150, x206_153, x5 u, Kc_some, if_pos, if_neg, ↓reduceIte, not_true_eq_false, not_false_eq_true]
      have z21 : 30 * (10 * h + r) + 2 * 1 = 30 * (10 * h + r) + 2 := by omega
      rw [z21] at c5
      have hbs := ats_of (ρ := τ5) (h := h) (r := r) (sd := 1) c5 (fun i a hi => (at5 i a hi).1)
      have okb : ∀ a ∈ bs, okA (coR σ h) a := fun a ha => by
        obtain ⟨i, hi, ei⟩ := List.mem_iff_getElem.mp ha
        have := (at5 i a (by rw [List.getElem?_eq_getElem hi, ei])).2
        exact this
      have kp := keep τ5 (fun c a b e => by rw [G5.1 c a b e]; exact k4a c a b e) (fun f hf => by
        rw [G5.2.2 _ (fun g g0 g1 g2 => by omega)]
        exact k4b f hf)
      have cd5 : τ5 376 (30 * (10 * h + r) + 1) = 0 := by
        rw [G5.2.2 _ (fun g g0 g1 g2 => by omega)]
        exact cd
      have fn := fin τ5 s3 (0, as, bs, -1, -1) (F4.trans G5.pr) W5 H5 (by
        unfold ruR
        rw [cd5, kp.2.1, hbs, if_neg (by decide), if_neg (by decide)]) ⟨(show (0 : Int) ≤ 0 ∧ (0 : Int) ≤ 2 by decide), oka, okb, ⟨a1, a3⟩, b3, (fun z => by cases z)⟩ (fun u Q => by
        rw [st u Q, x206_93]
        simp (disch := first | omega | exact notL_I | exact notL_N | exact notL_R | exact oM | exact catS_le (Nat.le_of_ble_eq_true rfl) | exact Nat.le_of_ble_eq_true rfl | rfl) only [x206_0, x206_1, x206_4, x206_5, x206_6, x206_7, x206_8, x206_9, x206_12, x206_15, x206_16, x206_18, x206_21, x206_23, x206_26, x206_27, x206_28, x206_29, x206_32, x206_35, x206_36, x206_37, x206_40, x206_41, x206_42, x206_43, x206_44, x206_45, x206_49, x206_52, x206_53, x206_56, x206_57, x206_58, x206_59, x206_60, x206_61, x206_65, x206_68, x206_71, x206_72, x206_75, x206_77, x206_79, x206_82, x206_85, x206_86, x206_87, x206_88, x206_89, x206_90, x206_94, x206_95, x206_96, x206_97, x206_98, x206_101, x206_104, x206_105, x206_106, x206_107, x206_108, x206_109, x206_110, x206_111, x206_114, x206_115, x206_116, x206_117, x206_119, x206_122, x206_125, x206_126, x206_128, x206_131, x206_134, x206_135, x206_136, x206_137, x206_139, x206_142, x206_145, x206_146, x206_148, x206_150, x206_153, x5 u, Kc_some, if_pos, if_neg, ↓reduceIte, not_true_eq_false, not_false_eq_true])
      rw [q5, andP_r]
      exact fn
    · -- two sides
      have hT' : ¬ isTb s2 := hT
      simp only [if_neg hT', if_neg hT] at isT ⊢
      have okd : fOk 1 1 := ⟨fun z => by omega, fun _ => by omega, fun z => by omega, fun z => by omega, fun z => by omega⟩
      have W4 := W3.su6 (i := 10 * h + r) (f := 1) (v := 1) (by omega) (by omega) (by omega) (by omega) okd
      have H4 := H3.su6 (k := 30 * (10 * h + r) + 1) (v := 1)
      have F4 : Fpr h r σ (su τ3 376 (30 * (10 * h + r) + 1) 1) := F3.trans (Fpr.su_ (by omega) (by omega))
      have k4a : ∀ c, c ≠ 373 → c ≠ 376 → c ≠ 387 → su τ3 376 (30 * (10 * h + r) + 1) 1 c = τ2 c := fun c a b e => by rw [su_ne b]; exact k3a c a b e
      have k4b : ∀ f, f = 0 ∨ (3 ≤ f ∧ f < 15) → su τ3 376 (30 * (10 * h + r) + 1) 1 376 (30 * (10 * h + r) + f) = τ2 376 (30 * (10 * h + r) + f) := fun f hf => by rw [su_off (by omega)]; exact k3b f (by omega)
      have cd : su τ3 376 (30 * (10 * h + r) + 1) 1 376 (30 * (10 * h + r) + 1) = 1 := su_eq
      have c2 : su τ3 376 (30 * (10 * h + r) + 1) 1 376 (30 * (10 * h + r) + 2) = 0 := by rw [su_off (by omega)]; exact k3c
      have st : ∀ (u : Bool × Nat × Nat × Int) (Q : Rs → HS → Prop), Ex sc d 206 0 [some (vR 373), some (vI h), some (vI r)] [] (wH σ u) Q ↔ Ex sc d 206 114 [some (vR 373), some (vI h), some (vI r)] [] (wH (su τ3 376 (30 * (10 * h + r) + 1) 1) u) Q := by
        intro u Q
        rw [run3 u Q, x206_48]
        simp (disch := first | omega | exact notL_I | exact notL_N | exact notL_R | exact oM | exact catS_le (Nat.le_of_ble_eq_true rfl) | exact Nat.le_of_ble_eq_true rfl | rfl) only [x206_0, x206_1, x206_4, x206_5, x206_6, x206_7, x206_8, x206_9, x206_12, x206_15, x206_16, x206_18, x206_21, x206_23, x206_26, x206_27, x206_28, x206_29, x206_32, x206_35, x206_36, x206_37, x206_40, x206_41, x206_42, x206_43, x206_44, x206_45, x206_49, x206_52, x206_53, x206_56, x206_57, x206_58, x206_59, x206_60, x206_61, x206_65, x206_68, x206_71, x206_72, x206_75, x206_77, x206_79, x206_82, x206_85, x206_86, x206_87, x206_88, x206_89, x206_90, x206_94, x206_95, x206_96, x206_97, x206_98, x206_101, x206_104, x206_105, x206_106, x206_107, x206_108, x206_109, x206_110, x206_111, x206_115, x206_116, x206_117, x206_119, x206_122, x206_125, x206_126, x206_128, x206_131, x206_134, x206_135, x206_136, x206_137, x206_139, x206_142, x206_145, x206_146, x206_148, x206_150, x206_153, gM_token, H3.1.1, isT, s_setRule, Kc_some, Kc_none, if_pos, if_neg, ↓reduceIte, not_true_eq_false, not_false_eq_true]
      generalize su τ3 376 (30 * (10 * h + r) + 1) 1 = τ4 at *
      have kp4 := keep τ4 k4a k4b
      have ml := s_melting (sc := sc) (d := d - 1) (σ := τ4) (h := h) (r := r) (f := 27) (s := s2) (as := as) (by omega) W4 h1 h2 r1 r2 (Or.inl rfl) H4 kp4.2.2 kp4.2.1
      rw [F4.tx.1, F4.tx.2] at ml
      rcases ml with ⟨l, s3, τ5, q5, pl5, mt5, G5, H5, x5⟩ | ⟨e, τ5, q5, G5, B5, x5⟩
      case inr =>
        refine Or.inr ⟨e, τ5, by rw [q5, andP_l], F4.trans G5.pr, G5.dt.wf W4, B5, fun u Q => ?_⟩
        rw [st u Q, x206_114]
        simp (disch := first | omega | exact notL_I | exact notL_N | exact notL_R | exact oM | exact catS_le (Nat.le_of_ble_eq_true rfl) | exact Nat.le_of_ble_eq_true rfl | rfl) only [x206_0, x206_1, x206_4, x206_5, x206_6, x206_7, x206_8, x206_9, x206_12, x206_15, x206_16, x206_18, x206_21, x206_23, x206_26, x206_27, x206_28, x206_29, x206_32, x206_35, x206_36, x206_37, x206_40, x206_41, x206_42, x206_43, x206_44, x206_45, x206_49, x206_52, x206_53, x206_56, x206_57, x206_58, x206_59, x206_60, x206_61, x206_65, x206_68, x206_71, x206_72, x206_75, x206_77, x206_79, x206_82, x206_85, x206_86, x206_87, x206_88, x206_89, x206_90, x206_94, x206_95, x206_96, x206_97, x206_98, x206_101, x206_104, x206_105, x206_106, x206_107, x206_108, x206_109, x206_110, x206_111, x206_115, x206_116, x206_117, x206_119, x206_122, x206_125, x206_126, x206_128, x206_131, x206_134, x206_135, x206_136, x206_137, x206_139, x206_142, x206_145, x206_146, x206_148, x206_150, x206_153, x5 u, Kc_some, if_pos, if_neg, ↓reduceIte, not_true_eq_false, not_false_eq_true]
      have okl : fOk 27 l := ⟨fun z => by omega, fun z => by omega, fun _ => pl5, fun _ z => by omega, fun _ z => by omega⟩
      have W5 := G5.dt.wf (W4.su6 (i := 10 * h + r) (f := 27) (v := l) (by omega) (by omega) (by omega) (by omega) okl)
      have F5 : Fpr h r σ τ5 := F4.trans ((Fpr.su_ (h := h) (r := r) (f := 27) (v := l) (by omega) (by omega)).trans G5.pa.pr)
      have r5 : ∀ f, 0 ≤ f → f ≤ 29 → τ5 376 (30 * (10 * h + r) + f) = if f = 27 then l else τ4 376 (30 * (10 * h + r) + f) := fun f f0 f1 => by
        rw [G5.1 376 (by omega), su_at]
        by_cases e : f = 27
        · rw [if_pos (by omega), if_pos e]
        · rw [if_neg (by omega), if_neg e]
      rcases s_needR (sc := sc) (d := d - 1) (c := 61) (τ0 := σ) (by omega) W5 H5 (by omega) F5.tx.1 F5.tx.2 with ⟨s4, τ6, q6, G6, H6, x6⟩ | ⟨e, τ6, q6, G6, B6, x6⟩
      case inr =>
        refine Or.inr ⟨e, τ6, by rw [q5, andP_r, q6, andP_l], F5.trans G6.pr, G6.dt.wf W5, B6, fun u Q => ?_⟩
        rw [st u Q, x206_114]
        simp (disch := first | omega | exact notL_I | exact notL_N | exact notL_R | exact oM | exact catS_le (Nat.le_of_ble_eq_true rfl) | exact Nat.le_of_ble_eq_true rfl | rfl) only [x206_0, x206_1, x206_4, x206_5, x206_6, x206_7, x206_8, x206_9, x206_12, x206_15, x206_16, x206_18, x206_21, x206_23, x206_26, x206_27, x206_28, x206_29, x206_32, x206_35, x206_36, x206_37, x206_40, x206_41, x206_42, x206_43, x206_44, x206_45, x206_49, x206_52, x206_53, x206_56, x206_57, x206_58, x206_59, x206_60, x206_61, x206_65, x206_68, x206_71, x206_72, x206_75, x206_77, x206_79, x206_82, x206_85, x206_86, x206_87, x206_88, x206_89, x206_90, x206_94, x206_95, x206_96, x206_97, x206_98, x206_101, x206_104, x206_105, x206_106, x206_107, x206_108, x206_109, x206_110, x206_111, x206_115, x206_116, x206_117, x206_119, x206_122, x206_125, x206_126, x206_128, x206_131, x206_134, x206_135, x206_136, x206_137, x206_139, x206_142, x206_145, x206_146, x206_148, x206_150, x206_153, x5 u, x6 u, Kc_some, if_pos, if_neg, ↓reduceIte, not_true_eq_false, not_false_eq_true]
      have W6 := G6.dt.wf W5
      have F6 : Fpr h r σ τ6 := F5.trans G6.pa.pr
      have k6a : ∀ c, c ≠ 373 → c ≠ 376 → c ≠ 387 → τ6 c = τ2 c := fun c a b e => by rw [G6.1 c a, G5.1 c a, su_ne b]; exact k4a c a b e
      have k6b : ∀ f, f = 0 ∨ (3 ≤ f ∧ f < 15) → τ6 376 (30 * (10 * h + r) + f) = τ2 376 (30 * (10 * h + r) + f) := fun f hf => by rw [G6.1 376 (by omega), r5 f (by omega) (by omega), if_neg (by omega)]; exact k4b f hf
      have kp6 := keep τ6 k6a k6b
      have ml2 := s_melting (sc := sc) (d := d - 1) (σ := τ6) (h := h) (r := r) (f := 28) (s := s4) (as := as) (by omega) W6 h1 h2 r1 r2 (Or.inr rfl) H6 kp6.2.2 kp6.2.1
      rw [F6.tx.1, F6.tx.2] at ml2
      rcases ml2 with ⟨m, s5, τ7, q7, pl7, mt7, G7, H7, x7⟩ | ⟨e, τ7, q7, G7, B7, x7⟩
      case inr =>
        refine Or.inr ⟨e, τ7, by rw [q5, andP_r, q6, andP_r, q7, andP_l], F6.trans G7.pr, G7.dt.wf W6, B7, fun u Q => ?_⟩
        rw [st u Q, x206_114]
        simp (disch := first | omega | exact notL_I | exact notL_N | exact notL_R | exact oM | exact catS_le (Nat.le_of_ble_eq_true rfl) | exact Nat.le_of_ble_eq_true rfl | rfl) only [x206_0, x206_1, x206_4, x206_5, x206_6, x206_7, x206_8, x206_9, x206_12, x206_15, x206_16, x206_18, x206_21, x206_23, x206_26, x206_27, x206_28, x206_29, x206_32, x206_35, x206_36, x206_37, x206_40, x206_41, x206_42, x206_43, x206_44, x206_45, x206_49, x206_52, x206_53, x206_56, x206_57, x206_58, x206_59, x206_60, x206_61, x206_65, x206_68, x206_71, x206_72, x206_75, x206_77, x206_79, x206_82, x206_85, x206_86, x206_87, x206_88, x206_89, x206_90, x206_94, x206_95, x206_96, x206_97, x206_98, x206_101, x206_104, x206_105, x206_106, x206_107, x206_108, x206_109, x206_110, x206_111, x206_115, x206_116, x206_117, x206_119, x206_122, x206_125, x206_126, x206_128, x206_131, x206_134, x206_135, x206_136, x206_137, x206_139, x206_142, x206_145, x206_146, x206_148, x206_150, x206_153, x5 u, x6 u, x7 u, Kc_some, if_pos, if_neg, ↓reduceIte, not_true_eq_false, not_false_eq_true]
      have okm : fOk 28 m := ⟨fun z => by omega, fun z => by omega, fun _ => pl7, fun _ z => by omega, fun _ z => by omega⟩
      have W7 := G7.dt.wf (W6.su6 (i := 10 * h + r) (f := 28) (v := m) (by omega) (by omega) (by omega) (by omega) okm)
      have F7 : Fpr h r σ τ7 := F6.trans ((Fpr.su_ (h := h) (r := r) (f := 28) (v := m) (by omega) (by omega)).trans G7.pa.pr)
      have r7 : ∀ f, 0 ≤ f → f ≤ 29 → τ7 376 (30 * (10 * h + r) + f) = if f = 28 then m else if f = 27 then l else τ4 376 (30 * (10 * h + r) + f) := fun f f0 f1 => by
        rw [G7.1 376 (by omega), su_at]
        by_cases e : f = 28
        · rw [if_pos (by omega), if_pos e]
        · rw [if_neg (by omega), if_neg e, G6.1 376 (by omega)]
          exact r5 f f0 f1
      have kp7 := keep τ7 (fun c a b e => by rw [G7.1 c a, su_ne b]; exact k6a c a b e) (fun f hf => by rw [r7 f (by omega) (by omega), if_neg (by omega), if_neg (by omega)]; exact k4b f hf)
      have fn := fin τ7 s5 (1, as, [], l, m) F7 W7 H7 (by
        unfold ruR
        have d7 : τ7 376 (30 * (10 * h + r) + 1) = 1 := by rw [r7 1 (by omega) (by omega), if_neg (by omega), if_neg (by omega)]; exact cd
        have b7 : τ7 376 (30 * (10 * h + r) + 2) = 0 := by rw [r7 2 (by omega) (by omega), if_neg (by omega), if_neg (by omega)]; exact c2
        rw [d7, b7, kp7.2.1, if_pos rfl, if_pos rfl, r7 27 (by omega) (by omega), r7 28 (by omega) (by omega), if_neg (by decide), if_pos rfl, if_pos rfl]
        rfl) ⟨(show (0 : Int) ≤ 1 ∧ (1 : Int) ≤ 2 by decide), oka, (fun a ha => by cases ha), ⟨a1, a3⟩, Nat.zero_le _, fun _ => ⟨⟨pl5, mt5⟩, pl7, mt7⟩⟩ (fun u Q => by
        rw [st u Q, x206_114]
        simp (disch := first | omega | exact notL_I | exact notL_N | exact notL_R | exact oM | exact catS_le (Nat.le_of_ble_eq_true rfl) | exact Nat.le_of_ble_eq_true rfl | rfl) only [x206_0, x206_1, x206_4, x206_5, x206_6, x206_7, x206_8, x206_9, x206_12, x206_15, x206_16, x206_18, x206_21, x206_23, x206_26, x206_27, x206_28, x206_29, x206_32, x206_35, x206_36, x206_37, x206_40, x206_41, x206_42, x206_43, x206_44, x206_45, x206_49, x206_52, x206_53, x206_56, x206_57, x206_58, x206_59, x206_60, x206_61, x206_65, x206_68, x206_71, x206_72, x206_75, x206_77, x206_79, x206_82, x206_85, x206_86, x206_87, x206_88, x206_89, x206_90, x206_94, x206_95, x206_96, x206_97, x206_98, x206_101, x206_104, x206_105, x206_106, x206_107, x206_108, x206_109, x206_110, x206_111, x206_115, x206_116, x206_117, x206_119, x206_122, x206_125, x206_126, x206_128, x206_131, x206_134, x206_135, x206_136, x206_137, x206_139, x206_142, x206_145, x206_146, x206_148, x206_150, x206_153, x5 u, x6 u, x7 u, Kc_some, if_pos, if_neg, ↓reduceIte, not_true_eq_false, not_false_eq_true])
      rw [q5, andP_r, q6, andP_r, q7, andP_r]
      exact fn
end L6
