/-! the reference reads: rows -/
section L8
variable {sc : Scr} {d : Nat} {σ : St}
theorem s_rowT {T : Tx} {s0 : Ps} (hd : 6 ≤ d) (W : WfM σ) (hT : hlR σ 4 = HxT T) (ok : TxOk T) (H : PcI σ s0) :
    (∃ T' s' ρ, rowP (nxT (σ 386) (σ 373 14)) T (nxT (σ 386) (σ 373 14) s0.2.2) = .inr (T', s') ∧ Fx σ ρ ∧ WfM ρ ∧ PcI ρ s' ∧ hlR ρ 4 = HxT T' ∧ TxOk T' ∧ T'.2.1 = T.2.1 ∧ RnA sc d 198 0 [some (vR 373), none, none] σ (some (vI 1)) ρ) ∨
    (∃ e ρ, rowP (nxT (σ 386) (σ 373 14)) T (nxT (σ 386) (σ 373 14) s0.2.2) = .inl e ∧ Fx σ ρ ∧ WfM ρ ∧ BdI ρ e ∧ RnA sc d 198 0 [some (vR 373), none, none] σ (some (vI 0)) ρ) := by
  obtain ⟨τ0, y1, y2, y3⟩ := s_lookP (sc := sc) (d := d - 1) (by omega) W H
  generalize nxT (σ 386) (σ 373 14) s0.2.2 = s at *
  have W0 := y1.dt.wf W
  have F0 := y1.x
  have h0 : hlR τ0 4 = HxT T := (y1.dt.hl W (by omega) (by omega)).trans hT
  have C0 : coR τ0 4 = T.1 := congrArg (fun x : Hl => x.1) h0
  unfold rowP
  have at1 := s_aTab1 (sc := sc) (d := d - 1) (h := 4) (by omega) W0 (by omega) (by omega) y2
  rw [C0] at at1
  rcases at1 with ⟨t, τ1, q1, q2, t0, t1, qc, F1, H1, e22, x1⟩ | ⟨e, τ1, q1, F1, B1, x1⟩
  case inr =>
    refine Or.inr ⟨e, τ1, by rw [q1, andP_l], F0.trans F1.x, F1.dt.wf W0, B1, fun u Q => ?_⟩
    simp (disch := first | omega | exact notL_I | exact notL_N | exact notL_R | exact oM | exact catS_le (Nat.le_of_ble_eq_true rfl) | exact Nat.le_of_ble_eq_true rfl | rfl) only [x198_0, x198_1, x198_4, x198_5, x198_8, x198_9, x198_10, x198_11, x198_12, x198_15, x198_18, x198_19, x198_20, x198_21, x198_24, x198_25, x198_26, x198_29, x198_30, x198_31, x198_32, x198_33, x198_36, x198_39, x198_40, x198_42, x198_43, x198_44, x198_45, x198_48, x198_49, x198_50, x198_51, x198_54, x198_55, x198_56, x198_57, x198_60, x198_61, x198_62, x198_65, x198_66, x198_69, x198_70, x198_71, x198_74, x198_76, x198_79, x198_80, x198_81, x198_82, x198_85, x198_86, x198_87, x198_88, x198_89, x198_90, x198_91, x198_94, x198_95, x198_96, x198_97, x198_100, x198_101, x198_102, x198_103, x198_106, x198_107, x198_108, x198_111, x198_115, x198_117, x198_120, gM_tokenAt, y2.1.2.1, y3 u, x1 u, Kc_some, Kc_none, if_pos, if_neg, ↓reduceIte, not_true_eq_false, not_false_eq_true]
  have W1 := F1.dt.wf W0
  have D1 := y1.dt.trans F1.dt
  have G1 := F0.trans F1.x
  obtain ⟨τ2, v1, v2, v3⟩ := s_lookP (sc := sc) (d := d - 1) (by omega) W1 H1
  rw [G1.tx.1, G1.tx.2] at v2
  have W2 := v1.dt.wf W1
  have G2 := G1.trans v1.x
  have D2 := D1.trans v1.dt
  have h2 : hlR τ2 4 = HxT T := (D2.hl W (by omega) (by omega)).trans hT
  have C2 : coR τ2 4 = T.1 := congrArg (fun x : Hl => x.1) h2
  have ct : T.1 t = τ2 374 (26 * 4 + t) := by rw [← C2, coR_in t0 t1]
  have wc := W2.col (h := 4) (t := t) (by omega) (by omega) t0 t1
  have hc1 : 1 ≤ τ2 374 (26 * 4 + t) := by rw [v1.1 374 (by omega), F1.1 374 (by omega) (by omega)]; exact qc
  have sv := s_sev (sc := sc) (d := d - 1) (σ := τ2) (h := 4) (t := t) (m := T.1 t) (row := true) (by omega) W2 (by omega) (by omega) t0 t1 ct.symm (by omega) (by omega) v2
  rw [G2.tx.1, G2.tx.2, bI_t] at sv
  have run2 : ∀ (u : Bool × Nat × Nat × Int) (Q : Rs → HS → Prop), Ex sc d 198 0 [some (vR 373), none, none] [] (wH σ u) Q ↔ Ex sc d 198 29 [some (vR 373), some (vI s.2.1), some (vI t)] [] (wH τ2 u) Q := by
    intro u Q
    simp (disch := first | omega | exact notL_I | exact notL_N | exact notL_R | exact oM | exact catS_le (Nat.le_of_ble_eq_true rfl) | exact Nat.le_of_ble_eq_true rfl | rfl) only [x198_0, x198_1, x198_4, x198_5, x198_8, x198_9, x198_10, x198_11, x198_12, x198_15, x198_18, x198_19, x198_20, x198_21, x198_24, x198_25, x198_26, x198_30, x198_31, x198_32, x198_33, x198_36, x198_39, x198_40, x198_42, x198_43, x198_44, x198_45, x198_48, x198_49, x198_50, x198_51, x198_54, x198_55, x198_56, x198_57, x198_60, x198_61, x198_62, x198_65, x198_66, x198_69, x198_70, x198_71, x198_74, x198_76, x198_79, x198_80, x198_81, x198_82, x198_85, x198_86, x198_87, x198_88, x198_89, x198_90, x198_91, x198_94, x198_95, x198_96, x198_97, x198_100, x198_101, x198_102, x198_103, x198_106, x198_107, x198_108, x198_111, x198_115, x198_117, x198_120, gM_tokenAt, gM_read, y2.1.2.1, e22, y3 u, x1 u, v3 u, Kc_some, Kc_none, if_pos, if_neg, ↓reduceIte, not_true_eq_false, not_false_eq_true]
  rcases sv with ⟨l, s', τ3, n1, n2, F3, H3, n5, n6, x3⟩ | ⟨e, τ3, n1, F3, B3, x3⟩
  case inr =>
    refine Or.inr ⟨e, τ3, by rw [q1, andP_r, n1, andP_l], G2.trans F3.x, F3.dt.wf W2, B3, fun u Q => ?_⟩
    rw [run2 u Q, x198_29]
    simp (disch := first | omega | exact notL_I | exact notL_N | exact notL_R | exact oM | exact catS_le (Nat.le_of_ble_eq_true rfl) | exact Nat.le_of_ble_eq_true rfl | rfl) only [x198_0, x198_1, x198_4, x198_5, x198_8, x198_9, x198_10, x198_11, x198_12, x198_15, x198_18, x198_19, x198_20, x198_21, x198_24, x198_25, x198_26, x198_30, x198_31, x198_32, x198_33, x198_36, x198_39, x198_40, x198_42, x198_43, x198_44, x198_45, x198_48, x198_49, x198_50, x198_51, x198_54, x198_55, x198_56, x198_57, x198_60, x198_61, x198_62, x198_65, x198_66, x198_69, x198_70, x198_71, x198_74, x198_76, x198_79, x198_80, x198_81, x198_82, x198_85, x198_86, x198_87, x198_88, x198_89, x198_90, x198_91, x198_94, x198_95, x198_96, x198_97, x198_100, x198_101, x198_102, x198_103, x198_106, x198_107, x198_108, x198_111, x198_115, x198_117, x198_120, x3 u, Kc_some, if_pos, if_neg, ↓reduceIte, not_true_eq_false, not_false_eq_true]
  have W3 := F3.dt.wf W2
  have G3 := G2.trans F3.x
  have D3 := D2.trans F3.dt
  have h3 : hlR τ3 4 = HxT T := (D3.hl W (by omega) (by omega)).trans hT
  have R3 : rsR τ3 4 = T.2.2.1 := congrArg (fun x : Hl => x.2.2.2.1) h3
  have N3 : τ3 381 4 = T.2.2.2.1 := congrArg (fun x : Hl => x.2.2.2.2.1) h3
  have e74 : τ3 374 = τ2 374 := F3.dt.1 374 (by omega) (by omega)
  have tm : ∀ i : Nat, i < 3 → isTm (τ3 387 i) := fun i hi => by
    rw [n5 i hi, List.getD_eq_getElem?_getD]
    cases hg : l[i]? with
    | none => exact Or.inl ⟨by decide, by decide⟩
    | some c => exact n6 c (List.mem_of_getElem? hg)
  have p0 := tm 0 (by omega)
  have p1 := tm 1 (by omega)
  have p2 := tm 2 (by omega)
  rw [show ((0 : Nat) : Int) = 0 from rfl] at p0
  rw [show ((1 : Nat) : Int) = 1 from rfl] at p1
  rw [show ((2 : Nat) : Int) = 2 from rfl] at p2
  have i0 := isTm_in p0
  have i1 := isTm_in p1
  have i2 := isTm_in p2
  have eat : atL t l = (t, nrm (τ3 374 (26 * 4 + t)) (τ3 387 0) (τ3 387 1) (τ3 387 2)) := by
    rw [e74, ← ct]
    exact atL_nrm n2 (by omega) (by omega) n5
  have fd := fun u Q => s_find (sc := sc) (σ := τ3) (u := u) (Q := Q) (d := d - 1) (h := 4) (t := t) (x := τ3 387 0) (y := τ3 387 1) (z := τ3 387 2) W3 (by omega) (by omega) (by omega) t0 t1 ⟨by omega, by omega⟩ ⟨by omega, by omega⟩ ⟨by omega, by omega⟩
  rw [R3, ← eat] at fd
  have rsm := fun u Q => s_rowSum (sc := sc) (σ := τ3) (u := u) (Q := Q) (d := d - 1) (h := 4) W3 (by omega) (by omega)
  rw [R3] at rsm
  obtain ⟨o1, o2, o3, o4, o5, o6, o7⟩ := ok
  have l40 : T.2.2.1.length ≤ 40 := o5.2.2.2.2.1
  have eR : (andP (tabP T.1 s) fun t => andP (sevP (nxT (σ 386) (σ 373 14)) (T.1 t) true (nxT (σ 386) (σ 373 14) s.2.2)) fun q =>
    if findL T.2.2.1 (atL t q.1) = none then
      (if T.2.2.1.length = 40 then .inl (4, s.2.1) else andP (needP (nxT (σ 386) (σ 373 14)) 59 q.2) fun s2 => .inr ((T.1, T.2.1, T.2.2.1 ++ [(T.2.2.2.1, atL t q.1)], T.2.2.2.1 + 1, mkU T.2.2.2.2 (atL t q.1)), s2))
    else andP (needP (nxT (σ 386) (σ 373 14)) 59 q.2) fun s2 => (.inr (T, s2) : Fa ⊕ (Tx × Ps))) = if findL T.2.2.1 (atL t l) = none then (if T.2.2.1.length = 40 then .inl (4, s.2.1) else andP (needP (nxT (σ 386) (σ 373 14)) 59 s') fun s2 => .inr ((T.1, T.2.1, T.2.2.1 ++ [(T.2.2.2.1, atL t l)], T.2.2.2.1 + 1, mkU T.2.2.2.2 (atL t l)), s2)) else andP (needP (nxT (σ 386) (σ 373 14)) 59 s') fun s2 => .inr (T, s2) := by
    rw [q1, andP_r, n1, andP_r]
  rw [eR]
  have run3 : ∀ (u : Bool × Nat × Nat × Int) (Q : Rs → HS → Prop), Ex sc d 198 0 [some (vR 373), none, none] [] (wH σ u) Q ↔ Ex sc d 198 41 [some (vR 373), some (vI s.2.1), some (vI t)] [] (wH τ3 u) Q := by
    intro u Q
    rw [run2 u Q, x198_29]
    simp (disch := first | omega | exact notL_I | exact notL_N | exact notL_R | exact oM | exact catS_le (Nat.le_of_ble_eq_true rfl) | exact Nat.le_of_ble_eq_true rfl | rfl) only [x198_0, x198_1, x198_4, x198_5, x198_8, x198_9, x198_10, x198_11, x198_12, x198_15, x198_18, x198_19, x198_20, x198_21, x198_24, x198_25, x198_26, x198_30, x198_31, x198_32, x198_33, x198_36, x198_39, x198_40, x198_42, x198_43, x198_44, x198_45, x198_48, x198_49, x198_50, x198_51, x198_54, x198_55, x198_56, x198_57, x198_60, x198_61, x198_62, x198_65, x198_66, x198_69, x198_70, x198_71, x198_74, x198_76, x198_79, x198_80, x198_81, x198_82, x198_85, x198_86, x198_87, x198_88, x198_89, x198_90, x198_91, x198_94, x198_95, x198_96, x198_97, x198_100, x198_101, x198_102, x198_103, x198_106, x198_107, x198_108, x198_111, x198_115, x198_117, x198_120, x3 u, Kc_some, if_pos, if_neg, ↓reduceIte, not_true_eq_false, not_false_eq_true]
  -- the end: a semicolon
  have fin : ∀ (τ : St) (T' : Tx), Fx σ τ → WfM τ → PcI τ s' → hlR τ 4 = HxT T' → TxOk T' → T'.2.1 = T.2.1 → (∀ (u : Bool × Nat × Nat × Int) (Q : Rs → HS → Prop), Ex sc d 198 0 [some (vR 373), none, none] [] (wH σ u) Q ↔ Ex sc d 198 114 [some (vR 373), some (vI s.2.1), some (vI t)] [] (wH τ u) Q) →
      (∃ T'' s'' ρ, (andP (needP (nxT (σ 386) (σ 373 14)) 59 s') fun s2 => (.inr (T', s2) : Fa ⊕ (Tx × Ps))) = .inr (T'', s'') ∧ Fx σ ρ ∧ WfM ρ ∧ PcI ρ s'' ∧ hlR ρ 4 = HxT T'' ∧ TxOk T'' ∧ T''.2.1 = T.2.1 ∧ RnA sc d 198 0 [some (vR 373), none, none] σ (some (vI 1)) ρ) ∨
      (∃ e ρ, (andP (needP (nxT (σ 386) (σ 373 14)) 59 s') fun s2 => (.inr (T', s2) : Fa ⊕ (Tx × Ps))) = .inl e ∧ Fx σ ρ ∧ WfM ρ ∧ BdI ρ e ∧ RnA sc d 198 0 [some (vR 373), none, none] σ (some (vI 0)) ρ) := by
    intro τ T' F Wt Hc hv ho he run
    rcases s_needR (sc := sc) (d := d - 1) (c := 59) (τ0 := σ) (by omega) Wt Hc (by omega) F.tx.1 F.tx.2 with ⟨s2, ρ, m1, m2, m3, m4⟩ | ⟨e, ρ, m1, m2, m3, m4⟩
    · refine Or.inl ⟨T', s2, ρ, by rw [m1, andP_r], F.trans m2.x, m2.dt.wf Wt, m3, (m2.dt.hl Wt (by omega) (by omega)).trans hv, ho, he, fun u Q => ?_⟩
      rw [run u Q, x198_114]
      simp (disch := first | omega | exact notL_I | exact notL_N | exact notL_R | exact oM | exact catS_le (Nat.le_of_ble_eq_true rfl) | exact Nat.le_of_ble_eq_true rfl | rfl) only [x198_0, x198_1, x198_4, x198_5, x198_8, x198_9, x198_10, x198_11, x198_12, x198_15, x198_18, x198_19, x198_20, x198_21, x198_24, x198_25, x198_26, x198_30, x198_31, x198_32, x198_33, x198_36, x198_39, x198_40, x198_42, x198_43, x198_44, x198_45, x198_48, x198_49, x198_50, x198_51, x198_54, x198_55, x198_56, x198_57, x198_60, x198_61, x198_62, x198_65, x198_66, x198_69, x198_70, x198_71, x198_74, x198_76, x198_79, x198_80, x198_81, x198_82, x198_85, x198_86, x198_87, x198_88, x198_89, x198_90, x198_91, x198_94, x198_95, x198_96, x198_97, x198_100, x198_101, x198_102, x198_103, x198_106, x198_107, x198_108, x198_111, x198_115, x198_117, x198_120, m4 u, Kc_some]
    · refine Or.inr ⟨e, ρ, by rw [m1, andP_l], F.trans m2.x, m2.dt.wf Wt, m3, fun u Q => ?_⟩
      rw [run u Q, x198_114]
      simp (disch := first | omega | exact notL_I | exact notL_N | exact notL_R | exact oM | exact catS_le (Nat.le_of_ble_eq_true rfl) | exact Nat.le_of_ble_eq_true rfl | rfl) only [x198_0, x198_1, x198_4, x198_5, x198_8, x198_9, x198_10, x198_11, x198_12, x198_15, x198_18, x198_19, x198_20, x198_21, x198_24, x198_25, x198_26, x198_30, x198_31, x198_32, x198_33, x198_36, x198_39, x198_40, x198_42, x198_43, x198_44, x198_45, x198_48, x198_49, x198_50, x198_51, x198_54, x198_55, x198_56, x198_57, x198_60, x198_61, x198_62, x198_65, x198_66, x198_69, x198_70, x198_71, x198_74, x198_76, x198_79, x198_80, x198_81, x198_82, x198_85, x198_86, x198_87, x198_88, x198_89, x198_90, x198_91, x198_94, x198_95, x198_96, x198_97, x198_100, x198_101, x198_102, x198_103, x198_106, x198_107, x198_108, x198_111, x198_115, x198_117, x198_120, m4 u, Kc_some]
  cases hf : findL T.2.2.1 (atL t l) with
  | some w =>
    rw [if_neg (by simp)]
    rw [hf] at fd
    have hw := List.mem_of_find?_eq_some hf
    have rn := o5.2.2.1 w hw
    have nw : numO (some w) = w.1 := rfl
    rw [nw] at fd
    have w0 := rn.1
    have w1 := rn.2
    have o40 := o5.2.2.2.1
    have w9 : w.1 < 200 := by
      have : (HxT T).2.2.2.2.1 ≤ 200 := o40.2
      omega
    refine fin τ3 T G3 W3 H3 h3 ⟨o1, o2, o3, o4, o5, o6, o7⟩ rfl (fun u Q => ?_)
    generalize w.1 = W9 at *
    rw [run3 u Q, x198_41]
    simp (disch := first | omega | exact notL_I | exact notL_N | exact notL_R | exact oM | exact catS_le (Nat.le_of_ble_eq_true rfl) | exact Nat.le_of_ble_eq_true rfl | rfl) only [x198_0, x198_1, x198_4, x198_5, x198_8, x198_9, x198_10, x198_11, x198_12, x198_15, x198_18, x198_19, x198_20, x198_21, x198_24, x198_25, x198_26, x198_30, x198_31, x198_32, x198_33, x198_36, x198_39, x198_40, x198_42, x198_43, x198_44, x198_45, x198_48, x198_49, x198_50, x198_51, x198_54, x198_55, x198_56, x198_57, x198_60, x198_61, x198_62, x198_65, x198_66, x198_69, x198_70, x198_71, x198_74, x198_76, x198_79, x198_80, x198_81, x198_82, x198_85, x198_86, x198_87, x198_88, x198_89, x198_90, x198_91, x198_94, x198_95, x198_96, x198_97, x198_100, x198_101, x198_102, x198_103, x198_106, x198_107, x198_108, x198_111, x198_115, x198_117, x198_120, gM_list, RM_list, fd, Kc_some, if_pos, if_neg, ↓reduceIte, not_true_eq_false, not_false_eq_true]
  | none =>
    rw [if_pos rfl]
    rw [hf] at fd
    have nw : numO none = -1 := rfl
    rw [nw] at fd
    by_cases h40 : T.2.2.1.length = 40
    · rw [if_pos h40]
      have h40' : (T.2.2.1.length : Int) = 40 := by omega
      rw [h40'] at rsm
      have bd := fun u Q => s_bad (sc := sc) (d := d - 1) (σ := τ3) (k := 4) (p := s.2.1) H3.2.1 u Q
      refine Or.inr ⟨_, _, rfl, G3.trans bad_v.1.x, bad_v.1.dt.wf W3, bad_v.2, fun u Q => ?_⟩
      rw [run3 u Q, x198_41]
      simp (disch := first | omega | exact notL_I | exact notL_N | exact notL_R | exact oM | exact catS_le (Nat.le_of_ble_eq_true rfl) | exact Nat.le_of_ble_eq_true rfl | rfl) only [x198_0, x198_1, x198_4, x198_5, x198_8, x198_9, x198_10, x198_11, x198_12, x198_15, x198_18, x198_19, x198_20, x198_21, x198_24, x198_25, x198_26, x198_30, x198_31, x198_32, x198_33, x198_36, x198_39, x198_40, x198_42, x198_43, x198_44, x198_45, x198_48, x198_49, x198_50, x198_51, x198_54, x198_55, x198_56, x198_57, x198_60, x198_61, x198_62, x198_65, x198_66, x198_69, x198_70, x198_71, x198_74, x198_76, x198_79, x198_80, x198_81, x198_82, x198_85, x198_86, x198_87, x198_88, x198_89, x198_90, x198_91, x198_94, x198_95, x198_96, x198_97, x198_100, x198_101, x198_102, x198_103, x198_106, x198_107, x198_108, x198_111, x198_115, x198_117, x198_120, gM_list, RM_list, fd, rsm, bd, Kc_some, if_pos, if_neg, ↓reduceIte, not_true_eq_false, not_false_eq_true]
    · rw [if_neg h40]
      have hn199 : τ3 381 4 ≤ 199 := by rw [N3, o6]; omega
      obtain ⟨τ4, A4, x4⟩ := s_addR (sc := sc) (d := d - 1) (σ := τ3) (h := 4) (t := t) (x := τ3 387 0) (y := τ3 387 1) (z := τ3 387 2) (by omega) W3 (by omega) (by omega) hn199 t0 t1 (by rw [e74]; exact hc1) p0 p1 p2
      have W4 := A4.wf W3 (by omega) (by omega) hn199 t0 t1 p0 p1 p2
      have rn4 := A4.rn W3 (by omega) (by omega) hn199 t0 t1 p0 p1 p2
      rw [← eat] at rn4
      have ha4 : HQa τ3 4 τ4 4 := A4.a
      have e82 : τ4 382 = τ3 382 := A4.1 382 (by omega) (by omega) (by omega) (by omega) (by omega) (by omega)
      have e73 : τ4 373 = τ3 373 := A4.1 373 (by omega) (by omega) (by omega) (by omega) (by omega) (by omega)
      have D5 : Dt τ4 (su τ4 373 23 (τ3 381 4)) := Dt.dsu3 (by omega)
      have hv : hlR (su τ4 373 23 (τ3 381 4)) 4 = HxT (T.1, T.2.1, T.2.2.1 ++ [(T.2.2.2.1, atL t l)], T.2.2.2.1 + 1, mkU T.2.2.2.2 (atL t l)) := by
        rw [D5.hl W4 (by omega) (by omega)]
        unfold hlR
        rw [ha4.co, ha4.rl W3 (by omega) (by omega), e82, rn4, R3, N3]
        have z1 : coR τ3 4 = T.1 := congrArg (fun x : Hl => x.1) h3
        have z2 : rlR τ3 4 = T.2.1 := congrArg (fun x : Hl => x.2.1) h3
        have z3 : τ3 382 4 = 0 := congrArg (fun x : Hl => x.2.2.1) h3
        have z4 : naR τ3 4 = T.2.2.2.2 := congrArg (fun x : Hl => x.2.2.2.2.2.1) h3
        have z5 : stR τ3 4 = [] := congrArg (fun x : Hl => x.2.2.2.2.2.2.1) h3
        have z6 : byR τ3 4 = fun _ => -1 := congrArg (fun x : Hl => x.2.2.2.2.2.2.2) h3
        rw [z1, z2, z3, z4, z5, z6]
        rfl
      have Fx5 : Fx τ3 (su τ4 373 23 (τ3 381 4)) := ⟨A4.rest.trans (RsR.su3 (by omega)), fun g g0 g1 => (A4.q W3 (by omega) (by omega) hn199 p0 p1 p2 (by omega)).trans (HQ.of (fun c _ _ => su_ne (by omega))), by rw [su_ne (by omega), A4.1 393 (by omega) (by omega) (by omega) (by omega) (by omega) (by omega)], by rw [su_off (by omega), e73]⟩
      have H5 : PcI (su τ4 373 23 (τ3 381 4)) s' := by
        unfold PcI PsI
        rw [su_off (by omega), su_off (by omega), su_off (by omega), su_off (by omega), su_off (by omega), e73]
        exact H3
      have okn : okW T.1 (T.2.2.2.1, atL t l) := by
        rw [eat]
        refine ⟨t0, t1, by show 1 ≤ T.1 t; rw [ct]; exact hc1, τ3 387 0, τ3 387 1, τ3 387 2, p0, p1, p2, ?_⟩
        show _ = nrm (T.1 t) _ _ _
        rw [ct, e74]
      have okT : TxOk (T.1, T.2.1, T.2.2.1 ++ [(T.2.2.2.1, atL t l)], T.2.2.2.1 + 1, mkU T.2.2.2.2 (atL t l)) := by
        obtain ⟨s1, s2, s3, s4, s5, s6, s7⟩ := o5
        have mk := fun k => mks_ge (k := k) [atL t l] T.2.2.2.2
        refine ⟨o1, o2, o3, o4, ⟨fun w hw => ?_, srt_app s2 (fun w hw => (s3 w hw).2), fun w hw => ?_, ?_, ?_, fun k => ?_, fun w hw k k0 hk => ?_⟩, ?_, o7⟩
        · rcases List.mem_append.mp hw with h | h
          · exact s1 w h
          · rw [List.mem_singleton.mp h]
            exact okn
        · rcases List.mem_append.mp hw with h | h
          · have := s3 w h
            have e1 : (HxT T).2.2.2.2.1 = T.2.2.2.1 := rfl
            rw [e1] at this
            exact ⟨this.1, by show w.1 < T.2.2.2.1 + 1; omega⟩
          · rw [List.mem_singleton.mp h]
            exact ⟨by show 0 ≤ T.2.2.2.1; omega, by show T.2.2.2.1 < T.2.2.2.1 + 1; omega⟩
        · show 0 ≤ T.2.2.2.1 + 1 ∧ T.2.2.2.1 + 1 ≤ 200
          omega
        · show (T.2.2.1 ++ [(T.2.2.2.1, atL t l)]).length ≤ 40
          rw [List.length_append, List.length_singleton]
          omega
        · exact (mk k s6).1 k
        · rcases List.mem_append.mp hw with h | h
          · exact (mk k s6).2.1 (s7 w h k k0 hk)
          · rw [List.mem_singleton.mp h] at hk
            exact (mk k s6).2.2 _ (List.mem_singleton.mpr rfl) k0 hk
        · show T.2.2.2.1 + 1 = ((T.2.2.1 ++ [(T.2.2.2.1, atL t l)]).length : Int)
          rw [List.length_append, List.length_singleton]
          omega
      refine fin _ _ (G3.trans Fx5) (D5.wf W4) H5 hv okT rfl (fun u Q => ?_)
      have nl : (T.2.2.1.length : Int) ≠ 40 := by omega
      have nl2 : (T.2.2.1.length : Int) ≤ 40 := by omega
      have nl3 : 0 ≤ (T.2.2.1.length : Int) := by omega
      generalize (T.2.2.1.length : Int) = N9 at *
      rw [run3 u Q, x198_41]
      simp (disch := first | omega | exact notL_I | exact notL_N | exact notL_R | exact oM | exact catS_le (Nat.le_of_ble_eq_true rfl) | exact Nat.le_of_ble_eq_true rfl | rfl) only [x198_0, x198_1, x198_4, x198_5, x198_8, x198_9, x198_10, x198_11, x198_12, x198_15, x198_18, x198_19, x198_20, x198_21, x198_24, x198_25, x198_26, x198_30, x198_31, x198_32, x198_33, x198_36, x198_39, x198_40, x198_42, x198_43, x198_44, x198_45, x198_48, x198_49, x198_50, x198_51, x198_54, x198_55, x198_56, x198_57, x198_60, x198_61, x198_62, x198_65, x198_66, x198_69, x198_70, x198_71, x198_74, x198_76, x198_79, x198_80, x198_81, x198_82, x198_85, x198_86, x198_87, x198_88, x198_89, x198_90, x198_91, x198_94, x198_95, x198_96, x198_97, x198_100, x198_101, x198_102, x198_103, x198_106, x198_107, x198_108, x198_111, x198_115, x198_117, x198_120, gM_list, RM_list, fd, rsm, x4 u, pM_last, Kc_some, if_pos, if_neg, ↓reduceIte, not_true_eq_false, not_false_eq_true]
end L8
