/-! runs of the reference: rows added, steps noted -/
section M1
variable {sc : Scr}
theorem l_addN {h t n m : Int} {σ1 : St} {d : Nat} {l3 l4 l5 l6 : Option V} (hd : 1 ≤ d) (h1 : 0 ≤ h) (h2 : h ≤ 4) (t1 : 0 ≤ t) (t2 : t ≤ 25) (n1 : 0 ≤ n) (n2 : n ≤ 199) (hm : σ1 374 (26 * h + t) = m) (m3 : m ≤ 3) (hT : ∀ c, 0 ≤ c → c < 3 → isTm (σ1 379 (3 * (200 * h + n) + c))) : ∀ (k : Nat) (c : Int) (ρ : St), 0 ≤ c → c + k = m → (∀ a, a ≠ 385 → ρ a = σ1 a) →
    ∃ ρ', (∀ a, a ≠ 385 → ρ' a = σ1 a) ∧ (∀ j, (∃ e, c ≤ e ∧ e < m ∧ 1000 ≤ σ1 379 (3 * (200 * h + n) + e) ∧ j = 100 * h + σ1 379 (3 * (200 * h + n) + e) - 1000) → ρ' 385 j = 1) ∧ (∀ j, ¬ (∃ e, c ≤ e ∧ e < m ∧ 1000 ≤ σ1 379 (3 * (200 * h + n) + e) ∧ j = 100 * h + σ1 379 (3 * (200 * h + n) + e) - 1000) → ρ' 385 j = ρ 385 j) ∧ ∀ (u : Bool × Nat × Nat × Int) (Q : Rs → HS → Prop), Ex sc d 205 91 [some (vR 373), some (vI h), some (vI t), l3, l4, l5, some (vI n), some (vI (200 * h + n)), some (vI c)] [] (wH ρ u) Q ↔ Q (.inl (some (vI (n)))) (wH ρ' u) := by
  intro k
  induction k with
  | zero =>
    intro c ρ c0 ck e
    have ec : ρ 374 (26 * h + t) = m := by rw [e 374 (by omega)]; exact hm
    refine ⟨ρ, e, fun j => ?_, fun j _ => rfl, fun u Q => ?_⟩
    · rintro ⟨z, q1, q2, _⟩; omega
    · rw [x205_91]
      simp (disch := first | omega | exact notL_I | exact notL_N | exact notL_R | exact oM | exact catS_le (Nat.le_of_ble_eq_true rfl) | rfl) only [x205_0, x205_1, x205_4, x205_5, x205_6, x205_8, x205_9, x205_12, x205_13, x205_14, x205_15, x205_16, x205_17, x205_18, x205_21, x205_22, x205_23, x205_25, x205_26, x205_28, x205_29, x205_32, x205_34, x205_35, x205_36, x205_37, x205_40, x205_42, x205_43, x205_44, x205_45, x205_48, x205_49, x205_51, x205_52, x205_53, x205_54, x205_55, x205_58, x205_59, x205_61, x205_62, x205_63, x205_64, x205_66, x205_67, x205_68, x205_71, x205_72, x205_74, x205_75, x205_76, x205_77, x205_79, x205_80, x205_81, x205_84, x205_86, x205_87, x205_88, x205_89, x205_93, x205_94, x205_95, x205_96, x205_99, x205_102, x205_103, x205_106, x205_107, x205_109, x205_110, x205_112, x205_113, x205_114, x205_117, x205_120, x205_121, x205_124, x205_126, x205_127, x205_128, x205_129, x205_132, x205_133, x205_135, x205_136, x205_138, x205_139, x205_140, x205_141, x205_144, x205_145, x205_146, x205_147, x205_150, x205_153, x205_155, oM, s_colsOf, ec, Kc_some, if_pos, if_neg, ↓reduceIte, not_true_eq_false, not_false_eq_true]
  | succ k ih =>
    intro c ρ c0 ck e
    have ec : ρ 374 (26 * h + t) = m := by rw [e 374 (by omega)]; exact hm
    have e9 : ρ 379 = σ1 379 := e 379 (by omega)
    have tc := isTm_in (hT c c0 (by omega))
    have tc2 := hT c c0 (by omega)
    unfold isTm at tc2
    by_cases hc : 1000 ≤ σ1 379 (3 * (200 * h + n) + c)
    · obtain ⟨ρ', q1, q2, q3, q4⟩ := ih (c + 1) (su ρ 385 (100 * h + σ1 379 (3 * (200 * h + n) + c) - 1000) 1) (by omega) (by omega) (fun a ha => by rw [su_ne ha]; exact e a ha)
      refine ⟨ρ', q1, fun j hj => ?_, fun j hj => ?_, fun u Q => ?_⟩
      · obtain ⟨z, z1, z2, z3, z4⟩ := hj
        by_cases hz : z = c
        · subst hz
          by_cases hq : ∃ e, z + 1 ≤ e ∧ e < m ∧ 1000 ≤ σ1 379 (3 * (200 * h + n) + e) ∧ j = 100 * h + σ1 379 (3 * (200 * h + n) + e) - 1000
          · exact q2 j hq
          · rw [q3 j hq, z4, su_eq]
        · exact q2 j ⟨z, by omega, z2, z3, z4⟩
      · rw [q3 j (fun ⟨z, z1, z2, z3⟩ => hj ⟨z, by omega, z2, z3⟩), su_off (fun z => hj ⟨c, by omega, by omega, hc, z⟩)]
      · have q5 := q4 u Q
        rw [x205_91]
        simp (disch := first | omega | exact notL_I | exact notL_N | exact notL_R | exact oM | exact catS_le (Nat.le_of_ble_eq_true rfl) | rfl) only [x205_0, x205_1, x205_4, x205_5, x205_6, x205_8, x205_9, x205_12, x205_13, x205_14, x205_15, x205_16, x205_17, x205_18, x205_21, x205_22, x205_23, x205_25, x205_26, x205_28, x205_29, x205_32, x205_34, x205_35, x205_36, x205_37, x205_40, x205_42, x205_43, x205_44, x205_45, x205_48, x205_49, x205_51, x205_52, x205_53, x205_54, x205_55, x205_58, x205_59, x205_61, x205_62, x205_63, x205_64, x205_66, x205_67, x205_68, x205_71, x205_72, x205_74, x205_75, x205_76, x205_77, x205_79, x205_80, x205_81, x205_84, x205_86, x205_87, x205_88, x205_89, x205_93, x205_94, x205_95, x205_96, x205_99, x205_102, x205_103, x205_106, x205_107, x205_109, x205_110, x205_112, x205_113, x205_114, x205_117, x205_120, x205_121, x205_124, x205_126, x205_127, x205_128, x205_129, x205_132, x205_133, x205_135, x205_136, x205_138, x205_139, x205_140, x205_141, x205_144, x205_145, x205_146, x205_147, x205_150, x205_153, x205_155, oM, s_colsOf, ec, Kc_some, gM_terms, RM_terms, e9, gM_named, WM_named, if_pos, if_neg, ↓reduceIte, not_true_eq_false, not_false_eq_true]
        exact q5
    · obtain ⟨ρ', q1, q2, q3, q4⟩ := ih (c + 1) ρ (by omega) (by omega) e
      refine ⟨ρ', q1, fun j hj => ?_, fun j hj => ?_, fun u Q => ?_⟩
      · obtain ⟨z, z1, z2, z3, z4⟩ := hj
        refine q2 j ⟨z, ?_, z2, z3, z4⟩
        by_cases hz : z = c
        · subst hz; exact absurd z3 hc
        · omega
      · exact q3 j (fun ⟨z, z1, z2, z3⟩ => hj ⟨z, by omega, z2, z3⟩)
      · have q5 := q4 u Q
        rw [x205_91]
        simp (disch := first | omega | exact notL_I | exact notL_N | exact notL_R | exact oM | exact catS_le (Nat.le_of_ble_eq_true rfl) | rfl) only [x205_0, x205_1, x205_4, x205_5, x205_6, x205_8, x205_9, x205_12, x205_13, x205_14, x205_15, x205_16, x205_17, x205_18, x205_21, x205_22, x205_23, x205_25, x205_26, x205_28, x205_29, x205_32, x205_34, x205_35, x205_36, x205_37, x205_40, x205_42, x205_43, x205_44, x205_45, x205_48, x205_49, x205_51, x205_52, x205_53, x205_54, x205_55, x205_58, x205_59, x205_61, x205_62, x205_63, x205_64, x205_66, x205_67, x205_68, x205_71, x205_72, x205_74, x205_75, x205_76, x205_77, x205_79, x205_80, x205_81, x205_84, x205_86, x205_87, x205_88, x205_89, x205_93, x205_94, x205_95, x205_96, x205_99, x205_102, x205_103, x205_106, x205_107, x205_109, x205_110, x205_112, x205_113, x205_114, x205_117, x205_120, x205_121, x205_124, x205_126, x205_127, x205_128, x205_129, x205_132, x205_133, x205_135, x205_136, x205_138, x205_139, x205_140, x205_141, x205_144, x205_145, x205_146, x205_147, x205_150, x205_153, x205_155, oM, s_colsOf, ec, Kc_some, gM_terms, RM_terms, e9, if_pos, if_neg, ↓reduceIte, not_true_eq_false, not_false_eq_true]
        exact q5
theorem s_addR {h t x y z : Int} {σ : St} {d : Nat} (hd : 1 ≤ d) (W : WfM σ) (h1 : 0 ≤ h) (h2 : h ≤ 4) (hn : σ 381 h ≤ 199) (t1 : 0 ≤ t) (t2 : t ≤ 25) (hm1 : 1 ≤ σ 374 (26 * h + t)) (hx : isTm x) (hy : isTm y) (hz : isTm z) : ∃ τ, AddF σ τ h t x y z ∧ RnA sc d 205 0 [some (vR 373), some (vI h), some (vI t), some (vI x), some (vI y), some (vI z), none, none, none] σ (some (vI (σ 381 h))) τ := by
  have w := W.nxt h1 h2
  have wc := W.col h1 h2 t1 t2
  generalize hN : σ 381 h = n at *
  generalize hσ1 : su (su (su (su (su (su (su σ 381 h (n + 1)) 377 (200 * h + n) 1) 378 (200 * h + n) t) 379 (3 * (200 * h + n)) x) 379 (3 * (200 * h + n) + 1) y) 379 (3 * (200 * h + n) + 2) z) 380 (200 * h + n) (-1) = σ1
  have s9 : ∀ j, σ1 379 j = if j = 3 * (200 * h + n) + 2 then z else if j = 3 * (200 * h + n) + 1 then y else if j = 3 * (200 * h + n) then x else σ 379 j := fun j => by
    rw [← hσ1, su_ne (by omega), su_at, su_at, su_at, su_ne (by omega), su_ne (by omega), su_ne (by omega)]
  have s4 : σ1 374 = σ 374 := by rw [← hσ1, su_ne (by omega), su_ne (by omega), su_ne (by omega), su_ne (by omega), su_ne (by omega), su_ne (by omega), su_ne (by omega)]
  have s5 : σ1 385 = σ 385 := by rw [← hσ1, su_ne (by omega), su_ne (by omega), su_ne (by omega), su_ne (by omega), su_ne (by omega), su_ne (by omega), su_ne (by omega)]
  have t0 : σ1 379 (3 * (200 * h + n) + 0) = x := by rw [s9, if_neg (by omega), if_neg (by omega), if_pos (by omega)]
  have tt1 : σ1 379 (3 * (200 * h + n) + 1) = y := by rw [s9, if_neg (by omega), if_pos (by omega)]
  have tt2 : σ1 379 (3 * (200 * h + n) + 2) = z := by rw [s9, if_pos (by omega)]
  have hT : ∀ c, 0 ≤ c → c < 3 → isTm (σ1 379 (3 * (200 * h + n) + c)) := by
    intro c c0 c1
    rcases (show c = 0 ∨ c = 1 ∨ c = 2 by omega) with rfl | rfl | rfl
    · rw [t0]; exact hx
    · rw [tt1]; exact hy
    · rw [tt2]; exact hz
  obtain ⟨τ, q1, q2, q3, q4⟩ := l_addN (sc := sc) (d := d) (σ1 := σ1) (l3 := some (vI x)) (l4 := some (vI y)) (l5 := some (vI z)) (l6 := none) hd h1 h2 t1 t2 w.1 hn (by rw [s4]) wc.2 hT (σ 374 (26 * h + t)).toNat 0 σ1 (by omega) (by omega) (fun _ _ => rfl)
  refine ⟨τ, ⟨fun c a1 a2 a3 a4 a5 a6 => ?_, fun j => ?_, fun j => ?_, fun j => ?_, fun j => ?_, fun j => ?_, fun j => ?_⟩, fun u Q => ?_⟩
  · rw [q1 c a6, ← hσ1, su_ne a4, su_ne a3, su_ne a3, su_ne a3, su_ne a2, su_ne a1, su_ne a5]
  · rw [hN, q1 377 (by omega), ← hσ1, su_ne (by omega), su_ne (by omega), su_ne (by omega), su_ne (by omega), su_ne (by omega), su_at, su_ne (by omega)]
  · rw [hN, q1 378 (by omega), ← hσ1, su_ne (by omega), su_ne (by omega), su_ne (by omega), su_ne (by omega), su_at, su_ne (by omega), su_ne (by omega)]
  · rw [hN, q1 379 (by omega), s9]
    repeat' split
    all_goals first | rfl | (exfalso; omega)
  · rw [hN, q1 380 (by omega), ← hσ1, su_at, su_ne (by omega), su_ne (by omega), su_ne (by omega), su_ne (by omega), su_ne (by omega), su_ne (by omega)]
  · rw [hN, q1 381 (by omega), ← hσ1, su_ne (by omega), su_ne (by omega), su_ne (by omega), su_ne (by omega), su_ne (by omega), su_ne (by omega), su_at]
  · by_cases hcond : (1000 ≤ x ∧ j = 100 * h + x - 1000) ∨ (2 ≤ σ 374 (26 * h + t) ∧ 1000 ≤ y ∧ j = 100 * h + y - 1000) ∨ (3 ≤ σ 374 (26 * h + t) ∧ 1000 ≤ z ∧ j = 100 * h + z - 1000)
    · rw [if_pos hcond]
      rcases hcond with c | c | c
      · exact q2 j ⟨0, by omega, by omega, by rw [t0]; exact c.1, by rw [t0]; exact c.2⟩
      · exact q2 j ⟨1, by omega, by omega, by rw [tt1]; exact c.2.1, by rw [tt1]; exact c.2.2⟩
      · exact q2 j ⟨2, by omega, by omega, by rw [tt2]; exact c.2.1, by rw [tt2]; exact c.2.2⟩
    · rw [if_neg hcond, q3 j (by
        rintro ⟨e, e0, e1, e2, e3⟩
        rcases (show e = 0 ∨ e = 1 ∨ e = 2 by omega) with rfl | rfl | rfl
        · rw [t0] at e2 e3; exact hcond (Or.inl ⟨e2, e3⟩)
        · rw [tt1] at e2 e3; exact hcond (Or.inr (Or.inl ⟨by omega, e2, e3⟩))
        · rw [tt2] at e2 e3; exact hcond (Or.inr (Or.inr ⟨by omega, e2, e3⟩))), s5]
  · refine Iff.trans ?_ (q4 u Q)
    simp (disch := first | omega | exact notL_I | exact notL_N | exact notL_R | exact oM | exact catS_le (Nat.le_of_ble_eq_true rfl) | rfl) only [x205_0, x205_1, x205_4, x205_5, x205_6, x205_8, x205_9, x205_12, x205_13, x205_14, x205_15, x205_16, x205_17, x205_18, x205_21, x205_22, x205_23, x205_25, x205_26, x205_28, x205_29, x205_32, x205_34, x205_35, x205_36, x205_37, x205_40, x205_42, x205_43, x205_44, x205_45, x205_48, x205_49, x205_51, x205_52, x205_53, x205_54, x205_55, x205_58, x205_59, x205_61, x205_62, x205_63, x205_64, x205_66, x205_67, x205_68, x205_71, x205_72, x205_74, x205_75, x205_76, x205_77, x205_79, x205_80, x205_81, x205_84, x205_86, x205_87, x205_88, x205_89, x205_93, x205_94, x205_95, x205_96, x205_99, x205_102, x205_103, x205_106, x205_107, x205_109, x205_110, x205_112, x205_113, x205_114, x205_117, x205_120, x205_121, x205_124, x205_126, x205_127, x205_128, x205_129, x205_132, x205_133, x205_135, x205_136, x205_138, x205_139, x205_140, x205_141, x205_144, x205_145, x205_146, x205_147, x205_150, x205_153, x205_155, gM_nextRow, gM_there, gM_rowTable, gM_terms, gM_byStep, RM_nextRow, WM_nextRow, WM_there, WM_rowTable, WM_terms, WM_byStep, hN, hσ1]
/-- what a run of hall h may change (reference) -/
def Mf (h : Int) (σ τ : St) : Prop := RsR σ τ ∧ (∀ c, 374 ≤ c → c ≤ 376 → τ c = σ c) ∧ (∀ g, g ≠ h → HQ σ g τ g) ∧ WfM τ ∧ τ 373 0 = σ 373 0
theorem Mf.trans {h : Int} {σ τ ρ : St} (a : Mf h σ τ) (b : Mf h τ ρ) : Mf h σ ρ := ⟨a.1.trans b.1, fun c x y => (b.2.1 c x y).trans (a.2.1 c x y), fun g hg => (a.2.2.1 g hg).trans (b.2.2.1 g hg), b.2.2.2.1, b.2.2.2.2.trans a.2.2.2.2⟩
theorem Mf.refl {h : Int} {σ : St} (W : WfM σ) : Mf h σ σ := ⟨RsR.refl, fun _ _ _ => rfl, fun _ _ => HQ.refl, W, rfl⟩
theorem AddF.mf {h t x y z : Int} {σ τ : St} (A : AddF σ τ h t x y z) (W : WfM σ) (h1 : 0 ≤ h) (h2 : h ≤ 4) (hn : σ 381 h ≤ 199) (t1 : 0 ≤ t) (t2 : t ≤ 25) (hx : isTm x) (hy : isTm y) (hz : isTm z) : Mf h σ τ := ⟨A.rest, fun c a b => A.1 c (by omega) (by omega) (by omega) (by omega) (by omega) (by omega), fun g hg => A.q W h1 h2 hn hx hy hz hg, A.wf W h1 h2 hn t1 t2 hx hy hz, by rw [A.1 373 (by omega) (by omega) (by omega) (by omega) (by omega) (by omega)]⟩
/-- nothing of the halls changes -/
theorem Mf.dt {h : Int} {σ τ : St} (W : WfM σ) (D : ∀ c, 374 ≤ c → c ≤ 386 → τ c = σ c) (R : RsR σ τ) (z : τ 373 0 = σ 373 0) : Mf h σ τ := ⟨R, fun c a b => D c a (by omega), fun g _ => HQ.of (fun c a b => D c a (by omega)), Dt.wf ⟨D, R.2.2.2.1⟩ W, z⟩
theorem Mf.ru {h : Int} {σ τ : St} (M : Mf h σ τ) {g r : Int} : ruR τ g r = ruR σ g r := by
  have e4 := M.2.1 374 (by omega) (by omega)
  have e6 := M.2.1 376 (by omega) (by omega)
  have ea : ∀ s i, atR τ g r s i = atR σ g r s i := fun s i => by unfold atR; rw [e4, e6]
  have es : ∀ s (k : Nat) (i : Int), atsF τ g r s k i = atsF σ g r s k i := by
    intro s k
    induction k with
    | zero => intro i; rfl
    | succ k ih => intro i; rw [atsF, atsF, ea, ih]
  unfold ruR
  rw [e6, es, es]
theorem Mf.co {h : Int} {σ τ : St} (M : Mf h σ τ) {g : Int} : coR τ g = coR σ g := by
  unfold coR
  rw [M.2.1 374 (by omega) (by omega)]
theorem Mf.rl {h : Int} {σ τ : St} (M : Mf h σ τ) {g : Int} : rlR τ g = rlR σ g := by
  have : ∀ (k : Nat) (r : Int), rlF τ g k r = rlF σ g k r := by
    intro k
    induction k with
    | zero => intro r; rfl
    | succ k ih => intro r; rw [rlF, rlF, M.ru, ih]
  unfold rlR
  rw [M.2.1 375 (by omega) (by omega), this]
/-- a step noted -/
def tlS (σ : St) (h r made v0 v1 v2 a b : Int) : St := su (su (su (su (su (su (su (su σ 383 h (σ 383 h + 1)) 384 (8 * (128 * h + σ 383 h) + 0) r) 384 (8 * (128 * h + σ 383 h) + 1) made) 384 (8 * (128 * h + σ 383 h) + (2 + 0)) v0) 384 (8 * (128 * h + σ 383 h) + (2 + (0 + 1))) v1) 384 (8 * (128 * h + σ 383 h) + (2 + (0 + 1 + 1))) v2) 384 (8 * (128 * h + σ 383 h) + 5) a) 384 (8 * (128 * h + σ 383 h) + 6) b
theorem tlS_o {σ : St} {h r made v0 v1 v2 a b : Int} : (∀ c, c ≠ 383 → c ≠ 384 → tlS σ h r made v0 v1 v2 a b c = σ c) ∧ (∀ j, tlS σ h r made v0 v1 v2 a b 383 j = if j = h then σ 383 h + 1 else σ 383 j) ∧ (∀ j, tlS σ h r made v0 v1 v2 a b 384 j = if j = 8 * (128 * h + σ 383 h) + 6 then b else if j = 8 * (128 * h + σ 383 h) + 5 then a else if j = 8 * (128 * h + σ 383 h) + 4 then v2 else if j = 8 * (128 * h + σ 383 h) + 3 then v1 else if j = 8 * (128 * h + σ 383 h) + 2 then v0 else if j = 8 * (128 * h + σ 383 h) + 1 then made else if j = 8 * (128 * h + σ 383 h) then r else σ 384 j) := by
  unfold tlS
  refine ⟨fun c a b => ?_, fun j => ?_, fun j => ?_⟩
  · rw [su_ne b, su_ne b, su_ne b, su_ne b, su_ne b, su_ne b, su_ne b, su_ne a]
  · rw [su_ne (by omega), su_ne (by omega), su_ne (by omega), su_ne (by omega), su_ne (by omega), su_ne (by omega), su_ne (by omega), su_at]
  · rw [su_at, su_at, su_at, su_at, su_at, su_at, su_at, su_ne (by omega)]
    rw [show 8 * (128 * h + σ 383 h) + (2 + (0 + 1 + 1)) = 8 * (128 * h + σ 383 h) + 4 by omega, show 8 * (128 * h + σ 383 h) + (2 + (0 + 1)) = 8 * (128 * h + σ 383 h) + 3 by omega, show 8 * (128 * h + σ 383 h) + (2 + 0) = 8 * (128 * h + σ 383 h) + 2 by omega, Int.add_zero]
theorem stF_snoc {σ : St} {h : Int} : ∀ (k : Nat) (i : Int), stF σ h (k + 1) i = stF σ h k i ++ [[σ 384 (8 * (128 * h + (i + k))), σ 384 (8 * (128 * h + (i + k)) + 1), σ 384 (8 * (128 * h + (i + k)) + 2), σ 384 (8 * (128 * h + (i + k)) + 3), σ 384 (8 * (128 * h + (i + k)) + 4), σ 384 (8 * (128 * h + (i + k)) + 5), σ 384 (8 * (128 * h + (i + k)) + 6)]] := by
  intro k
  induction k with
  | zero => intro i; rw [stF, stF, stF, Int.natCast_zero, Int.add_zero, List.nil_append]
  | succ k ih =>
    intro i
    rw [stF, ih (i + 1), stF, List.cons_append]
    rw [show i + 1 + (k : Int) = i + ((k + 1 : Nat) : Int) by omega]
theorem tlS_v {σ : St} {h r made v0 v1 v2 a b : Int} (W : WfM σ) (h1 : 0 ≤ h) (h2 : h ≤ 4) (hs : σ 383 h ≤ 99) : Mf h σ (tlS σ h r made v0 v1 v2 a b) ∧ rnR (tlS σ h r made v0 v1 v2 a b) h = (rsR σ h, σ 381 h, naR σ h, stR σ h ++ [[r, made, v0, v1, v2, a, b]], byR σ h) := by
  obtain ⟨e, e3, e4⟩ := tlS_o (σ := σ) (h := h) (r := r) (made := made) (v0 := v0) (v1 := v1) (v2 := v2) (a := a) (b := b)
  have w := W.stp h1 h2
  refine ⟨⟨RsR.of (fun c _ _ => e c (by omega) (by omega)) (fun j _ => by rw [e 373 (by omega) (by omega)]), fun c x y => e c (by omega) (by omega), fun g hg => ?_, ?_, by rw [e 373 (by omega) (by omega)]⟩, ?_⟩
  · refine ⟨HQa.of (fun c x y => e c (by omega) (by omega)), ⟨fun n _ _ => ⟨by rw [e 377 (by omega) (by omega)], by rw [e 378 (by omega) (by omega)]⟩, fun n _ _ => by rw [e 379 (by omega) (by omega)], by rw [e 381 (by omega) (by omega)], fun k _ _ => by rw [e 385 (by omega) (by omega)]⟩, ⟨fun n _ _ => by rw [e 380 (by omega) (by omega)], by rw [e 382 (by omega) (by omega)], by rw [e3, if_neg hg], fun k k0 k1 => ?_⟩⟩
    rw [e4, if_neg (by omega), if_neg (by omega), if_neg (by omega), if_neg (by omega), if_neg (by omega), if_neg (by omega), if_neg (by omega)]
  · refine WfM.mk W ?_ ?_ ?_ ?_ ?_ ?_ ?_ ?_ ?_ ?_ ?_ ?_ ?_
    · rw [e 374 (by omega) (by omega)]; exact W.p4
    · rw [e 375 (by omega) (by omega)]; exact W.p5
    · intro i i0 i1; exact okU_c (W.p6 i i0 i1) (fun k _ _ => by rw [e 376 (by omega) (by omega)])
    · rw [e 377 (by omega) (by omega)]; exact W.p7
    · rw [e 378 (by omega) (by omega)]; exact W.p8
    · rw [e 379 (by omega) (by omega)]; exact W.p9
    · rw [e 380 (by omega) (by omega)]; exact W.p0
    · rw [e 381 (by omega) (by omega)]; exact W.p1
    · rw [e 382 (by omega) (by omega)]; exact W.p2
    · intro i i0 i1; rw [e3]; split; omega; exact W.p3 i i0 i1
    · rw [e 385 (by omega) (by omega)]; exact W.pa
    · exact e 386 (by omega) (by omega)
    · rw [e 373 (by omega) (by omega)]
  · have er : rsR (tlS σ h r made v0 v1 v2 a b) h = rsR σ h := by
      unfold rsR
      rw [e 381 (by omega) (by omega)]
      apply rsF_ext
      intro i _ _
      unfold rwR
      rw [e 377 (by omega) (by omega), e 374 (by omega) (by omega), e 378 (by omega) (by omega), e 379 (by omega) (by omega)]
      exact ⟨rfl, rfl⟩
    have es : stR (tlS σ h r made v0 v1 v2 a b) h = stR σ h ++ [[r, made, v0, v1, v2, a, b]] := by
      have ex : ∀ (k : Nat) (i : Int), 0 ≤ i → i + k ≤ σ 383 h → stF (tlS σ h r made v0 v1 v2 a b) h k i = stF σ h k i := by
        intro k
        induction k with
        | zero => intro i _ _; rfl
        | succ k ih =>
          intro i i0 ik
          have ej : ∀ j, 8 * (128 * h + i) ≤ j → j < 8 * (128 * h + i) + 7 → tlS σ h r made v0 v1 v2 a b 384 j = σ 384 j := fun j j0 j1 => by rw [e4, if_neg (by omega), if_neg (by omega), if_neg (by omega), if_neg (by omega), if_neg (by omega), if_neg (by omega), if_neg (by omega)]
          rw [stF, stF, ih (i + 1) (by omega) (by omega), ej _ (by omega) (by omega), ej _ (by omega) (by omega), ej _ (by omega) (by omega), ej _ (by omega) (by omega), ej _ (by omega) (by omega), ej _ (by omega) (by omega), ej _ (by omega) (by omega)]
      unfold stR
      rw [e3, if_pos rfl, show (σ 383 h + 1).toNat = (σ 383 h).toNat + 1 by omega, stF_snoc, ex _ 0 (by omega) (by omega), show (0 : Int) + ((σ 383 h).toNat : Int) = σ 383 h by omega]
      congr 2
      rw [e4, e4, e4, e4, e4, e4, e4]
      rw [if_neg (by omega), if_neg (by omega), if_neg (by omega), if_neg (by omega), if_neg (by omega), if_neg (by omega), if_pos rfl]
      rw [if_neg (by omega), if_neg (by omega), if_neg (by omega), if_neg (by omega), if_neg (by omega), if_pos rfl]
      rw [if_neg (by omega), if_neg (by omega), if_neg (by omega), if_neg (by omega), if_pos rfl]
      rw [if_neg (by omega), if_neg (by omega), if_neg (by omega), if_pos rfl]
      rw [if_neg (by omega), if_neg (by omega), if_pos rfl]
      rw [if_neg (by omega), if_pos rfl, if_pos rfl]
    have en : naR (tlS σ h r made v0 v1 v2 a b) h = naR σ h := by unfold naR; rw [e 385 (by omega) (by omega)]
    have eb : byR (tlS σ h r made v0 v1 v2 a b) h = byR σ h := by unfold byR; rw [e 381 (by omega) (by omega), e 380 (by omega) (by omega)]
    unfold rnR
    rw [er, es, en, eb, e 381 (by omega) (by omega)]
theorem l_tell1 {h r made a b s k m : Int} {ρ : St} {d : Nat} {u : Bool × Nat × Nat × Int} {Q : Rs → HS → Prop} (hd : 1 ≤ d) (h1 : 0 ≤ h) (h2 : h ≤ 4) (r1 : 0 ≤ r) (r2 : r ≤ 9) (hm : ρ 376 (30 * (10 * h + r) + 0) = m) (m0 : 0 ≤ m) (m3 : m ≤ 3) (k0 : 0 ≤ k) (k2 : k ≤ 2) (s0 : 0 ≤ s) (s1 : s ≤ 127) : Ex sc d 245 39 [some (vR 373), some (vI h), some (vI r), some (vI made), some (vI a), some (vI b), some (vI s), some (vI k)] [] (wH ρ u) Q ↔ Ex sc d 245 39 [some (vR 373), some (vI h), some (vI r), some (vI made), some (vI a), some (vI b), some (vI s), some (vI (k + 1))] [] (wH (su ρ 384 (8 * (128 * h + s) + (2 + k)) (if k < m then ρ 391 k else -1)) u) Q := by
  rw [x245_39]
  by_cases hk : k < m
  · rw [if_pos hk]
    simp (disch := first | omega | exact notL_I | exact notL_N | exact notL_R | exact oM | exact catS_le (Nat.le_of_ble_eq_true rfl) | exact Nat.le_of_ble_eq_true rfl | rfl) only [x245_0, x245_1, x245_4, x245_5, x245_6, x245_8, x245_9, x245_12, x245_13, x245_14, x245_15, x245_16, x245_17, x245_18, x245_19, x245_20, x245_22, x245_23, x245_24, x245_27, x245_28, x245_29, x245_31, x245_32, x245_33, x245_36, x245_37, x245_41, x245_42, x245_45, x245_46, x245_47, x245_49, x245_50, x245_52, x245_53, x245_55, x245_56, x245_57, x245_58, x245_59, x245_62, x245_65, x245_66, x245_69, x245_71, x245_72, x245_75, x245_76, x245_79, x245_82, x245_85, x245_86, x245_87, x245_89, x245_90, x245_92, x245_95, x245_96, x245_97, x245_99, x245_101, x245_103, x245_106, x245_108, s_setStep, s_rule, hm, gM_bestRow, RM_bestRow, Kc_some, Kc_none, if_pos, if_neg, ↓reduceIte, not_true_eq_false, not_false_eq_true]
  · rw [if_neg hk]
    simp (disch := first | omega | exact notL_I | exact notL_N | exact notL_R | exact oM | exact catS_le (Nat.le_of_ble_eq_true rfl) | exact Nat.le_of_ble_eq_true rfl | rfl) only [x245_0, x245_1, x245_4, x245_5, x245_6, x245_8, x245_9, x245_12, x245_13, x245_14, x245_15, x245_16, x245_17, x245_18, x245_19, x245_20, x245_22, x245_23, x245_24, x245_27, x245_28, x245_29, x245_31, x245_32, x245_33, x245_36, x245_37, x245_41, x245_42, x245_45, x245_46, x245_47, x245_49, x245_50, x245_52, x245_53, x245_55, x245_56, x245_57, x245_58, x245_59, x245_62, x245_65, x245_66, x245_69, x245_71, x245_72, x245_75, x245_76, x245_79, x245_82, x245_85, x245_86, x245_87, x245_89, x245_90, x245_92, x245_95, x245_96, x245_97, x245_99, x245_101, x245_103, x245_106, x245_108, s_setStep, s_rule, hm, Kc_some, Kc_none, if_pos, if_neg, ↓reduceIte, not_true_eq_false, not_false_eq_true]
theorem s_tells {h r made a b : Int} {q : List Rw} {σ : St} {d : Nat} (hd : 1 ≤ d) (W : WfM σ) (h1 : 0 ≤ h) (h2 : h ≤ 4) (r1 : 0 ≤ r) (r2 : r ≤ 9) (hs : σ 383 h ≤ 99) (hl : (q.length : Int) = σ 376 (30 * (10 * h + r))) (hq : ∀ (j : Nat) (w : Rw), q[j]? = some w → σ 391 j = w.1) : RnA sc d 245 0 [some (vR 373), some (vI h), some (vI r), some (vI made), some (vI a), some (vI b), none, none] σ (some (vI (σ 383 h))) (tlS σ h r made (numO q[0]?) (numO q[1]?) (numO q[2]?) a b) := by
  have wr := W.rul h1 h2 r1 r2
  have w := W.stp h1 h2
  have nn : ∀ j : Nat, numO q[j]? = if (j : Int) < σ 376 (30 * (10 * h + r)) then σ 391 j else -1 := by
    intro j
    by_cases hj : j < q.length
    · rw [if_pos (by omega), List.getElem?_eq_getElem hj, hq j _ (List.getElem?_eq_getElem hj)]
      rfl
    · rw [if_neg (by omega), List.getElem?_eq_none (by omega)]
      rfl
  intro u Q
  rw [nn 0, nn 1, nn 2]
  show _ ↔ Q _ (wH (tlS σ h r made (if (0 : Int) < σ 376 (30 * (10 * h + r)) then σ 391 0 else -1) (if (0 + 1 : Int) < σ 376 (30 * (10 * h + r)) then σ 391 (0 + 1) else -1) (if (0 + 1 + 1 : Int) < σ 376 (30 * (10 * h + r)) then σ 391 (0 + 1 + 1) else -1) a b) u)
  unfold tlS
  have e0 : σ 376 (30 * (10 * h + r) + 0) = σ 376 (30 * (10 * h + r)) := by rw [Int.add_zero]
  generalize σ 376 (30 * (10 * h + r)) = m at *
  generalize hS : σ 383 h = s at *
  generalize hρ0 : su (su (su σ 383 h (s + 1)) 384 (8 * (128 * h + s) + 0) r) 384 (8 * (128 * h + s) + 1) made = ρ0
  have q0 : ∀ c, c ≠ 383 → c ≠ 384 → ρ0 c = σ c := fun c a b => by rw [← hρ0, su_ne b, su_ne b, su_ne a]
  have L0 := l_tell1 (sc := sc) (d := d) (u := u) (Q := Q) (h := h) (r := r) (made := made) (a := a) (b := b) (s := s) (k := 0) (m := m) (ρ := ρ0) hd h1 h2 r1 r2 (by rw [q0 376 (by omega) (by omega)]; exact e0) (by omega) (by omega) (by omega) (by omega) (by omega) (by omega)
  rw [q0 391 (by omega) (by omega)] at L0
  generalize hρ1 : su ρ0 384 (8 * (128 * h + s) + (2 + 0)) (if 0 < m then σ 391 0 else -1) = ρ1 at L0
  have q1 : ∀ c, c ≠ 383 → c ≠ 384 → ρ1 c = σ c := fun c a b => by rw [← hρ1, su_ne b]; exact q0 c a b
  have L1 := l_tell1 (sc := sc) (d := d) (u := u) (Q := Q) (h := h) (r := r) (made := made) (a := a) (b := b) (s := s) (k := 0 + 1) (m := m) (ρ := ρ1) hd h1 h2 r1 r2 (by rw [q1 376 (by omega) (by omega)]; exact e0) (by omega) (by omega) (by omega) (by omega) (by omega) (by omega)
  rw [q1 391 (by omega) (by omega)] at L1
  generalize hρ2 : su ρ1 384 (8 * (128 * h + s) + (2 + (0 + 1))) (if (0 + 1 : Int) < m then σ 391 (0 + 1) else -1) = ρ2 at L1
  have q2 : ∀ c, c ≠ 383 → c ≠ 384 → ρ2 c = σ c := fun c a b => by rw [← hρ2, su_ne b]; exact q1 c a b
  have L2 := l_tell1 (sc := sc) (d := d) (u := u) (Q := Q) (h := h) (r := r) (made := made) (a := a) (b := b) (s := s) (k := 0 + 1 + 1) (m := m) (ρ := ρ2) hd h1 h2 r1 r2 (by rw [q2 376 (by omega) (by omega)]; exact e0) (by omega) (by omega) (by omega) (by omega) (by omega) (by omega)
  rw [q2 391 (by omega) (by omega)] at L2
  refine Iff.trans ?_ (L0.trans (L1.trans (L2.trans ?_)))
  · simp (disch := first | omega | exact notL_I | exact notL_N | exact notL_R | exact oM | exact catS_le (Nat.le_of_ble_eq_true rfl) | exact Nat.le_of_ble_eq_true rfl | rfl) only [x245_0, x245_1, x245_4, x245_5, x245_6, x245_8, x245_9, x245_12, x245_13, x245_14, x245_15, x245_16, x245_17, x245_18, x245_19, x245_20, x245_22, x245_23, x245_24, x245_27, x245_28, x245_29, x245_31, x245_32, x245_33, x245_36, x245_37, x245_41, x245_42, x245_45, x245_46, x245_47, x245_49, x245_50, x245_52, x245_53, x245_55, x245_56, x245_57, x245_58, x245_59, x245_62, x245_65, x245_66, x245_69, x245_71, x245_72, x245_75, x245_76, x245_79, x245_82, x245_85, x245_86, x245_87, x245_89, x245_90, x245_92, x245_95, x245_96, x245_97, x245_99, x245_101, x245_103, x245_106, x245_108, gM_stepMany, RM_stepMany, WM_stepMany, s_setStep, Kc_some, Kc_none, hS, hρ0]
  · rw [x245_39]
    simp (disch := first | omega | exact notL_I | exact notL_N | exact notL_R | exact oM | exact catS_le (Nat.le_of_ble_eq_true rfl) | exact Nat.le_of_ble_eq_true rfl | rfl) only [x245_0, x245_1, x245_4, x245_5, x245_6, x245_8, x245_9, x245_12, x245_13, x245_14, x245_15, x245_16, x245_17, x245_18, x245_19, x245_20, x245_22, x245_23, x245_24, x245_27, x245_28, x245_29, x245_31, x245_32, x245_33, x245_36, x245_37, x245_41, x245_42, x245_45, x245_46, x245_47, x245_49, x245_50, x245_52, x245_53, x245_55, x245_56, x245_57, x245_58, x245_59, x245_62, x245_65, x245_66, x245_69, x245_71, x245_72, x245_75, x245_76, x245_79, x245_82, x245_85, x245_86, x245_87, x245_89, x245_90, x245_92, x245_95, x245_96, x245_97, x245_99, x245_101, x245_103, x245_106, x245_108, s_setStep, Kc_some, Kc_none, if_pos, if_neg, ↓reduceIte, not_true_eq_false, not_false_eq_true]
end M1
