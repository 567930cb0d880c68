/-! ways of the reference: all ways -/
/-- marked: places of the first kind, of the second -/
def MkR (S T : Int → Prop) (τ ρ : St) : Prop := (∀ c, c ≠ 400 → c ≠ 401 → ρ c = τ c) ∧ (∀ j, 0 ≤ j → j < 6084 → (τ 400 j = 0 ∨ τ 400 j = 1) → (ρ 400 j = 0 ∨ ρ 400 j = 1) ∧ (ρ 400 j = 1 ↔ τ 400 j = 1 ∨ S j)) ∧ ∀ j, 0 ≤ j → j < 6084 → (τ 401 j = 0 ∨ τ 401 j = 1) → (ρ 401 j = 0 ∨ ρ 401 j = 1) ∧ (ρ 401 j = 1 ↔ τ 401 j = 1 ∨ T j)
theorem MkR.refl {S T : Int → Prop} {τ : St} (hS : ∀ j, ¬ S j) (hT : ∀ j, ¬ T j) : MkR S T τ τ := ⟨fun _ _ _ => rfl, fun j _ _ h => ⟨h, ⟨Or.inl, fun z => z.resolve_right (hS j)⟩⟩, fun j _ _ h => ⟨h, ⟨Or.inl, fun z => z.resolve_right (hT j)⟩⟩⟩
theorem MkR.trans {S T S' T' S2 T2 : Int → Prop} {τ ρ π : St} (h1 : MkR S T τ ρ) (h2 : MkR S' T' ρ π) (hS : ∀ j, S2 j ↔ S j ∨ S' j) (hT : ∀ j, T2 j ↔ T j ∨ T' j) : MkR S2 T2 τ π := by
  refine ⟨fun c a b => (h2.1 c a b).trans (h1.1 c a b), fun j j0 j1 h => ?_, fun j j0 j1 h => ?_⟩
  · obtain ⟨a, b⟩ := h1.2.1 j j0 j1 h
    obtain ⟨c, e⟩ := h2.2.1 j j0 j1 a
    exact ⟨c, by rw [e, b, hS, or_assoc]⟩
  · obtain ⟨a, b⟩ := h1.2.2 j j0 j1 h
    obtain ⟨c, e⟩ := h2.2.2 j j0 j1 a
    exact ⟨c, by rw [e, b, hT, or_assoc]⟩
theorem MkR.c {S T S2 T2 : Int → Prop} {τ ρ : St} (h1 : MkR S T τ ρ) (hS : ∀ j, S2 j ↔ S j) (hT : ∀ j, T2 j ↔ T j) : MkR S2 T2 τ ρ := ⟨h1.1, fun j j0 j1 h => by rw [hS]; exact h1.2.1 j j0 j1 h, fun j j0 j1 h => by rw [hT]; exact h1.2.2 j j0 j1 h⟩
theorem MkR.dt {S T : Int → Prop} {τ ρ : St} (h : MkR S T τ ρ) : Dt τ ρ := ⟨fun c _ _ => h.1 c (by omega) (by omega), by rw [h.1 373 (by omega) (by omega)]⟩
section H2
variable {sc : Scr} {h r : Int}
/-- one place behind -/
theorem l_from1 {σ : St} {d : Nat} {i c pl v t p : Int} (hd : 3 ≤ d) (W : WfM σ) (h1 : 0 ≤ h) (h2 : h ≤ 4) (r1 : 0 ≤ r) (r2 : r ≤ 9) (i0 : 0 ≤ i) (i1 : i ≤ 2) (c0 : 0 ≤ c) (c1 : c ≤ 2) (hc : c < σ 374 (26 * h + t)) (hc3 : σ 374 (26 * h + t) ≤ 3) (t0 : 0 ≤ t) (t1 : t ≤ 25) (p0 : 0 ≤ pl) (p1 : pl < 78) (hv : inR v) (ha : atC σ h r 0 (σ 376 (30 * (10 * h + r)))) (hp : σ 376 (30 * (10 * h + r) + (3 + 4 * (3 * 1 + i) + (1 + c))) = p) (pp : isPl p) :
    ∃ ρ, MkR (fun j => j = 78 * pl + (3 * t + c) ∧ 2000 ≤ p ∧ (p = v ∨ mentL (atsF σ h r 0 (σ 376 (30 * (10 * h + r))).toNat 0) p = false)) (fun j => j = 78 * pl + (3 * t + c) ∧ 2000 ≤ p ∧ mentL (atsF σ h r 0 (σ 376 (30 * (10 * h + r))).toNat 0) p = false) σ ρ ∧ ∀ (u : Bool × Nat × Nat × Int) (Q : Rs → HS → Prop) (l8 l9 : Option V), ∃ l8' l9', Ex sc d 271 30 [some (vR 373), some (vI h), some (vI r), some (vI pl), some (vI v), some (vI i), some (vI t), some (vI c), l8, l9] [] (wH σ u) Q ↔ Ex sc d 271 30 [some (vR 373), some (vI h), some (vI r), some (vI pl), some (vI v), some (vI i), some (vI t), some (vI (c + 1)), l8', l9'] [] (wH ρ u) Q := by
  have pp' := isPl_in pp
  obtain ⟨v0, v1⟩ := hv
  have ej : 78 * pl + 3 * t + c = 78 * pl + (3 * t + c) := by omega
  by_cases h20 : 2000 ≤ p
  · have ah := fun u Q => s_isAh (sc := sc) (σ := σ) (u := u) (Q := Q) (d := d - 1) (v := p) (by omega) W h1 h2 r1 r2 ⟨by omega, by omega⟩ (by omega) ha
    cases hm : mentL (atsF σ h r 0 (σ 376 (30 * (10 * h + r))).toNat 0) p with
    | true =>
      rw [hm, bI_t] at ah
      by_cases hpv : p = v
      · refine ⟨su σ 400 (78 * pl + (3 * t + c)) 1, ⟨fun c a _ => su_ne a, fun j j0 j1 hj => ?_, fun j j0 j1 hj => ?_⟩, fun u Q l8 l9 => ⟨some (vI p), some (vI 0), ?_⟩⟩
        · by_cases e : j = 78 * pl + (3 * t + c)
          · subst e
            rw [su_eq]
            exact ⟨Or.inr rfl, ⟨fun _ => Or.inr ⟨rfl, h20, Or.inl hpv⟩, fun _ => rfl⟩⟩
          · rw [su_off e]
            exact ⟨hj, ⟨Or.inl, fun z => z.resolve_right (fun y => e y.1)⟩⟩
        · rw [su_ne (by omega)]
          exact ⟨hj, ⟨Or.inl, fun z => z.resolve_right (fun y => by cases y.2.2)⟩⟩
        · subst hpv
          rw [x271_30]
          simp (disch := first | omega | exact notL_I | exact notL_N | exact notL_R | exact oM | exact catS_le (Nat.le_of_ble_eq_true rfl) | exact Nat.le_of_ble_eq_true rfl | rfl) only [x271_0, x271_1, x271_5, x271_6, x271_7, x271_8, x271_9, x271_12, x271_15, x271_16, x271_17, x271_18, x271_19, x271_21, x271_22, x271_25, x271_27, x271_28, x271_32, x271_33, x271_34, x271_36, x271_39, x271_42, x271_43, x271_44, x271_45, x271_46, x271_48, x271_49, x271_51, x271_52, x271_55, x271_57, x271_59, x271_62, x271_65, x271_68, x271_69, x271_70, x271_71, x271_73, x271_76, x271_79, x271_80, x271_83, x271_84, x271_86, x271_88, x271_90, x271_93, x271_95, x271_98, x271_99, x271_102, x271_104, x271_105, x271_106, x271_107, x271_109, x271_110, x271_111, x271_113, x271_114, x271_115, x271_116, x271_118, x271_121, x271_122, x271_125, x271_127, x271_128, x271_129, x271_130, x271_132, x271_133, x271_134, x271_136, x271_137, x271_138, x271_139, x271_142, x271_145, x271_148, x271_151, s_colsOf, s_atom, hp, ah, gM_leadsTo, WM_leadsTo, ej, Kc_some, if_pos, if_neg, ↓reduceIte, not_true_eq_false, not_false_eq_true]
      · refine ⟨σ, MkR.refl (fun j y => ?_) (fun j y => by cases y.2.2), fun u Q l8 l9 => ⟨some (vI p), some (vI 0), ?_⟩⟩
        · rcases y.2.2 with z | z
          · exact hpv z
          · cases z
        · rw [x271_30]
          simp (disch := first | omega | exact notL_I | exact notL_N | exact notL_R | exact oM | exact catS_le (Nat.le_of_ble_eq_true rfl) | exact Nat.le_of_ble_eq_true rfl | rfl) only [x271_0, x271_1, x271_5, x271_6, x271_7, x271_8, x271_9, x271_12, x271_15, x271_16, x271_17, x271_18, x271_19, x271_21, x271_22, x271_25, x271_27, x271_28, x271_32, x271_33, x271_34, x271_36, x271_39, x271_42, x271_43, x271_44, x271_45, x271_46, x271_48, x271_49, x271_51, x271_52, x271_55, x271_57, x271_59, x271_62, x271_65, x271_68, x271_69, x271_70, x271_71, x271_73, x271_76, x271_79, x271_80, x271_83, x271_84, x271_86, x271_88, x271_90, x271_93, x271_95, x271_98, x271_99, x271_102, x271_104, x271_105, x271_106, x271_107, x271_109, x271_110, x271_111, x271_113, x271_114, x271_115, x271_116, x271_118, x271_121, x271_122, x271_125, x271_127, x271_128, x271_129, x271_130, x271_132, x271_133, x271_134, x271_136, x271_137, x271_138, x271_139, x271_142, x271_145, x271_148, x271_151, s_colsOf, s_atom, hp, ah, Kc_some, if_pos, if_neg, ↓reduceIte, not_true_eq_false, not_false_eq_true]
    | false =>
      rw [hm, bI_f] at ah
      refine ⟨su (su σ 400 (78 * pl + (3 * t + c)) 1) 401 (78 * pl + (3 * t + c)) 1, ⟨fun c a b => by rw [su_ne b, su_ne a], fun j j0 j1 hj => ?_, fun j j0 j1 hj => ?_⟩, fun u Q l8 l9 => ⟨some (vI p), some (vI 1), ?_⟩⟩
      · rw [su_ne (by omega)]
        by_cases e : j = 78 * pl + (3 * t + c)
        · subst e
          rw [su_eq]
          exact ⟨Or.inr rfl, ⟨fun _ => Or.inr ⟨rfl, h20, Or.inr rfl⟩, fun _ => rfl⟩⟩
        · rw [su_off e]
          exact ⟨hj, ⟨Or.inl, fun z => z.resolve_right (fun y => e y.1)⟩⟩
      · by_cases e : j = 78 * pl + (3 * t + c)
        · subst e
          rw [su_eq]
          exact ⟨Or.inr rfl, ⟨fun _ => Or.inr ⟨rfl, h20, rfl⟩, fun _ => rfl⟩⟩
        · rw [su_off e, su_ne (by omega)]
          exact ⟨hj, ⟨Or.inl, fun z => z.resolve_right (fun y => e y.1)⟩⟩
      · rw [x271_30]
        by_cases hpv : p = v
        · simp (disch := first | omega | exact notL_I | exact notL_N | exact notL_R | exact oM | exact catS_le (Nat.le_of_ble_eq_true rfl) | exact Nat.le_of_ble_eq_true rfl | rfl) only [x271_0, x271_1, x271_5, x271_6, x271_7, x271_8, x271_9, x271_12, x271_15, x271_16, x271_17, x271_18, x271_19, x271_21, x271_22, x271_25, x271_27, x271_28, x271_32, x271_33, x271_34, x271_36, x271_39, x271_42, x271_43, x271_44, x271_45, x271_46, x271_48, x271_49, x271_51, x271_52, x271_55, x271_57, x271_59, x271_62, x271_65, x271_68, x271_69, x271_70, x271_71, x271_73, x271_76, x271_79, x271_80, x271_83, x271_84, x271_86, x271_88, x271_90, x271_93, x271_95, x271_98, x271_99, x271_102, x271_104, x271_105, x271_106, x271_107, x271_109, x271_110, x271_111, x271_113, x271_114, x271_115, x271_116, x271_118, x271_121, x271_122, x271_125, x271_127, x271_128, x271_129, x271_130, x271_132, x271_133, x271_134, x271_136, x271_137, x271_138, x271_139, x271_142, x271_145, x271_148, x271_151, s_colsOf, s_atom, hp, ah, gM_leadsTo, WM_leadsTo, gM_isNew, WM_isNew, ej, Kc_some, if_pos, if_neg, ↓reduceIte, not_true_eq_false, not_false_eq_true]
        · simp (disch := first | omega | exact notL_I | exact notL_N | exact notL_R | exact oM | exact catS_le (Nat.le_of_ble_eq_true rfl) | exact Nat.le_of_ble_eq_true rfl | rfl) only [x271_0, x271_1, x271_5, x271_6, x271_7, x271_8, x271_9, x271_12, x271_15, x271_16, x271_17, x271_18, x271_19, x271_21, x271_22, x271_25, x271_27, x271_28, x271_32, x271_33, x271_34, x271_36, x271_39, x271_42, x271_43, x271_44, x271_45, x271_46, x271_48, x271_49, x271_51, x271_52, x271_55, x271_57, x271_59, x271_62, x271_65, x271_68, x271_69, x271_70, x271_71, x271_73, x271_76, x271_79, x271_80, x271_83, x271_84, x271_86, x271_88, x271_90, x271_93, x271_95, x271_98, x271_99, x271_102, x271_104, x271_105, x271_106, x271_107, x271_109, x271_110, x271_111, x271_113, x271_114, x271_115, x271_116, x271_118, x271_121, x271_122, x271_125, x271_127, x271_128, x271_129, x271_130, x271_132, x271_133, x271_134, x271_136, x271_137, x271_138, x271_139, x271_142, x271_145, x271_148, x271_151, s_colsOf, s_atom, hp, ah, gM_leadsTo, WM_leadsTo, gM_isNew, WM_isNew, ej, Kc_some, if_pos, if_neg, ↓reduceIte, not_true_eq_false, not_false_eq_true]
  · refine ⟨σ, MkR.refl (fun j y => h20 y.2.1) (fun j y => h20 y.2.1), fun u Q l8 l9 => ⟨some (vI p), l9, ?_⟩⟩
    rw [x271_30]
    simp (disch := first | omega | exact notL_I | exact notL_N | exact notL_R | exact oM | exact catS_le (Nat.le_of_ble_eq_true rfl) | exact Nat.le_of_ble_eq_true rfl | rfl) only [x271_0, x271_1, x271_5, x271_6, x271_7, x271_8, x271_9, x271_12, x271_15, x271_16, x271_17, x271_18, x271_19, x271_21, x271_22, x271_25, x271_27, x271_28, x271_32, x271_33, x271_34, x271_36, x271_39, x271_42, x271_43, x271_44, x271_45, x271_46, x271_48, x271_49, x271_51, x271_52, x271_55, x271_57, x271_59, x271_62, x271_65, x271_68, x271_69, x271_70, x271_71, x271_73, x271_76, x271_79, x271_80, x271_83, x271_84, x271_86, x271_88, x271_90, x271_93, x271_95, x271_98, x271_99, x271_102, x271_104, x271_105, x271_106, x271_107, x271_109, x271_110, x271_111, x271_113, x271_114, x271_115, x271_116, x271_118, x271_121, x271_122, x271_125, x271_127, x271_128, x271_129, x271_130, x271_132, x271_133, x271_134, x271_136, x271_137, x271_138, x271_139, x271_142, x271_145, x271_148, x271_151, s_colsOf, s_atom, hp, Kc_some, if_pos, if_neg, ↓reduceIte, not_true_eq_false, not_false_eq_true]
/-- the places of an atom behind -/
theorem l_fromA {σ : St} {d : Nat} {i pl v t : Int} {f : Int → Int} {as : List At} (hd : 3 ≤ d) (W : WfM σ) (h1 : 0 ≤ h) (h2 : h ≤ 4) (r1 : 0 ≤ r) (r2 : r ≤ 9) (i0 : 0 ≤ i) (i1 : i ≤ 2) (hc3 : σ 374 (26 * h + t) ≤ 3) (t0 : 0 ≤ t) (t1 : t ≤ 25) (p0 : 0 ≤ pl) (p1 : pl < 78) (hv : inR v) (ha : atC σ h r 0 (σ 376 (30 * (10 * h + r)))) (hf : ∀ c, 0 ≤ c → c ≤ 2 → σ 376 (30 * (10 * h + r) + (3 + 4 * (3 * 1 + i) + (1 + c))) = f c ∧ isPl (f c)) (has : atsF σ h r 0 (σ 376 (30 * (10 * h + r))).toNat 0 = as) : ∀ (k : Nat) (c : Int) (τ : St), 0 ≤ c → c + k = σ 374 (26 * h + t) → Dt σ τ →
    ∃ ρ, MkR (fun j => ∃ e, c ≤ e ∧ e < σ 374 (26 * h + t) ∧ j = 78 * pl + (3 * t + e) ∧ 2000 ≤ f e ∧ (f e = v ∨ mentL as (f e) = false)) (fun j => ∃ e, c ≤ e ∧ e < σ 374 (26 * h + t) ∧ j = 78 * pl + (3 * t + e) ∧ 2000 ≤ f e ∧ mentL as (f e) = false) τ ρ ∧ ∀ (u : Bool × Nat × Nat × Int) (Q : Rs → HS → Prop) (l8 l9 : Option V), ∃ l8' l9', Ex sc d 271 30 [some (vR 373), some (vI h), some (vI r), some (vI pl), some (vI v), some (vI i), some (vI t), some (vI c), l8, l9] [] (wH τ u) Q ↔ Ex sc d 271 145 [some (vR 373), some (vI h), some (vI r), some (vI pl), some (vI v), some (vI i), some (vI t), some (vI (σ 374 (26 * h + t))), l8', l9'] [] (wH ρ u) Q := by
  intro k
  induction k with
  | zero =>
    intro c τ c0 ck D
    have e74 : τ 374 (26 * h + t) = σ 374 (26 * h + t) := by rw [D.1 374 (by omega) (by omega)]
    have ec : c = σ 374 (26 * h + t) := by omega
    refine ⟨τ, MkR.refl (fun j ⟨e, a, b, _⟩ => by omega) (fun j ⟨e, a, b, _⟩ => by omega), fun u Q l8 l9 => ⟨l8, l9, ?_⟩⟩
    rw [x271_30, ← ec]
    rw [← ec] at e74
    simp (disch := first | omega | exact notL_I | exact notL_N | exact notL_R | exact oM | exact catS_le (Nat.le_of_ble_eq_true rfl) | exact Nat.le_of_ble_eq_true rfl | rfl) only [x271_0, x271_1, x271_5, x271_6, x271_7, x271_8, x271_9, x271_12, x271_15, x271_16, x271_17, x271_18, x271_19, x271_21, x271_22, x271_25, x271_27, x271_28, x271_32, x271_33, x271_34, x271_36, x271_39, x271_42, x271_43, x271_44, x271_45, x271_46, x271_48, x271_49, x271_51, x271_52, x271_55, x271_57, x271_59, x271_62, x271_65, x271_68, x271_69, x271_70, x271_71, x271_73, x271_76, x271_79, x271_80, x271_83, x271_84, x271_86, x271_88, x271_90, x271_93, x271_95, x271_98, x271_99, x271_102, x271_104, x271_105, x271_106, x271_107, x271_109, x271_110, x271_111, x271_113, x271_114, x271_115, x271_116, x271_118, x271_121, x271_122, x271_125, x271_127, x271_128, x271_129, x271_130, x271_132, x271_133, x271_134, x271_136, x271_137, x271_138, x271_139, x271_142, x271_148, x271_151, s_colsOf, e74, Kc_some, if_pos, if_neg, ↓reduceIte, not_true_eq_false, not_false_eq_true]
  | succ k ih =>
    intro c τ c0 ck D
    have e74 : τ 374 (26 * h + t) = σ 374 (26 * h + t) := by rw [D.1 374 (by omega) (by omega)]
    have e76 : τ 376 = σ 376 := D.1 376 (by omega) (by omega)
    obtain ⟨ρ1, m1, x1⟩ := l_from1 (sc := sc) (h := h) (r := r) (σ := τ) (d := d) (i := i) (c := c) (pl := pl) (v := v) (t := t) (p := f c) hd (D.wf W) h1 h2 r1 r2 i0 i1 c0 (by omega) (by omega) (by omega) t0 t1 p0 p1 hv (by rw [e76]; exact atC_dt D ha) (by rw [e76]; exact (hf c c0 (by omega)).1) (hf c c0 (by omega)).2
    rw [D.ats, e76, has] at m1
    obtain ⟨ρ, m2, x2⟩ := ih (c + 1) ρ1 (by omega) (by omega) (D.trans m1.dt)
    refine ⟨ρ, m1.trans m2 (fun j => ?_) (fun j => ?_), fun u Q l8 l9 => ?_⟩
    · constructor
      · rintro ⟨e, a, b, y⟩
        by_cases hec : e = c
        · subst hec
          exact Or.inl y
        · exact Or.inr ⟨e, by omega, b, y⟩
      · rintro (y | ⟨e, a, b, y⟩)
        · exact ⟨c, by omega, by omega, y⟩
        · exact ⟨e, by omega, b, y⟩
    · constructor
      · rintro ⟨e, a, b, y⟩
        by_cases hec : e = c
        · subst hec
          exact Or.inl y
        · exact Or.inr ⟨e, by omega, b, y⟩
      · rintro (y | ⟨e, a, b, y⟩)
        · exact ⟨c, by omega, by omega, y⟩
        · exact ⟨e, by omega, b, y⟩
    · obtain ⟨l8', l9', y1⟩ := x1 u Q l8 l9
      obtain ⟨l8'', l9'', y2⟩ := x2 u Q l8' l9'
      exact ⟨l8'', l9'', y1.trans y2⟩
/-- the atoms behind -/
theorem l_fromB {σ : St} {d : Nat} {pl v : Int} {as : List At} (hd : 3 ≤ d) (W : WfM σ) (h1 : 0 ≤ h) (h2 : h ≤ 4) (r1 : 0 ≤ r) (r2 : r ≤ 9) (p0 : 0 ≤ pl) (p1 : pl < 78) (hv : inR v) (ha : atC σ h r 0 (σ 376 (30 * (10 * h + r)))) (hb : atC σ h r 1 (σ 376 (30 * (10 * h + r) + 2))) (has : atsF σ h r 0 (σ 376 (30 * (10 * h + r))).toNat 0 = as) : ∀ (k : Nat) (i : Int) (τ : St), 0 ≤ i → i + k = σ 376 (30 * (10 * h + r) + 2) → Dt σ τ →
    ∃ ρ, MkR (fun j => ∃ b ∈ atsF σ h r 1 k i, ∃ e : Nat, e < 3 ∧ j = 78 * pl + (3 * b.1 + e) ∧ 2000 ≤ plN b e ∧ (plN b e = v ∨ mentL as (plN b e) = false)) (fun j => ∃ b ∈ atsF σ h r 1 k i, ∃ e : Nat, e < 3 ∧ j = 78 * pl + (3 * b.1 + e) ∧ 2000 ≤ plN b e ∧ mentL as (plN b e) = false) τ ρ ∧ ∀ (u : Bool × Nat × Nat × Int) (Q : Rs → HS → Prop) (l6 l7 l8 l9 : Option V), Ex sc d 271 3 [some (vR 373), some (vI h), some (vI r), some (vI pl), some (vI v), some (vI i), l6, l7, l8, l9] [] (wH τ u) Q ↔ Q (.inl none) (wH ρ u) := by
  have wr := W.rul h1 h2 r1 r2
  intro k
  induction k with
  | zero =>
    intro i τ i0 ik D
    have e76 : τ 376 = σ 376 := D.1 376 (by omega) (by omega)
    refine ⟨τ, MkR.refl (fun j ⟨b, hb, _⟩ => by cases hb) (fun j ⟨b, hb, _⟩ => by cases hb), fun u Q l6 l7 l8 l9 => ?_⟩
    rw [x271_3]
    simp (disch := first | omega | exact notL_I | exact notL_N | exact notL_R | exact oM | exact catS_le (Nat.le_of_ble_eq_true rfl) | exact Nat.le_of_ble_eq_true rfl | rfl) only [x271_0, x271_1, x271_5, x271_6, x271_7, x271_8, x271_9, x271_12, x271_15, x271_16, x271_17, x271_18, x271_19, x271_21, x271_22, x271_25, x271_27, x271_28, x271_32, x271_33, x271_34, x271_36, x271_39, x271_42, x271_43, x271_44, x271_45, x271_46, x271_48, x271_49, x271_51, x271_52, x271_55, x271_57, x271_59, x271_62, x271_65, x271_68, x271_69, x271_70, x271_71, x271_73, x271_76, x271_79, x271_80, x271_83, x271_84, x271_86, x271_88, x271_90, x271_93, x271_95, x271_98, x271_99, x271_102, x271_104, x271_105, x271_106, x271_107, x271_109, x271_110, x271_111, x271_113, x271_114, x271_115, x271_116, x271_118, x271_121, x271_122, x271_125, x271_127, x271_128, x271_129, x271_130, x271_132, x271_133, x271_134, x271_136, x271_137, x271_138, x271_139, x271_142, x271_148, x271_151, s_rule, e76, Kc_some, if_pos, if_neg, ↓reduceIte, not_true_eq_false, not_false_eq_true]
  | succ k ih =>
    intro i τ i0 ik D
    have e76 : τ 376 = σ 376 := D.1 376 (by omega) (by omega)
    have e74 : τ 374 = σ 374 := D.1 374 (by omega) (by omega)
    obtain ⟨a1, q1, q2, q3⟩ := W.ato (s := 1) (i := i) h1 h2 r1 r2 (by omega) (by omega) i0 (by omega)
    have hcb := hb i i0 (by omega)
    have wc := W.col h1 h2 a1.1 a1.2
    have z0 : 3 + 4 * (3 * 1 + i) + 0 = 3 + 4 * (3 * 1 + i) := by omega
    obtain ⟨ρ1, m1, x1⟩ := l_fromA (sc := sc) (h := h) (r := r) (σ := τ) (d := d) (i := i) (pl := pl) (v := v) (t := σ 376 (30 * (10 * h + r) + (3 + 4 * (3 * 1 + i)))) (f := fun c => σ 376 (30 * (10 * h + r) + (3 + 4 * (3 * 1 + i) + (1 + c)))) (as := as) hd (D.wf W) h1 h2 r1 r2 i0 (by omega) (by rw [e74]; exact wc.2) a1.1 a1.2 p0 p1 hv (by rw [e76]; exact atC_dt D ha) (fun c c0 c1 => ⟨by rw [e76], by
        rcases (show c = 0 ∨ c = 1 ∨ c = 2 by omega) with rfl | rfl | rfl
        · exact q1
        · exact q2
        · exact q3⟩) (by rw [D.ats, e76]; exact has) (σ 374 (26 * h + σ 376 (30 * (10 * h + r) + (3 + 4 * (3 * 1 + i))))).toNat 0 τ (by omega) (by rw [e74]; omega) Dt.rfl'
    rw [e74] at m1 x1
    obtain ⟨ρ, m2, x2⟩ := ih (i + 1) ρ1 (by omega) (by omega) (D.trans m1.dt)
    have eb : (atR σ h r 1 i).1 = σ 376 (30 * (10 * h + r) + (3 + 4 * (3 * 1 + i))) := rfl
    refine ⟨ρ, m1.trans m2 (fun j => ?_) (fun j => ?_), fun u Q l6 l7 l8 l9 => ?_⟩
    · rw [atsF]
      constructor
      · rintro ⟨b, hb, e, he, y1, y2, y3⟩
        rcases List.mem_cons.mp hb with rfl | hb
        · rw [pl_R he hcb] at y2 y3
          split at y2
          · rename_i hlt
            rw [if_pos hlt] at y3
            exact Or.inl ⟨e, by omega, hlt, y1, y2, y3⟩
          · omega
        · exact Or.inr ⟨b, hb, e, he, y1, y2, y3⟩
      · rintro (⟨e, a, b, y1, y2, y3⟩ | ⟨b, hb, e, he, y⟩)
        · have ee : ((e.toNat : Nat) : Int) = e := by omega
          refine ⟨_, List.mem_cons_self, e.toNat, by omega, by rw [ee]; exact y1, ?_⟩
          rw [pl_R (by omega) hcb, ee, if_pos b]
          exact ⟨y2, y3⟩
        · exact ⟨b, List.mem_cons_of_mem _ hb, e, he, y⟩
    · rw [atsF]
      constructor
      · rintro ⟨b, hb, e, he, y1, y2, y3⟩
        rcases List.mem_cons.mp hb with rfl | hb
        · rw [pl_R he hcb] at y2 y3
          split at y2
          · rename_i hlt
            rw [if_pos hlt] at y3
            exact Or.inl ⟨e, by omega, hlt, y1, y2, y3⟩
          · omega
        · exact Or.inr ⟨b, hb, e, he, y1, y2, y3⟩
      · rintro (⟨e, a, b, y1, y2, y3⟩ | ⟨b, hb, e, he, y⟩)
        · have ee : ((e.toNat : Nat) : Int) = e := by omega
          refine ⟨_, List.mem_cons_self, e.toNat, by omega, by rw [ee]; exact y1, ?_⟩
          rw [pl_R (by omega) hcb, ee, if_pos b]
          exact ⟨y2, y3⟩
        · exact ⟨b, List.mem_cons_of_mem _ hb, e, he, y⟩
    · obtain ⟨l8', l9', y1⟩ := x1 u Q l8 l9
      have at_ := fun u Q => s_atom (sc := sc) (σ := τ) (u := u) (Q := Q) (d := d - 1) (h := h) (r := r) (s := 1) (i := i) (f := 0) (by omega) h1 h2 r1 r2 (by omega) (by omega)
      rw [z0, e76] at at_
      rw [x271_3]
      simp (disch := first | omega | exact notL_I | exact notL_N | exact notL_R | exact oM | exact catS_le (Nat.le_of_ble_eq_true rfl) | exact Nat.le_of_ble_eq_true rfl | rfl) only [x271_0, x271_1, x271_5, x271_6, x271_7, x271_8, x271_9, x271_12, x271_15, x271_16, x271_17, x271_18, x271_19, x271_21, x271_22, x271_25, x271_27, x271_28, x271_32, x271_33, x271_34, x271_36, x271_39, x271_42, x271_43, x271_44, x271_45, x271_46, x271_48, x271_49, x271_51, x271_52, x271_55, x271_57, x271_59, x271_62, x271_65, x271_68, x271_69, x271_70, x271_71, x271_73, x271_76, x271_79, x271_80, x271_83, x271_84, x271_86, x271_88, x271_90, x271_93, x271_95, x271_98, x271_99, x271_102, x271_104, x271_105, x271_106, x271_107, x271_109, x271_110, x271_111, x271_113, x271_114, x271_115, x271_116, x271_118, x271_121, x271_122, x271_125, x271_127, x271_128, x271_129, x271_130, x271_132, x271_133, x271_134, x271_136, x271_137, x271_138, x271_139, x271_142, x271_148, x271_151, s_rule, at_, e76, Kc_some, if_pos, if_neg, ↓reduceIte, not_true_eq_false, not_false_eq_true]
      rw [y1, x271_145]
      simp (disch := first | omega | exact notL_I | exact notL_N | exact notL_R | exact oM | exact catS_le (Nat.le_of_ble_eq_true rfl) | exact Nat.le_of_ble_eq_true rfl | rfl) only [x271_0, x271_1, x271_5, x271_6, x271_7, x271_8, x271_9, x271_12, x271_15, x271_16, x271_17, x271_18, x271_19, x271_21, x271_22, x271_25, x271_27, x271_28, x271_32, x271_33, x271_34, x271_36, x271_39, x271_42, x271_43, x271_44, x271_45, x271_46, x271_48, x271_49, x271_51, x271_52, x271_55, x271_57, x271_59, x271_62, x271_65, x271_68, x271_69, x271_70, x271_71, x271_73, x271_76, x271_79, x271_80, x271_83, x271_84, x271_86, x271_88, x271_90, x271_93, x271_95, x271_98, x271_99, x271_102, x271_104, x271_105, x271_106, x271_107, x271_109, x271_110, x271_111, x271_113, x271_114, x271_115, x271_116, x271_118, x271_121, x271_122, x271_125, x271_127, x271_128, x271_129, x271_130, x271_132, x271_133, x271_134, x271_136, x271_137, x271_138, x271_139, x271_142, x271_148, x271_151]
      exact x2 u Q _ _ _ _
theorem s_from {σ : St} {d : Nat} {pl v : Int} (hd : 3 ≤ d) (W : WfM σ) (h1 : 0 ≤ h) (h2 : h ≤ 4) (r1 : 0 ≤ r) (r2 : r ≤ 9) (p0 : 0 ≤ pl) (p1 : pl < 78) (hv : inR v) (ha : atC σ h r 0 (σ 376 (30 * (10 * h + r)))) (hb : atC σ h r 1 (σ 376 (30 * (10 * h + r) + 2))) :
    ∃ ρ, MkR (fun j => ∃ b ∈ (ruR σ h r).2.2.1, ∃ e : Nat, e < 3 ∧ j = 78 * pl + (3 * b.1 + e) ∧ 2000 ≤ plN b e ∧ (plN b e = v ∨ mentL (ruR σ h r).2.1 (plN b e) = false)) (fun j => ∃ b ∈ (ruR σ h r).2.2.1, ∃ e : Nat, e < 3 ∧ j = 78 * pl + (3 * b.1 + e) ∧ 2000 ≤ plN b e ∧ mentL (ruR σ h r).2.1 (plN b e) = false) σ ρ ∧ RnA sc d 271 0 [some (vR 373), some (vI h), some (vI r), some (vI pl), some (vI v), none, none, none, none, none] σ none ρ := by
  have wr := W.rul h1 h2 r1 r2
  obtain ⟨ρ, m, x⟩ := l_fromB (sc := sc) (d := d) hd W h1 h2 r1 r2 p0 p1 hv ha hb rfl (σ 376 (30 * (10 * h + r) + 2)).toNat 0 σ (by omega) (by omega) Dt.rfl'
  refine ⟨ρ, m, fun u Q => ?_⟩
  rw [← x u Q none none none none]
  simp (disch := first | omega | exact notL_I | exact notL_N | exact notL_R | exact oM | exact catS_le (Nat.le_of_ble_eq_true rfl) | exact Nat.le_of_ble_eq_true rfl | rfl) only [x271_0, x271_1]
end H2
