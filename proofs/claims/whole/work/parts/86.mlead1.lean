/-! leads of the reference: stands, chooses -/
def cL (f : Int → Int) : Bd := fun v => if 0 ≤ v ∧ v ≤ 99 then f v else -1
def stL (σ : St) (g : Int → Int) : St := fun c => if c = 394 then g else σ c
def gdL (g : Int → Int) : Prop := ∀ v, 0 ≤ v → v ≤ 99 → -1 ≤ g v ∧ g v ≤ 1099
def nxL (g : Int → Int) (p t : Int) : Int → Int := if 1000 ≤ p ∧ g (p - 1000) = -1 then iup g (p - 1000) t else g
def udL (g : Int → Int) (p v : Int) : Int → Int := if 1000 ≤ p then iup g (p - 1000) v else g
def chL (g : Int → Int) (p : Int) : Int := if 1000 ≤ p then g (p - 1000) else p
theorem stL_ne {σ : St} {g : Int → Int} {c : Nat} (h : c ≠ 394) : stL σ g c = σ c := by unfold stL; rw [if_neg h]
theorem stL_at {σ : St} {g : Int → Int} : stL σ g 394 = g := by unfold stL; rw [if_pos rfl]
theorem stL_self {σ : St} : stL σ (σ 394) = σ := by
  funext c
  unfold stL
  split
  · rename_i h
    rw [h]
  · rfl
theorem stL_su {σ : St} {g : Int → Int} {i x : Int} : su (stL σ g) 394 i x = stL σ (iup g i x) := by
  apply st_ext (a := 394)
  · intro c h
    rw [su_ne h, stL_ne h, stL_ne h]
  · intro j
    rw [su_iup, stL_at, stL_at]
theorem cL_in {g : Int → Int} {i : Int} (h0 : 0 ≤ i) (h1 : i ≤ 99) : cL g i = g i := by unfold cL; rw [if_pos ⟨h0, h1⟩]
theorem cL_up {g : Int → Int} {i x : Int} (h0 : 0 ≤ i) (h1 : i ≤ 99) : cL (iup g i x) = bup (cL g) i x := by
  funext v
  unfold cL bup iup
  by_cases h : v = i
  · subst h
    rw [if_pos ⟨h0, h1⟩, if_pos rfl, if_pos rfl]
  · rw [if_neg h, if_neg h]
theorem nxL_gd {g : Int → Int} {p t : Int} (hg : gdL g) (ht : isTm t) : gdL (nxL g p t) := by
  have w := isTm_in ht
  intro v v1 v2
  have := hg v v1 v2
  unfold nxL
  split
  · unfold iup
    split
    · omega
    · exact this
  · exact this
theorem lie1_nx {g : Int → Int} {p t : Int} {β : Bd} (hp : isTm p) (h : lie1 (cL g) p t = some β) : cL (nxL g p t) = β := by
  unfold isTm at hp
  unfold lie1 at h
  unfold nxL
  by_cases p1 : 1000 ≤ p
  · rw [cL_in (by omega) (by omega)] at h
    by_cases p2 : g (p - 1000) = -1
    · rw [if_pos ⟨p1, p2⟩] at h ⊢
      rw [cL_up (by omega) (by omega)]
      exact Option.some.inj h
    · rw [if_neg (by omega)] at h ⊢
      split at h
      · split at h
        · exact Option.some.inj h
        · cases h
      · exact absurd p1 (by assumption)
  · rw [if_neg (by omega)] at h ⊢
    rw [if_neg p1] at h
    split at h
    · exact Option.some.inj h
    · cases h
theorem lie1_none {β : Bd} : lie1 β (-1) (-1) = some β := by
  unfold lie1
  rw [if_neg (by omega), if_neg (c := (1000 : Int) ≤ -1) (by decide), if_pos rfl]
section Q1
variable {sc : Scr} {σ : St} {u : Bool × Nat × Nat × Int} {Q : Rs → HS → Prop} {d : Nat}
theorem s_chosenR {t : Int} (ht : isTm t) : Ex sc d 257 0 [some (vR 373), some (vI t)] [] (wH σ u) Q ↔ Q (.inl (some (vI (chL (σ 394) t)))) (wH σ u) := by
  unfold isTm at ht
  unfold chL
  by_cases h : 1000 ≤ t
  · rw [if_pos h]
    simp (disch := first | omega | exact notL_I | exact notL_N | exact notL_R | exact oM | exact catS_le (Nat.le_of_ble_eq_true rfl) | rfl) only [x257_0, x257_1, x257_4, x257_7, x257_8, x257_11, x257_12, x257_15, x257_16, x257_19, x257_20, x257_21, gM_stand, RM_stand, if_pos, if_neg, ↓reduceIte, not_true_eq_false, not_false_eq_true]
  · rw [if_neg h]
    simp (disch := first | omega | exact notL_I | exact notL_N | exact notL_R | exact oM | exact catS_le (Nat.le_of_ble_eq_true rfl) | rfl) only [x257_0, x257_1, x257_4, x257_7, x257_8, x257_11, x257_12, x257_15, x257_16, x257_19, x257_20, x257_21, if_pos, if_neg, ↓reduceIte, not_true_eq_false, not_false_eq_true]
theorem s_undoR {t v : Int} (ht : isTm t) : Ex sc d 259 0 [some (vR 373), some (vI t), some (vI v)] [] (wH σ u) Q ↔ Q (.inl none) (wH (stL σ (udL (σ 394) t v)) u) := by
  unfold isTm at ht
  unfold udL
  by_cases h : 1000 ≤ t
  · rw [if_pos h, ← stL_su, stL_self]
    simp (disch := first | omega | exact notL_I | exact notL_N | exact notL_R | exact oM | exact catS_le (Nat.le_of_ble_eq_true rfl) | rfl) only [x259_0, x259_1, x259_4, x259_7, x259_8, x259_11, x259_12, x259_15, x259_16, x259_17, x259_18, gM_stand, WM_stand, if_pos, if_neg, ↓reduceIte, not_true_eq_false, not_false_eq_true]
  · rw [if_neg h, stL_self]
    simp (disch := first | omega | exact notL_I | exact notL_N | exact notL_R | exact oM | exact catS_le (Nat.le_of_ble_eq_true rfl) | rfl) only [x259_0, x259_1, x259_4, x259_7, x259_8, x259_11, x259_12, x259_15, x259_16, x259_17, x259_18, if_pos, if_neg, ↓reduceIte, not_true_eq_false, not_false_eq_true]
theorem l_cho1 {h n to m t c c' p tt : Int} {g : Int → Int} (hd : 1 ≤ d) (h1 : 0 ≤ h) (h2 : h ≤ 4) (g1 : 0 ≤ to) (g2 : to ≤ 4) (n1 : 0 ≤ n) (n2 : n ≤ 199) (m1 : 0 ≤ m) (m2 : m ≤ 199) (ht : σ 378 (200 * h + n) = t) (t1 : 0 ≤ t) (t2 : t ≤ 25) (c1 : 0 ≤ c) (c2 : c ≤ 2) (hc : c < σ 374 (26 * h + t)) (hc3 : σ 374 (26 * h + t) ≤ 3)
    (hpe : σ 379 (3 * (200 * h + n) + c) = p) (hte : σ 379 (3 * (200 * to + m) + c) = tt) (hcc : c + 1 = c') (hp : isTm p) (hq : isTm tt) (hg : gdL g) {l6 l7 : Option V} (n6 : notL l6 = true) :
    Ex sc d 258 3 [some (vR 373), some (vI h), some (vI n), some (vI to), some (vI m), some (vI c), l6, l7] [] (wH (stL σ g) u) Q ↔ if lie1 (cL g) p tt = none then Q (.inl (some (vI (0)))) (wH (stL σ g) u) else Ex sc d 258 3 [some (vR 373), some (vI h), some (vI n), some (vI to), some (vI m), some (vI c'), some (vI p), some (vI tt)] [] (wH (stL σ (nxL g p tt)) u) Q := by
  subst hcc
  have w1 := isTm_in hq
  have w2 := isTm_in hp
  have hp' := hp
  unfold isTm at hp'
  rw [x258_3]
  have chS : ∀ u Q, Ex sc d 257 0 [some (vR 373), some (vI p)] [] (wH (stL σ g) u) Q ↔ Q (.inl (some (vI (chL g p)))) (wH (stL σ g) u) := fun u Q => by
    have := s_chosenR (sc := sc) (σ := stL σ g) (u := u) (Q := Q) (d := d) hp
    rw [stL_at] at this
    exact this
  by_cases p1 : 1000 ≤ p
  · have w3 := hg (p - 1000) (by omega) (by omega)
    by_cases p2 : g (p - 1000) = -1
    · have ef : lie1 (cL g) p tt = some (bup (cL g) (p - 1000) tt) := by
        unfold lie1
        rw [cL_in (by omega) (by omega), if_pos ⟨p1, p2⟩]
      have en : nxL g p tt = iup g (p - 1000) tt := if_pos ⟨p1, p2⟩
      rw [ef, en, if_neg (by simp)]
      simp (disch := first | omega | exact notL_I | exact notL_N | exact notL_R | exact oM | exact catS_le (Nat.le_of_ble_eq_true rfl) | rfl) only [x258_0, x258_1, x258_5, x258_6, x258_7, x258_8, x258_9, x258_10, x258_13, x258_16, x258_19, x258_20, x258_21, x258_22, x258_24, x258_27, x258_29, x258_30, x258_31, x258_33, x258_35, x258_38, x258_40, x258_42, x258_45, x258_48, x258_49, x258_52, x258_54, x258_57, x258_58, x258_59, x258_60, x258_63, x258_64, x258_67, x258_69, x258_72, x258_73, x258_75, x258_76, x258_79, x258_80, x258_82, x258_85, x258_87, x258_90, x258_91, x258_92, x258_95, x258_98, x258_99, s_colsOf, s_table, s_term, Kc_some, stL_ne, if_pos, if_neg, ↓reduceIte, not_true_eq_false, not_false_eq_true, gM_stand, RM_stand, WM_stand, stL_at, stL_su, ht, hpe, hte, p2]
    · have en : nxL g p tt = g := if_neg (by omega)
      have s2 := fun u Q => s_chosenR (sc := sc) (σ := stL σ g) (u := u) (Q := Q) (d := d - 1) hp
      simp only [stL_at, chL, if_pos p1] at s2
      by_cases p3 : g (p - 1000) = tt
      · have ef : lie1 (cL g) p tt = some (cL g) := by
          unfold lie1
          rw [cL_in (by omega) (by omega), if_neg (by omega), if_pos p1, if_pos p3]
        rw [ef, en, if_neg (by simp)]
        simp (disch := first | omega | exact notL_I | exact notL_N | exact notL_R | exact oM | exact catS_le (Nat.le_of_ble_eq_true rfl) | rfl) only [x258_0, x258_1, x258_5, x258_6, x258_7, x258_8, x258_9, x258_10, x258_13, x258_16, x258_19, x258_20, x258_21, x258_22, x258_24, x258_27, x258_29, x258_30, x258_31, x258_33, x258_35, x258_38, x258_40, x258_42, x258_45, x258_48, x258_49, x258_52, x258_54, x258_57, x258_58, x258_59, x258_60, x258_63, x258_64, x258_67, x258_69, x258_72, x258_73, x258_75, x258_76, x258_79, x258_80, x258_82, x258_85, x258_87, x258_90, x258_91, x258_92, x258_95, x258_98, x258_99, s_colsOf, s_table, s_term, s2, Kc_some, stL_ne, if_pos, if_neg, ↓reduceIte, not_true_eq_false, not_false_eq_true, gM_stand, RM_stand, WM_stand, stL_at, ht, hpe, hte]
      · have ef : lie1 (cL g) p tt = none := by
          unfold lie1
          rw [cL_in (by omega) (by omega), if_neg (by omega), if_pos p1, if_neg p3]
        rw [ef, if_pos rfl]
        simp (disch := first | omega | exact notL_I | exact notL_N | exact notL_R | exact oM | exact catS_le (Nat.le_of_ble_eq_true rfl) | rfl) only [x258_0, x258_1, x258_5, x258_6, x258_7, x258_8, x258_9, x258_10, x258_13, x258_16, x258_19, x258_20, x258_21, x258_22, x258_24, x258_27, x258_29, x258_30, x258_31, x258_33, x258_35, x258_38, x258_40, x258_42, x258_45, x258_48, x258_49, x258_52, x258_54, x258_57, x258_58, x258_59, x258_60, x258_63, x258_64, x258_67, x258_69, x258_72, x258_73, x258_75, x258_76, x258_79, x258_80, x258_82, x258_85, x258_87, x258_90, x258_91, x258_92, x258_95, x258_98, x258_99, s_colsOf, s_table, s_term, s2, Kc_some, stL_ne, if_pos, if_neg, ↓reduceIte, not_true_eq_false, not_false_eq_true, gM_stand, RM_stand, WM_stand, stL_at, ht, hpe, hte]
  · have en : nxL g p tt = g := if_neg (by omega)
    have s2 := fun u Q => s_chosenR (sc := sc) (σ := stL σ g) (u := u) (Q := Q) (d := d - 1) hp
    simp only [stL_at, chL, if_neg p1] at s2
    by_cases p3 : p = tt
    · have ef : lie1 (cL g) p tt = some (cL g) := by
        unfold lie1
        rw [if_neg (by omega), if_neg p1, if_pos p3]
      rw [ef, en, if_neg (by simp)]
      simp (disch := first | omega | exact notL_I | exact notL_N | exact notL_R | exact oM | exact catS_le (Nat.le_of_ble_eq_true rfl) | rfl) only [x258_0, x258_1, x258_5, x258_6, x258_7, x258_8, x258_9, x258_10, x258_13, x258_16, x258_19, x258_20, x258_21, x258_22, x258_24, x258_27, x258_29, x258_30, x258_31, x258_33, x258_35, x258_38, x258_40, x258_42, x258_45, x258_48, x258_49, x258_52, x258_54, x258_57, x258_58, x258_59, x258_60, x258_63, x258_64, x258_67, x258_69, x258_72, x258_73, x258_75, x258_76, x258_79, x258_80, x258_82, x258_85, x258_87, x258_90, x258_91, x258_92, x258_95, x258_98, x258_99, s_colsOf, s_table, s_term, s2, Kc_some, stL_ne, if_pos, if_neg, ↓reduceIte, not_true_eq_false, not_false_eq_true, gM_stand, RM_stand, WM_stand, stL_at, ht, hpe, hte]
    · have ef : lie1 (cL g) p tt = none := by
        unfold lie1
        rw [if_neg (by omega), if_neg p1, if_neg p3]
      rw [ef, if_pos rfl]
      simp (disch := first | omega | exact notL_I | exact notL_N | exact notL_R | exact oM | exact catS_le (Nat.le_of_ble_eq_true rfl) | rfl) only [x258_0, x258_1, x258_5, x258_6, x258_7, x258_8, x258_9, x258_10, x258_13, x258_16, x258_19, x258_20, x258_21, x258_22, x258_24, x258_27, x258_29, x258_30, x258_31, x258_33, x258_35, x258_38, x258_40, x258_42, x258_45, x258_48, x258_49, x258_52, x258_54, x258_57, x258_58, x258_59, x258_60, x258_63, x258_64, x258_67, x258_69, x258_72, x258_73, x258_75, x258_76, x258_79, x258_80, x258_82, x258_85, x258_87, x258_90, x258_91, x258_92, x258_95, x258_98, x258_99, s_colsOf, s_table, s_term, s2, Kc_some, stL_ne, if_pos, if_neg, ↓reduceIte, not_true_eq_false, not_false_eq_true, gM_stand, RM_stand, WM_stand, stL_at, ht, hpe, hte]
theorem l_cho0 {h n to m t c : Int} {g : Int → Int} (hd : 1 ≤ d) (h1 : 0 ≤ h) (h2 : h ≤ 4) (n1 : 0 ≤ n) (n2 : n ≤ 199) (ht : σ 378 (200 * h + n) = t) (t1 : 0 ≤ t) (t2 : t ≤ 25) (c1 : 0 ≤ c) (c2 : c ≤ 3) (hc : c = σ 374 (26 * h + t)) {l6 l7 : Option V} : Ex sc d 258 3 [some (vR 373), some (vI h), some (vI n), some (vI to), some (vI m), some (vI c), l6, l7] [] (wH (stL σ g) u) Q ↔ Q (.inl (some (vI (1)))) (wH (stL σ g) u) := by
  rw [x258_3]
  simp (disch := first | omega | exact notL_I | exact notL_N | exact notL_R | exact oM | exact catS_le (Nat.le_of_ble_eq_true rfl) | rfl) only [x258_0, x258_1, x258_5, x258_6, x258_7, x258_8, x258_9, x258_10, x258_13, x258_16, x258_19, x258_20, x258_21, x258_22, x258_24, x258_27, x258_29, x258_30, x258_31, x258_33, x258_35, x258_38, x258_40, x258_42, x258_45, x258_48, x258_49, x258_52, x258_54, x258_57, x258_58, x258_59, x258_60, x258_63, x258_64, x258_67, x258_69, x258_72, x258_73, x258_75, x258_76, x258_79, x258_80, x258_82, x258_85, x258_87, x258_90, x258_91, x258_92, x258_95, x258_98, x258_99, s_colsOf, s_table, Kc_some, stL_ne, ht, if_pos]
/-- only stands of the row's own terms change -/
def OnW (w : Rw) (g g' : Int → Int) : Prop := ∀ v, 0 ≤ v → v ≤ 99 → w.2.2.1 ≠ 1000 + v → w.2.2.2.1 ≠ 1000 + v → w.2.2.2.2 ≠ 1000 + v → g' v = g v
theorem nxL_on {g : Int → Int} {p t v : Int} (hv : p ≠ 1000 + v) : nxL g p t v = g v := by
  unfold nxL
  split
  · unfold iup
    rw [if_neg (by omega)]
  · rfl
theorem s_chooses {h n to m : Int} (W : WfM σ) (hd : 1 ≤ d) (h1 : 0 ≤ h) (h2 : h ≤ 4) (g1 : 0 ≤ to) (g2 : to ≤ 4) (n1 : 0 ≤ n) (n2 : n ≤ 199) (m1 : 0 ≤ m) (m2 : m ≤ 199) (hg : gdL (σ 394)) (ht : σ 378 (200 * to + m) = σ 378 (200 * h + n)) (hC : σ 374 (26 * to + σ 378 (200 * h + n)) = σ 374 (26 * h + σ 378 (200 * h + n))) (hm : 1 ≤ σ 374 (26 * h + σ 378 (200 * h + n))) :
    ∃ g', gdL g' ∧ OnW (rwR σ h n) (σ 394) g' ∧ ((∃ β, lieW (cL (σ 394)) (rwR σ h n) (rwR σ to m) = some β ∧ cL g' = β ∧ RnA sc d 258 0 [some (vR 373), some (vI h), some (vI n), some (vI to), some (vI m), none, none, none] σ (some (vI 1)) (stL σ g')) ∨ (lieW (cL (σ 394)) (rwR σ h n) (rwR σ to m) = none ∧ RnA sc d 258 0 [some (vR 373), some (vI h), some (vI n), some (vI to), some (vI m), none, none, none] σ (some (vI 0)) (stL σ g'))) := by
  have a1 := W.tab (n := n) h1 h2 n1 n2
  have w5 := W.ter (n := n) (c := 0) h1 h2 n1 n2 (by omega) (by omega)
  have w6 := W.ter (n := n) (c := 1) h1 h2 n1 n2 (by omega) (by omega)
  have w7 := W.ter (n := n) (c := 2) h1 h2 n1 n2 (by omega) (by omega)
  have z5 := W.ter (n := m) (c := 0) g1 g2 m1 m2 (by omega) (by omega)
  have z6 := W.ter (n := m) (c := 1) g1 g2 m1 m2 (by omega) (by omega)
  have z7 := W.ter (n := m) (c := 2) g1 g2 m1 m2 (by omega) (by omega)
  have m3 := (W.col h1 h2 a1.1 a1.2).2
  have en : ∀ u Q, Ex sc d 258 0 [some (vR 373), some (vI h), some (vI n), some (vI to), some (vI m), none, none, none] [] (wH σ u) Q ↔ Ex sc d 258 3 [some (vR 373), some (vI h), some (vI n), some (vI to), some (vI m), some (vI 0), none, none] [] (wH (stL σ (σ 394)) u) Q := by
    intro u Q
    rw [stL_self]
    simp (disch := first | omega | exact notL_I | exact notL_N | exact notL_R | exact oM | exact catS_le (Nat.le_of_ble_eq_true rfl) | rfl) only [x258_0, x258_1, x258_5, x258_6, x258_7, x258_8, x258_9, x258_10, x258_13, x258_16, x258_19, x258_20, x258_21, x258_22, x258_24, x258_27, x258_29, x258_30, x258_31, x258_33, x258_35, x258_38, x258_40, x258_42, x258_45, x258_48, x258_49, x258_52, x258_54, x258_57, x258_58, x258_59, x258_60, x258_63, x258_64, x258_67, x258_69, x258_72, x258_73, x258_75, x258_76, x258_79, x258_80, x258_82, x258_85, x258_87, x258_90, x258_91, x258_92, x258_95, x258_98, x258_99]
  have eA : lieW (cL (σ 394)) (rwR σ h n) (rwR σ to m) = (lie1 (cL (σ 394)) (σ 379 (3 * (200 * h + n) + 0)) (σ 379 (3 * (200 * to + m) + 0))).bind fun β => (lie1 β (if 2 ≤ σ 374 (26 * h + σ 378 (200 * h + n)) then σ 379 (3 * (200 * h + n) + 1) else -1) (if 2 ≤ σ 374 (26 * h + σ 378 (200 * h + n)) then σ 379 (3 * (200 * to + m) + 1) else -1)).bind fun β => lie1 β (if 3 ≤ σ 374 (26 * h + σ 378 (200 * h + n)) then σ 379 (3 * (200 * h + n) + 2) else -1) (if 3 ≤ σ 374 (26 * h + σ 378 (200 * h + n)) then σ 379 (3 * (200 * to + m) + 2) else -1) := by
    unfold lieW rwR nrm
    dsimp only
    rw [ht, hC, Int.add_zero, Int.add_zero]
  have eO : ∀ g', OnW (rwR σ h n) (σ 394) g' ↔ ∀ v, 0 ≤ v → v ≤ 99 → σ 379 (3 * (200 * h + n) + 0) ≠ 1000 + v → (if 2 ≤ σ 374 (26 * h + σ 378 (200 * h + n)) then σ 379 (3 * (200 * h + n) + 1) else -1) ≠ 1000 + v → (if 3 ≤ σ 374 (26 * h + σ 378 (200 * h + n)) then σ 379 (3 * (200 * h + n) + 2) else -1) ≠ 1000 + v → g' v = σ 394 v := by
    intro g'
    unfold OnW rwR nrm
    rw [Int.add_zero]
  rw [eA]
  simp only [eO]
  clear eA eO
  generalize hte : σ 378 (200 * h + n) = t at *
  generalize hg0 : σ 394 = g at *
  generalize p0 : σ 379 (3 * (200 * h + n) + 0) = P0 at w5 ⊢
  generalize p1 : σ 379 (3 * (200 * h + n) + 1) = P1 at w6 ⊢
  generalize p2 : σ 379 (3 * (200 * h + n) + 2) = P2 at w7 ⊢
  generalize v0 : σ 379 (3 * (200 * to + m) + 0) = T0 at z5 ⊢
  generalize v1 : σ 379 (3 * (200 * to + m) + 1) = T1 at z6 ⊢
  generalize v2 : σ 379 (3 * (200 * to + m) + 2) = T2 at z7 ⊢
  have F0 := fun u Q => l_cho1 (sc := sc) (d := d) (σ := σ) (u := u) (Q := Q) (c := 0) (c' := 1) (g := g) hd h1 h2 g1 g2 n1 n2 m1 m2 hte a1.1 a1.2 (by omega) (by omega) (by omega) m3 p0 v0 rfl w5 z5 hg (l6 := none) (l7 := none) notL_N
  have F1 := fun g hg (z : 2 ≤ σ 374 (26 * h + t)) u Q => l_cho1 (sc := sc) (d := d) (σ := σ) (u := u) (Q := Q) (c := 1) (c' := 2) (g := g) hd h1 h2 g1 g2 n1 n2 m1 m2 hte a1.1 a1.2 (by omega) (by omega) (by omega) m3 p1 v1 rfl w6 z6 hg (l6 := some (vI P0)) (l7 := some (vI T0)) notL_I
  have F2 := fun g hg (z : 3 ≤ σ 374 (26 * h + t)) u Q => l_cho1 (sc := sc) (d := d) (σ := σ) (u := u) (Q := Q) (c := 2) (c' := 3) (g := g) hd h1 h2 g1 g2 n1 n2 m1 m2 hte a1.1 a1.2 (by omega) (by omega) (by omega) m3 p2 v2 rfl w7 z7 hg (l6 := some (vI P1)) (l7 := some (vI T1)) notL_I
  have E := fun (c : Int) (hc : c = σ 374 (26 * h + t)) (c0 : 0 ≤ c) (c3 : c ≤ 3) (g : Int → Int) (p q : Int) u Q => l_cho0 (sc := sc) (d := d) (σ := σ) (u := u) (Q := Q) (h := h) (n := n) (to := to) (m := m) (t := t) (c := c) (g := g) hd h1 h2 n1 n2 hte a1.1 a1.2 c0 c3 hc (l6 := some (vI p)) (l7 := some (vI q))
  cases e0 : lie1 (cL g) P0 T0 with
  | none =>
    refine ⟨g, hg, fun _ _ _ _ _ _ => rfl, Or.inr ⟨rfl, fun u Q => (en u Q).trans ?_⟩⟩
    rw [F0, if_pos e0]
  | some β0 =>
    have k1 := nxL_gd (p := P0) hg z5
    have b1 := lie1_nx w5 e0
    have y0 : ¬ lie1 (cL g) P0 T0 = none := by rw [e0]; simp
    rw [Option.bind_some]
    by_cases m2' : 2 ≤ σ 374 (26 * h + t)
    · simp only [if_pos m2']
      cases e1 : lie1 β0 P1 T1 with
      | none =>
        refine ⟨nxL g P0 T0, k1, fun v _ _ a _ _ => nxL_on a, Or.inr ⟨rfl, fun u Q => (en u Q).trans ?_⟩⟩
        rw [F0, if_neg y0, F1 _ k1 m2', if_pos (by rw [b1]; exact e1)]
      | some β1 =>
        have e1' : lie1 (cL (nxL g P0 T0)) P1 T1 = some β1 := by rw [b1]; exact e1
        have k2 := nxL_gd (p := P1) k1 z6
        have b2 := lie1_nx w6 e1'
        have y1 : ¬ lie1 (cL (nxL g P0 T0)) P1 T1 = none := by rw [e1']; simp
        rw [Option.bind_some]
        by_cases m3' : 3 ≤ σ 374 (26 * h + t)
        · simp only [if_pos m3']
          cases e2 : lie1 β1 P2 T2 with
          | none =>
            refine ⟨_, k2, fun v _ _ a b _ => (nxL_on b).trans (nxL_on a), Or.inr ⟨rfl, fun u Q => (en u Q).trans ?_⟩⟩
            rw [F0, if_neg y0, F1 _ k1 m2', if_neg y1, F2 _ k2 m3', if_pos (by rw [b2]; exact e2)]
          | some β2 =>
            have e2' : lie1 (cL (nxL (nxL g P0 T0) P1 T1)) P2 T2 = some β2 := by rw [b2]; exact e2
            have y2 : ¬ lie1 (cL (nxL (nxL g P0 T0) P1 T1)) P2 T2 = none := by rw [e2']; simp
            refine ⟨_, nxL_gd (p := P2) k2 z7, fun v _ _ a b c => (nxL_on c).trans ((nxL_on b).trans (nxL_on a)), Or.inl ⟨β2, rfl, lie1_nx w7 e2', fun u Q => (en u Q).trans ?_⟩⟩
            rw [F0, if_neg y0, F1 _ k1 m2', if_neg y1, F2 _ k2 m3', if_neg y2]
            exact E _ (by omega) (by omega) (by omega) _ _ _ u Q
        · simp only [if_neg m3', lie1_none]
          refine ⟨_, k2, fun v _ _ a b _ => (nxL_on b).trans (nxL_on a), Or.inl ⟨β1, rfl, b2, fun u Q => (en u Q).trans ?_⟩⟩
          rw [F0, if_neg y0, F1 _ k1 m2', if_neg y1]
          exact E _ (by omega) (by omega) (by omega) _ _ _ u Q
    · have m3' : ¬ 3 ≤ σ 374 (26 * h + t) := by omega
      simp only [if_neg m2', if_neg m3', lie1_none, Option.bind_some]
      refine ⟨_, k1, fun v _ _ a _ _ => nxL_on a, Or.inl ⟨β0, rfl, b1, fun u Q => (en u Q).trans ?_⟩⟩
      rw [F0, if_neg y0]
      exact E _ (by omega) (by omega) (by omega) _ _ _ u Q
theorem l_noSt : ∀ (k : Nat) (i : Int), 0 ≤ i → i + k = 100 → (Ex sc d 255 2 [some (vR 373), some (vI i)] [] (wH (fl σ 394 0 i (-1)) u) Q ↔ Q (.inl none) (wH (su (fl σ 394 0 100 (-1)) 373 36 0) u)) := by
  intro k
  induction k with
  | zero =>
    intro i i0 ik
    have : i = 100 := by omega
    subst this
    rw [x255_2]
    simp (disch := first | omega | exact notL_I | exact notL_N | exact notL_R | exact oM | exact catS_le (Nat.le_of_ble_eq_true rfl) | rfl) only [x255_0, x255_1, x255_3, x255_5, x255_8, x255_9, x255_12, x255_13, x255_14, x255_15, x255_18, x255_21, x255_22, x255_23, x255_26, pM_tries, if_pos, if_neg, ↓reduceIte, not_true_eq_false, not_false_eq_true]
  | succ k ih =>
    intro i i0 ik
    rw [x255_2, ← ih (i + 1) (by omega) (by omega), ← fl_su i0]
    simp (disch := first | omega | exact notL_I | exact notL_N | exact notL_R | exact oM | exact catS_le (Nat.le_of_ble_eq_true rfl) | rfl) only [x255_0, x255_1, x255_3, x255_5, x255_8, x255_9, x255_12, x255_13, x255_14, x255_15, x255_18, x255_21, x255_22, x255_23, x255_26, gM_stand, WM_stand, if_pos, if_neg, ↓reduceIte, not_true_eq_false, not_false_eq_true]
theorem s_noSt : Ex sc d 255 0 [some (vR 373), none] [] (wH σ u) Q ↔ Q (.inl none) (wH (su (fl σ 394 0 100 (-1)) 373 36 0) u) := by
  rw [← l_noSt (sc := sc) (d := d) (σ := σ) (u := u) (Q := Q) 100 0 (by omega) (by omega), fl_0]
  simp (disch := first | omega | exact notL_I | exact notL_N | exact notL_R | exact oM | exact catS_le (Nat.le_of_ble_eq_true rfl) | rfl) only [x255_0, x255_1]
end Q1
