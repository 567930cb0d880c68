/-! further loops of the reference: counts, names, mentions, fits -/
/-- runs that end -/
def RnA (sc : Scr) (d y pc : Nat) (lv : LV) (σ : St) (r : Option V) (σ' : St) : Prop := ∀ (u : Bool × Nat × Nat × Int) (Q : Rs → HS → Prop), Ex sc d y pc lv [] (wH σ u) Q ↔ Q (.inl r) (wH σ' u)
def tabF (f : Int → Int) : Nat → Int → Int
  | 0, _ => 0
  | k + 1, t => (if 0 < f t then 1 else 0) + tabF f k (t + 1)
def leF (f : Int → Int) : Nat → Int → Int
  | 0, k => k
  | n + 1, k => if f k = 0 then k else leF f n (k + 1)
def mentL (as : List At) (v : Int) : Bool := as.any fun a => decide (a.2.1 = v ∨ a.2.2.1 = v ∨ a.2.2.2 = v)
/-- a row of bindings, cut to the letters -/
def cB (f : Int → Int) : Bd := fun v => if 0 ≤ v ∧ v ≤ 25 then f v else -1
def stB (σ : St) (g : Int → Int) : St := fun c => if c = 389 then g else σ c
theorem stB_ne {σ : St} {g : Int → Int} {c : Nat} (h : c ≠ 389) : stB σ g c = σ c := by unfold stB; rw [if_neg h]
theorem stB_at {σ : St} {g : Int → Int} : stB σ g 389 = g := by unfold stB; rw [if_pos rfl]
theorem stB_self {σ : St} : stB σ (σ 389) = σ := by
  funext c
  by_cases h : c = 389
  · subst h
    rw [stB_at]
  · rw [stB_ne h]
theorem stB_su {σ : St} {g : Int → Int} {i x : Int} : su (stB σ g) 389 i x = stB σ (iup g i x) := by
  funext c
  by_cases h : c = 389
  · subst h
    rw [stB_at]
    unfold su
    rw [if_pos rfl, stB_at]
  · rw [stB_ne h, su_ne h, stB_ne h]
theorem cB_up {g : Int → Int} {i x : Int} (h0 : 0 ≤ i) (h1 : i ≤ 25) : cB (iup g i x) = bup (cB g) i x := by
  funext v
  unfold cB iup bup
  by_cases h : v = i
  · rw [if_pos h, if_pos (by omega), if_pos h]
  · rw [if_neg h, if_neg h]
theorem cB_in {g : Int → Int} {i : Int} (h0 : 0 ≤ i) (h1 : i ≤ 25) : cB g i = g i := by unfold cB; rw [if_pos ⟨h0, h1⟩]
section R3
variable {sc : Scr} {σ : St} {u : Bool × Nat × Nat × Int} {Q : Rs → HS → Prop} {d : Nat}
theorem l_tableSum {h : Int} (W : WfM σ) (hd : 1 ≤ d) (h1 : 0 ≤ h) (h2 : h ≤ 4) : ∀ (k : Nat) (t n : Int), 0 ≤ t → t + k = 26 → (Ex sc d 194 4 [some (vR 373), some (vI h), some (vI n), some (vI t)] [] (wH σ u) Q ↔ Q (.inl (some (vI (n + tabF (fun t => σ 374 (26 * h + t)) k t)))) (wH σ u)) := by
  intro k
  induction k with
  | zero =>
    intro t n h0 hk
    rw [x194_4]
    simp (disch := first | omega | exact notL_I | exact notL_N | exact notL_R | exact oM | exact catS_le (Nat.le_of_ble_eq_true rfl) | rfl) only [x194_0, x194_1, x194_2, x194_3, x194_5, x194_7, x194_10, x194_11, x194_12, x194_13, x194_14, x194_17, x194_20, x194_21, x194_24, x194_25, x194_26, x194_27, x194_30, x194_33, x194_34, if_pos]
    rw [tabF, Int.add_zero]
  | succ k ih =>
    intro t n h0 hk
    have w := W.col (t := t) h1 h2 h0 (by omega)
    rw [x194_4, tabF]
    by_cases hc : 0 < σ 374 (26 * h + t)
    · simp (disch := first | omega | exact notL_I | exact notL_N | exact notL_R | exact oM | exact catS_le (Nat.le_of_ble_eq_true rfl) | rfl) only [x194_0, x194_1, x194_2, x194_3, x194_5, x194_7, x194_10, x194_11, x194_12, x194_13, x194_14, x194_17, x194_20, x194_21, x194_24, x194_25, x194_26, x194_27, x194_30, x194_33, x194_34, oM, s_colsOf, Kc_some, if_pos, if_neg, ↓reduceIte, not_true_eq_false, not_false_eq_true, ih]
      rw [Int.add_assoc]
    · simp (disch := first | omega | exact notL_I | exact notL_N | exact notL_R | exact oM | exact catS_le (Nat.le_of_ble_eq_true rfl) | rfl) only [x194_0, x194_1, x194_2, x194_3, x194_5, x194_7, x194_10, x194_11, x194_12, x194_13, x194_14, x194_17, x194_20, x194_21, x194_24, x194_25, x194_26, x194_27, x194_30, x194_33, x194_34, oM, s_colsOf, Kc_some, if_pos, if_neg, ↓reduceIte, not_true_eq_false, not_false_eq_true, ih]
      rw [Int.add_assoc]
theorem s_tableSum {h : Int} (W : WfM σ) (hd : 1 ≤ d) (h1 : 0 ≤ h) (h2 : h ≤ 4) : Ex sc d 194 0 [some (vR 373), some (vI h), none, none] [] (wH σ u) Q ↔ Q (.inl (some (vI (tabF (fun t => σ 374 (26 * h + t)) 26 0)))) (wH σ u) := by
  have e := l_tableSum (u := u) (Q := Q) (sc := sc) W hd h1 h2 26 0 0 (by omega) (by omega)
  rw [Int.zero_add] at e
  refine Iff.trans ?_ e
  simp (disch := first | omega | exact notL_I | exact notL_N | exact notL_R | exact oM | exact catS_le (Nat.le_of_ble_eq_true rfl) | rfl) only [x194_0, x194_1, x194_2, x194_3]
theorem l_leastName {h : Int} (W : WfM σ) (h1 : 0 ≤ h) (h2 : h ≤ 4) : ∀ (n : Nat) (k : Int), 0 ≤ k → k + n = 100 → (Ex sc d 220 2 [some (vR 373), some (vI h), some (vI k)] [] (wH σ u) Q ↔ Q (.inl (some (vI (leF (fun k => σ 385 (100 * h + k)) n k)))) (wH σ u)) := by
  intro n
  induction n with
  | zero =>
    intro k h0 hk
    rw [x220_2]
    simp (disch := first | omega | exact notL_I | exact notL_N | exact notL_R | exact oM | exact catS_le (Nat.le_of_ble_eq_true rfl) | rfl) only [x220_0, x220_1, x220_3, x220_5, x220_8, x220_9, x220_12, x220_14, x220_15, x220_16, x220_17, x220_18, x220_19, x220_22, x220_25, x220_28, x220_29, if_pos]
    rfl
  | succ n ih =>
    intro k h0 hk
    have w := W.nam (k := k) h1 h2 h0 (by omega)
    rw [x220_2, leF]
    rcases w with w | w
    · simp (disch := first | omega | exact notL_I | exact notL_N | exact notL_R | exact oM | exact catS_le (Nat.le_of_ble_eq_true rfl) | rfl) only [x220_0, x220_1, x220_3, x220_5, x220_8, x220_9, x220_12, x220_14, x220_15, x220_16, x220_17, x220_18, x220_19, x220_22, x220_25, x220_28, x220_29, gM_named, RM_named, w, if_pos, if_neg, ↓reduceIte, not_true_eq_false, not_false_eq_true]
    · simp (disch := first | omega | exact notL_I | exact notL_N | exact notL_R | exact oM | exact catS_le (Nat.le_of_ble_eq_true rfl) | rfl) only [x220_0, x220_1, x220_3, x220_5, x220_8, x220_9, x220_12, x220_14, x220_15, x220_16, x220_17, x220_18, x220_19, x220_22, x220_25, x220_28, x220_29, gM_named, RM_named, w, if_pos, if_neg, ↓reduceIte, not_true_eq_false, not_false_eq_true, ih]
theorem s_leastName {h : Int} (W : WfM σ) (h1 : 0 ≤ h) (h2 : h ≤ 4) : Ex sc d 220 0 [some (vR 373), some (vI h), none] [] (wH σ u) Q ↔ Q (.inl (some (vI (leF (fun k => σ 385 (100 * h + k)) 100 0)))) (wH σ u) := by
  have e := l_leastName (u := u) (Q := Q) (sc := sc) (d := d) W h1 h2 100 0 (by omega) (by omega)
  refine Iff.trans ?_ e
  simp (disch := first | omega | exact notL_I | exact notL_N | exact notL_R | exact oM | exact catS_le (Nat.le_of_ble_eq_true rfl) | rfl) only [x220_0, x220_1]
def nxB (g : Int → Int) (p t : Int) : Int → Int := if 2000 ≤ p ∧ g (p - 2000) = -1 then iup g (p - 2000) t else g
def gdB (g : Int → Int) : Prop := ∀ v, 0 ≤ v → v ≤ 25 → -1 ≤ g v ∧ g v ≤ 1099
theorem nxB_gd {g : Int → Int} {p t : Int} (hg : gdB g) (ht : isTm t) : gdB (nxB g p t) := by
  have w := isTm_in ht
  intro v v1 v2
  have := hg v v1 v2
  unfold nxB
  split
  · unfold iup
    split
    · omega
    · exact this
  · exact this
theorem fit1_nx {g : Int → Int} {p t : Int} {β : Bd} (hp : isPl p) (h : fit1 (cB g) p t = some β) : cB (nxB g p t) = β := by
  have w := isPl_in hp
  unfold fit1 at h
  unfold nxB
  by_cases p1 : 2000 ≤ p
  · rw [cB_in (by omega) (by omega)] at h
    by_cases p2 : g (p - 2000) = -1
    · rw [if_pos ⟨p1, p2⟩] at h ⊢
      rw [cB_up (by omega) (by omega)]
      exact Option.some.inj h
    · rw [if_neg (by omega)] at h ⊢
      split at h
      · exact Option.some.inj h
      · cases h
  · rw [if_neg (by omega)] at h ⊢
    split at h
    · exact Option.some.inj h
    · cases h
/-- fits, a column -/
theorem l_fits1 {h r s i n t c : Int} {g : Int → Int} (hd : 2 ≤ d) (h1 : 0 ≤ h) (h2 : h ≤ 4) (r1 : 0 ≤ r) (r2 : r ≤ 9) (s1 : 0 ≤ s) (s2 : s ≤ 1) (i1 : 0 ≤ i) (i2 : i ≤ 2) (n1 : 0 ≤ n) (n2 : n ≤ 199) (t1 : 0 ≤ t) (t2 : t ≤ 25) (c1 : 0 ≤ c) (c2 : c ≤ 2) (hc : c < σ 374 (26 * h + t)) (hc3 : σ 374 (26 * h + t) ≤ 3)
    (hp : isPl (σ 376 (30 * (10 * h + r) + (3 + 4 * (3 * s + i) + (1 + c))))) (ht : isTm (σ 379 (3 * (200 * h + n) + c))) (hg : gdB g) {l8 l9 : Option V} (n8 : notL l8 = true) :
    Ex sc d 235 39 [some (vR 373), some (vI h), some (vI r), some (vI s), some (vI i), some (vI n), some (vI t), some (vI c), l8, l9] [] (wH (stB σ g) u) Q ↔ if fit1 (cB g) (σ 376 (30 * (10 * h + r) + (3 + 4 * (3 * s + i) + (1 + c)))) (σ 379 (3 * (200 * h + n) + c)) = none then Q (.inl (some (vI (0)))) (wH (stB σ g) u) else Ex sc d 235 39 [some (vR 373), some (vI h), some (vI r), some (vI s), some (vI i), some (vI n), some (vI t), some (vI (c + 1)), some (vI (σ 376 (30 * (10 * h + r) + (3 + 4 * (3 * s + i) + (1 + c))))), some (vI (σ 379 (3 * (200 * h + n) + c)))] [] (wH (stB σ (nxB g (σ 376 (30 * (10 * h + r) + (3 + 4 * (3 * s + i) + (1 + c)))) (σ 379 (3 * (200 * h + n) + c)))) u) Q := by
  have w1 := isTm_in ht
  rw [x235_39]
  generalize hpe : σ 376 (30 * (10 * h + r) + (3 + 4 * (3 * s + i) + (1 + c))) = p at hp ⊢
  have w2 := isPl_in hp
  generalize hte : σ 379 (3 * (200 * h + n) + c) = tt at *
  by_cases p1 : 2000 ≤ p
  · have w3 := hg (p - 2000) (by omega) (by omega)
    by_cases p2 : g (p - 2000) = -1
    · have ef : fit1 (cB g) p tt = some (bup (cB g) (p - 2000) tt) := by
        unfold fit1
        rw [cB_in (by omega) (by omega), if_pos ⟨p1, p2⟩]
      have en : nxB g p tt = iup g (p - 2000) tt := if_pos ⟨p1, p2⟩
      rw [ef, en, if_neg (by simp)]
      simp (disch := first | omega | exact notL_I | exact notL_N | exact notL_R | exact oM | exact catS_le (Nat.le_of_ble_eq_true rfl) | rfl) only [x235_0, x235_1, x235_2, x235_3, x235_4, x235_6, x235_7, x235_10, x235_12, x235_13, x235_14, x235_16, x235_19, x235_22, x235_23, x235_24, x235_26, x235_29, x235_31, x235_34, x235_35, x235_36, x235_37, x235_41, x235_42, x235_43, x235_45, x235_48, x235_51, x235_52, x235_53, x235_54, x235_55, x235_57, x235_58, x235_60, x235_61, x235_64, x235_66, x235_67, x235_68, x235_70, x235_72, x235_75, x235_77, x235_79, x235_82, x235_85, x235_86, x235_89, x235_91, x235_94, x235_95, x235_96, x235_97, x235_100, x235_101, x235_104, x235_106, x235_109, x235_110, x235_112, x235_113, x235_116, x235_117, x235_119, x235_122, x235_124, x235_127, x235_128, x235_129, x235_132, x235_135, x235_136, s_colsOf, s_atom, s_term, Kc_some, stB_ne, if_pos, if_neg, ↓reduceIte, not_true_eq_false, not_false_eq_true, gM_bound, RM_bound, WM_bound, stB_at, stB_su, hpe, hte, p2]
    · have en : nxB g p tt = g := if_neg (by omega)
      by_cases p3 : g (p - 2000) = tt
      · have ef : fit1 (cB g) p tt = some (cB g) := by
          unfold fit1 worthB
          rw [cB_in (by omega) (by omega), if_neg (by omega), if_pos p1, if_pos p3]
        rw [ef, en, if_neg (by simp)]
        simp (disch := first | omega | exact notL_I | exact notL_N | exact notL_R | exact oM | exact catS_le (Nat.le_of_ble_eq_true rfl) | rfl) only [x235_0, x235_1, x235_2, x235_3, x235_4, x235_6, x235_7, x235_10, x235_12, x235_13, x235_14, x235_16, x235_19, x235_22, x235_23, x235_24, x235_26, x235_29, x235_31, x235_34, x235_35, x235_36, x235_37, x235_41, x235_42, x235_43, x235_45, x235_48, x235_51, x235_52, x235_53, x235_54, x235_55, x235_57, x235_58, x235_60, x235_61, x235_64, x235_66, x235_67, x235_68, x235_70, x235_72, x235_75, x235_77, x235_79, x235_82, x235_85, x235_86, x235_89, x235_91, x235_94, x235_95, x235_96, x235_97, x235_100, x235_101, x235_104, x235_106, x235_109, x235_110, x235_112, x235_113, x235_116, x235_117, x235_119, x235_122, x235_124, x235_127, x235_128, x235_129, x235_132, x235_135, x235_136, s_colsOf, s_atom, s_term, s_worth, worthB, Kc_some, stB_ne, if_pos, if_neg, ↓reduceIte, not_true_eq_false, not_false_eq_true, gM_bound, RM_bound, WM_bound, stB_at, stB_su, hpe, hte]
      · have ef : fit1 (cB g) p tt = none := by
          unfold fit1 worthB
          rw [cB_in (by omega) (by omega), if_neg (by omega), if_pos p1, if_neg p3]
        rw [ef, if_pos rfl]
        simp (disch := first | omega | exact notL_I | exact notL_N | exact notL_R | exact oM | exact catS_le (Nat.le_of_ble_eq_true rfl) | rfl) only [x235_0, x235_1, x235_2, x235_3, x235_4, x235_6, x235_7, x235_10, x235_12, x235_13, x235_14, x235_16, x235_19, x235_22, x235_23, x235_24, x235_26, x235_29, x235_31, x235_34, x235_35, x235_36, x235_37, x235_41, x235_42, x235_43, x235_45, x235_48, x235_51, x235_52, x235_53, x235_54, x235_55, x235_57, x235_58, x235_60, x235_61, x235_64, x235_66, x235_67, x235_68, x235_70, x235_72, x235_75, x235_77, x235_79, x235_82, x235_85, x235_86, x235_89, x235_91, x235_94, x235_95, x235_96, x235_97, x235_100, x235_101, x235_104, x235_106, x235_109, x235_110, x235_112, x235_113, x235_116, x235_117, x235_119, x235_122, x235_124, x235_127, x235_128, x235_129, x235_132, x235_135, x235_136, s_colsOf, s_atom, s_term, s_worth, worthB, Kc_some, stB_ne, if_pos, if_neg, ↓reduceIte, not_true_eq_false, not_false_eq_true, gM_bound, RM_bound, WM_bound, stB_at, stB_su, hpe, hte]
  · have en : nxB g p tt = g := if_neg (by omega)
    by_cases p3 : p = tt
    · have ef : fit1 (cB g) p tt = some (cB g) := by
        unfold fit1 worthB
        rw [if_neg (by omega), if_neg p1, if_pos p3]
      rw [ef, en, if_neg (by simp)]
      simp (disch := first | omega | exact notL_I | exact notL_N | exact notL_R | exact oM | exact catS_le (Nat.le_of_ble_eq_true rfl) | rfl) only [x235_0, x235_1, x235_2, x235_3, x235_4, x235_6, x235_7, x235_10, x235_12, x235_13, x235_14, x235_16, x235_19, x235_22, x235_23, x235_24, x235_26, x235_29, x235_31, x235_34, x235_35, x235_36, x235_37, x235_41, x235_42, x235_43, x235_45, x235_48, x235_51, x235_52, x235_53, x235_54, x235_55, x235_57, x235_58, x235_60, x235_61, x235_64, x235_66, x235_67, x235_68, x235_70, x235_72, x235_75, x235_77, x235_79, x235_82, x235_85, x235_86, x235_89, x235_91, x235_94, x235_95, x235_96, x235_97, x235_100, x235_101, x235_104, x235_106, x235_109, x235_110, x235_112, x235_113, x235_116, x235_117, x235_119, x235_122, x235_124, x235_127, x235_128, x235_129, x235_132, x235_135, x235_136, s_colsOf, s_atom, s_term, s_worth, worthB, Kc_some, stB_ne, if_pos, if_neg, ↓reduceIte, not_true_eq_false, not_false_eq_true, gM_bound, RM_bound, WM_bound, stB_at, stB_su, hpe, hte]
    · have ef : fit1 (cB g) p tt = none := by
        unfold fit1 worthB
        rw [if_neg (by omega), if_neg p1, if_neg p3]
      rw [ef, if_pos rfl]
      simp (disch := first | omega | exact notL_I | exact notL_N | exact notL_R | exact oM | exact catS_le (Nat.le_of_ble_eq_true rfl) | rfl) only [x235_0, x235_1, x235_2, x235_3, x235_4, x235_6, x235_7, x235_10, x235_12, x235_13, x235_14, x235_16, x235_19, x235_22, x235_23, x235_24, x235_26, x235_29, x235_31, x235_34, x235_35, x235_36, x235_37, x235_41, x235_42, x235_43, x235_45, x235_48, x235_51, x235_52, x235_53, x235_54, x235_55, x235_57, x235_58, x235_60, x235_61, x235_64, x235_66, x235_67, x235_68, x235_70, x235_72, x235_75, x235_77, x235_79, x235_82, x235_85, x235_86, x235_89, x235_91, x235_94, x235_95, x235_96, x235_97, x235_100, x235_101, x235_104, x235_106, x235_109, x235_110, x235_112, x235_113, x235_116, x235_117, x235_119, x235_122, x235_124, x235_127, x235_128, x235_129, x235_132, x235_135, x235_136, s_colsOf, s_atom, s_term, s_worth, worthB, Kc_some, stB_ne, if_pos, if_neg, ↓reduceIte, not_true_eq_false, not_false_eq_true, gM_bound, RM_bound, WM_bound, stB_at, stB_su, hpe, hte]
/-- fits, its end -/
theorem l_fits0 {h r s i n t c : Int} {g : Int → Int} (hd : 2 ≤ d) (h1 : 0 ≤ h) (h2 : h ≤ 4) (t1 : 0 ≤ t) (t2 : t ≤ 25) (c1 : 0 ≤ c) (c2 : c ≤ 3) (hc : c = σ 374 (26 * h + t)) {l8 l9 : Option V} : Ex sc d 235 39 [some (vR 373), some (vI h), some (vI r), some (vI s), some (vI i), some (vI n), some (vI t), some (vI c), l8, l9] [] (wH (stB σ g) u) Q ↔ Q (.inl (some (vI (1)))) (wH (stB σ g) u) := by
  rw [x235_39]
  simp (disch := first | omega | exact notL_I | exact notL_N | exact notL_R | exact oM | exact catS_le (Nat.le_of_ble_eq_true rfl) | rfl) only [x235_0, x235_1, x235_2, x235_3, x235_4, x235_6, x235_7, x235_10, x235_12, x235_13, x235_14, x235_16, x235_19, x235_22, x235_23, x235_24, x235_26, x235_29, x235_31, x235_34, x235_35, x235_36, x235_37, x235_41, x235_42, x235_43, x235_45, x235_48, x235_51, x235_52, x235_53, x235_54, x235_55, x235_57, x235_58, x235_60, x235_61, x235_64, x235_66, x235_67, x235_68, x235_70, x235_72, x235_75, x235_77, x235_79, x235_82, x235_85, x235_86, x235_89, x235_91, x235_94, x235_95, x235_96, x235_97, x235_100, x235_101, x235_104, x235_106, x235_109, x235_110, x235_112, x235_113, x235_116, x235_117, x235_119, x235_122, x235_124, x235_127, x235_128, x235_129, x235_132, x235_135, x235_136, oM, s_colsOf, Kc_some, stB_ne, if_pos]
theorem fit1_none {β : Bd} : fit1 β (-1) (-1) = some β := by
  unfold fit1 worthB
  rw [if_neg (by omega), if_neg (c := (2000 : Int) ≤ -1) (by decide), if_pos rfl]
theorem l_fits2 {h r s i n t c c' p tt : Int} {g : Int → Int} (hd : 2 ≤ d) (h1 : 0 ≤ h) (h2 : h ≤ 4) (r1 : 0 ≤ r) (r2 : r ≤ 9) (s1 : 0 ≤ s) (s2 : s ≤ 1) (i1 : 0 ≤ i) (i2 : i ≤ 2) (n1 : 0 ≤ n) (n2 : n ≤ 199) (t1 : 0 ≤ t) (t2 : t ≤ 25) (c1 : 0 ≤ c) (c2 : c ≤ 2) (hc : c < σ 374 (26 * h + t)) (hc3 : σ 374 (26 * h + t) ≤ 3)
    (hpe : σ 376 (30 * (10 * h + r) + (3 + 4 * (3 * s + i) + (1 + c))) = p) (hte : σ 379 (3 * (200 * h + n) + c) = tt) (hcc : c + 1 = c') (hp : isPl p) (ht : isTm tt) (hg : gdB g) {l8 l9 : Option V} (n8 : notL l8 = true) :
    Ex sc d 235 39 [some (vR 373), some (vI h), some (vI r), some (vI s), some (vI i), some (vI n), some (vI t), some (vI c), l8, l9] [] (wH (stB σ g) u) Q ↔ if fit1 (cB g) p tt = none then Q (.inl (some (vI (0)))) (wH (stB σ g) u) else Ex sc d 235 39 [some (vR 373), some (vI h), some (vI r), some (vI s), some (vI i), some (vI n), some (vI t), some (vI c'), some (vI p), some (vI tt)] [] (wH (stB σ (nxB g p tt)) u) Q := by
  subst hpe; subst hte; subst hcc
  exact l_fits1 hd h1 h2 r1 r2 s1 s2 i1 i2 n1 n2 t1 t2 c1 c2 hc hc3 hp ht hg n8
/-- fits, behind the table -/
theorem l_fits {h r s i n : Int} {g : Int → Int} (W : WfM σ) (hd : 2 ≤ d) (h1 : 0 ≤ h) (h2 : h ≤ 4) (r1 : 0 ≤ r) (r2 : r ≤ 9) (s1 : 0 ≤ s) (s2 : s ≤ 1) (i1 : 0 ≤ i) (i2 : i ≤ 2) (n1 : 0 ≤ n) (n2 : n ≤ 199) (hg : gdB g) (ht : σ 378 (200 * h + n) = σ 376 (30 * (10 * h + r) + (3 + 4 * (3 * s + i)))) (hm : 1 ≤ σ 374 (26 * h + σ 376 (30 * (10 * h + r) + (3 + 4 * (3 * s + i))))) :
    ∃ g', gdB g' ∧ ((∃ β, fitA (cB g) (atR σ h r s i) (rwR σ h n).2 = some β ∧ cB g' = β ∧ ∀ u Q, Ex sc d 235 39 [some (vR 373), some (vI h), some (vI r), some (vI s), some (vI i), some (vI n), some (vI (σ 376 (30 * (10 * h + r) + (3 + 4 * (3 * s + i))))), some (vI 0), none, none] [] (wH (stB σ g) u) Q ↔ Q (.inl (some (vI (1)))) (wH (stB σ g') u)) ∨ (fitA (cB g) (atR σ h r s i) (rwR σ h n).2 = none ∧ ∀ u Q, Ex sc d 235 39 [some (vR 373), some (vI h), some (vI r), some (vI s), some (vI i), some (vI n), some (vI (σ 376 (30 * (10 * h + r) + (3 + 4 * (3 * s + i))))), some (vI 0), none, none] [] (wH (stB σ g) u) Q ↔ Q (.inl (some (vI (0)))) (wH (stB σ g') u))) := by
  obtain ⟨a1, p1, p2, p3⟩ := W.ato h1 h2 r1 r2 s1 s2 i1 i2
  have w5 := W.ter (n := n) (c := 0) h1 h2 n1 n2 (by omega) (by omega)
  have w6 := W.ter (n := n) (c := 1) h1 h2 n1 n2 (by omega) (by omega)
  have w7 := W.ter (n := n) (c := 2) h1 h2 n1 n2 (by omega) (by omega)
  have m3 := (W.col h1 h2 a1.1 a1.2).2
  have eA : fitA (cB g) (atR σ h r s i) (rwR σ h n).2 = (fit1 (cB g) (σ 376 (30 * (10 * h + r) + (3 + 4 * (3 * s + i) + 1))) (σ 379 (3 * (200 * h + n) + 0))).bind fun β => (fit1 β (if 2 ≤ σ 374 (26 * h + σ 376 (30 * (10 * h + r) + (3 + 4 * (3 * s + i)))) then σ 376 (30 * (10 * h + r) + (3 + 4 * (3 * s + i) + 2)) else -1) (if 2 ≤ σ 374 (26 * h + σ 376 (30 * (10 * h + r) + (3 + 4 * (3 * s + i)))) then σ 379 (3 * (200 * h + n) + 1) else -1)).bind fun β =>
      fit1 β (if 3 ≤ σ 374 (26 * h + σ 376 (30 * (10 * h + r) + (3 + 4 * (3 * s + i)))) then σ 376 (30 * (10 * h + r) + (3 + 4 * (3 * s + i) + 3)) else -1) (if 3 ≤ σ 374 (26 * h + σ 376 (30 * (10 * h + r) + (3 + 4 * (3 * s + i)))) then σ 379 (3 * (200 * h + n) + 2) else -1) := by
    unfold fitA atR rwR nrm
    dsimp only
    rw [if_pos ht.symm, ht, Int.add_zero]
  rw [eA]
  clear eA ht
  generalize σ 376 (30 * (10 * h + r) + (3 + 4 * (3 * s + i))) = t at *
  have q0 : σ 376 (30 * (10 * h + r) + (3 + 4 * (3 * s + i) + (1 + 0))) = σ 376 (30 * (10 * h + r) + (3 + 4 * (3 * s + i) + 1)) := rfl
  have q1 : σ 376 (30 * (10 * h + r) + (3 + 4 * (3 * s + i) + (1 + 1))) = σ 376 (30 * (10 * h + r) + (3 + 4 * (3 * s + i) + 2)) := rfl
  have q2 : σ 376 (30 * (10 * h + r) + (3 + 4 * (3 * s + i) + (1 + 2))) = σ 376 (30 * (10 * h + r) + (3 + 4 * (3 * s + i) + 3)) := rfl
  generalize σ 376 (30 * (10 * h + r) + (3 + 4 * (3 * s + i) + 1)) = P0 at *
  generalize σ 376 (30 * (10 * h + r) + (3 + 4 * (3 * s + i) + 2)) = P1 at *
  generalize σ 376 (30 * (10 * h + r) + (3 + 4 * (3 * s + i) + 3)) = P2 at *
  generalize v0 : σ 379 (3 * (200 * h + n) + 0) = T0 at w5 ⊢
  generalize v1 : σ 379 (3 * (200 * h + n) + 1) = T1 at w6 ⊢
  generalize v2 : σ 379 (3 * (200 * h + n) + 2) = T2 at w7 ⊢
  have F0 := fun u Q => l_fits2 (sc := sc) (d := d) (σ := σ) (u := u) (Q := Q) (t := t) (c := 0) (c' := 1) (g := g) hd h1 h2 r1 r2 s1 s2 i1 i2 n1 n2 a1.1 a1.2 (by omega) (by omega) (by omega) m3 q0 v0 rfl p1 w5 hg (l8 := none) (l9 := none) notL_N
  have F1 := fun g hg (z : 2 ≤ σ 374 (26 * h + t)) u Q => l_fits2 (sc := sc) (d := d) (σ := σ) (u := u) (Q := Q) (t := t) (c := 1) (c' := 2) (g := g) hd h1 h2 r1 r2 s1 s2 i1 i2 n1 n2 a1.1 a1.2 (by omega) (by omega) (by omega) m3 q1 v1 rfl p2 w6 hg (l8 := some (vI P0)) (l9 := some (vI T0)) notL_I
  have F2 := fun g hg (z : 3 ≤ σ 374 (26 * h + t)) u Q => l_fits2 (sc := sc) (d := d) (σ := σ) (u := u) (Q := Q) (t := t) (c := 2) (c' := 3) (g := g) hd h1 h2 r1 r2 s1 s2 i1 i2 n1 n2 a1.1 a1.2 (by omega) (by omega) (by omega) m3 q2 v2 rfl p3 w7 hg (l8 := some (vI P1)) (l9 := some (vI T1)) notL_I
  have E := fun (c : Int) (hc : c = σ 374 (26 * h + t)) (c0 : 0 ≤ c) (c3 : c ≤ 3) (g : Int → Int) (p q : Int) u Q => l_fits0 (sc := sc) (d := d) (σ := σ) (u := u) (Q := Q) (h := h) (r := r) (s := s) (i := i) (n := n) (t := t) (c := c) (g := g) hd h1 h2 a1.1 a1.2 c0 c3 hc (l8 := some (vI p)) (l9 := some (vI q))
  cases e0 : fit1 (cB g) P0 T0 with
  | none =>
    refine ⟨g, hg, Or.inr ⟨rfl, fun u Q => ?_⟩⟩
    rw [F0, if_pos e0]
  | some β0 =>
    have g1 := nxB_gd (p := P0) hg w5
    have b1 := fit1_nx p1 e0
    have y0 : ¬ fit1 (cB g) P0 T0 = none := by rw [e0]; simp
    rw [Option.bind_some]
    by_cases m2 : 2 ≤ σ 374 (26 * h + t)
    · rw [if_pos m2, if_pos m2]
      cases e1 : fit1 β0 P1 T1 with
      | none =>
        refine ⟨nxB g P0 T0, g1, Or.inr ⟨rfl, fun u Q => ?_⟩⟩
        rw [F0, if_neg y0, F1 _ g1 m2, if_pos (by rw [b1]; exact e1)]
      | some β1 =>
        have e1' : fit1 (cB (nxB g P0 T0)) P1 T1 = some β1 := by rw [b1]; exact e1
        have g2 := nxB_gd (p := P1) g1 w6
        have b2 := fit1_nx p2 e1'
        have y1 : ¬ fit1 (cB (nxB g P0 T0)) P1 T1 = none := by rw [e1']; simp
        rw [Option.bind_some]
        by_cases m3' : 3 ≤ σ 374 (26 * h + t)
        · rw [if_pos m3', if_pos m3']
          cases e2 : fit1 β1 P2 T2 with
          | none =>
            refine ⟨_, g2, Or.inr ⟨rfl, fun u Q => ?_⟩⟩
            rw [F0, if_neg y0, F1 _ g1 m2, if_neg y1, F2 _ g2 m3', if_pos (by rw [b2]; exact e2)]
          | some β2 =>
            have e2' : fit1 (cB (nxB (nxB g P0 T0) P1 T1)) P2 T2 = some β2 := by rw [b2]; exact e2
            have y2 : ¬ fit1 (cB (nxB (nxB g P0 T0) P1 T1)) P2 T2 = none := by rw [e2']; simp
            refine ⟨_, nxB_gd (p := P2) g2 w7, Or.inl ⟨β2, rfl, fit1_nx p3 e2', fun u Q => ?_⟩⟩
            rw [F0, if_neg y0, F1 _ g1 m2, if_neg y1, F2 _ g2 m3', if_neg y2]
            exact E _ (by omega) (by omega) (by omega) _ _ _ u Q
        · rw [if_neg m3', if_neg m3', fit1_none]
          refine ⟨_, g2, Or.inl ⟨β1, rfl, b2, fun u Q => ?_⟩⟩
          rw [F0, if_neg y0, F1 _ g1 m2, if_neg y1]
          exact E _ (by omega) (by omega) (by omega) _ _ _ u Q
    · rw [if_neg m2, if_neg m2, fit1_none, Option.bind_some, if_neg (by omega), if_neg (by omega), fit1_none]
      refine ⟨_, g1, Or.inl ⟨β0, rfl, b1, fun u Q => ?_⟩⟩
      rw [F0, if_neg y0]
      exact E _ (by omega) (by omega) (by omega) _ _ _ u Q
theorem s_fits {h r s i n : Int} (W : WfM σ) (hd : 2 ≤ d) (h1 : 0 ≤ h) (h2 : h ≤ 4) (r1 : 0 ≤ r) (r2 : r ≤ 9) (s1 : 0 ≤ s) (s2 : s ≤ 1) (i1 : 0 ≤ i) (i2 : i ≤ 2) (n1 : 0 ≤ n) (n2 : n ≤ 199) (hg : gdB (σ 389)) (hm : 1 ≤ σ 374 (26 * h + σ 376 (30 * (10 * h + r) + (3 + 4 * (3 * s + i))))) :
    ∃ g', gdB g' ∧ ((σ 377 (200 * h + n) = 1 ∧ ∃ β, fitA (cB (σ 389)) (atR σ h r s i) (rwR σ h n).2 = some β ∧ cB g' = β ∧ RnA sc d 235 0 [some (vR 373), some (vI h), some (vI r), some (vI s), some (vI i), some (vI n), none, none, none, none] σ (some (vI 1)) (stB σ g')) ∨ ((σ 377 (200 * h + n) = 0 ∨ fitA (cB (σ 389)) (atR σ h r s i) (rwR σ h n).2 = none) ∧ RnA sc d 235 0 [some (vR 373), some (vI h), some (vI r), some (vI s), some (vI i), some (vI n), none, none, none, none] σ (some (vI 0)) (stB σ g'))) := by
  obtain ⟨a1, -⟩ := W.ato h1 h2 r1 r2 s1 s2 i1 i2
  have w3 := W.thr (n := n) h1 h2 n1 n2
  have w4 := W.tab (n := n) h1 h2 n1 n2
  have z0 : 3 + 4 * (3 * s + i) + 0 = 3 + 4 * (3 * s + i) := by omega
  rcases w3 with w3 | w3
  · refine ⟨σ 389, hg, Or.inr ⟨Or.inl w3, fun u Q => ?_⟩⟩
    rw [stB_self]
    simp (disch := first | omega | exact notL_I | exact notL_N | exact notL_R | exact oM | exact catS_le (Nat.le_of_ble_eq_true rfl) | rfl) only [x235_0, x235_1, x235_2, x235_3, x235_4, x235_6, x235_7, x235_10, x235_12, x235_13, x235_14, x235_16, x235_19, x235_22, x235_23, x235_24, x235_26, x235_29, x235_31, x235_34, x235_35, x235_36, x235_37, x235_41, x235_42, x235_43, x235_45, x235_48, x235_51, x235_52, x235_53, x235_54, x235_55, x235_57, x235_58, x235_60, x235_61, x235_64, x235_66, x235_67, x235_68, x235_70, x235_72, x235_75, x235_77, x235_79, x235_82, x235_85, x235_86, x235_89, x235_91, x235_94, x235_95, x235_96, x235_97, x235_100, x235_101, x235_104, x235_106, x235_109, x235_110, x235_112, x235_113, x235_116, x235_117, x235_119, x235_122, x235_124, x235_127, x235_128, x235_129, x235_132, x235_135, x235_136, s_atom, s_isThere, w3, Kc_some, if_pos, if_neg, ↓reduceIte, not_true_eq_false, not_false_eq_true, z0]
  · by_cases ht : σ 378 (200 * h + n) = σ 376 (30 * (10 * h + r) + (3 + 4 * (3 * s + i)))
    · obtain ⟨g', hg', hh⟩ := l_fits (sc := sc) W hd h1 h2 r1 r2 s1 s2 i1 i2 n1 n2 hg ht hm
      have en : ∀ u Q, Ex sc d 235 0 [some (vR 373), some (vI h), some (vI r), some (vI s), some (vI i), some (vI n), none, none, none, none] [] (wH σ u) Q ↔ Ex sc d 235 39 [some (vR 373), some (vI h), some (vI r), some (vI s), some (vI i), some (vI n), some (vI (σ 376 (30 * (10 * h + r) + (3 + 4 * (3 * s + i))))), some (vI 0), none, none] [] (wH (stB σ (σ 389)) u) Q := by
        intro u Q
        rw [stB_self]
        simp (disch := first | omega | exact notL_I | exact notL_N | exact notL_R | exact oM | exact catS_le (Nat.le_of_ble_eq_true rfl) | rfl) only [x235_0, x235_1, x235_2, x235_3, x235_4, x235_6, x235_7, x235_10, x235_12, x235_13, x235_14, x235_16, x235_19, x235_22, x235_23, x235_24, x235_26, x235_29, x235_31, x235_34, x235_35, x235_36, x235_37, x235_41, x235_42, x235_43, x235_45, x235_48, x235_51, x235_52, x235_53, x235_54, x235_55, x235_57, x235_58, x235_60, x235_61, x235_64, x235_66, x235_67, x235_68, x235_70, x235_72, x235_75, x235_77, x235_79, x235_82, x235_85, x235_86, x235_89, x235_91, x235_94, x235_95, x235_96, x235_97, x235_100, x235_101, x235_104, x235_106, x235_109, x235_110, x235_112, x235_113, x235_116, x235_117, x235_119, x235_122, x235_124, x235_127, x235_128, x235_129, x235_132, x235_135, x235_136, s_atom, s_isThere, s_table, w3, Kc_some, if_pos, if_neg, ↓reduceIte, not_true_eq_false, not_false_eq_true, z0]
      refine ⟨g', hg', ?_⟩
      rcases hh with ⟨β, q1, q2, q3⟩ | ⟨q1, q3⟩
      · exact Or.inl ⟨w3, β, q1, q2, fun u Q => (en u Q).trans (q3 u Q)⟩
      · exact Or.inr ⟨Or.inr q1, fun u Q => (en u Q).trans (q3 u Q)⟩
    · refine ⟨σ 389, hg, Or.inr ⟨Or.inr ?_, fun u Q => ?_⟩⟩
      · unfold fitA
        exact if_neg (fun z => ht z.symm)
      · rw [stB_self]
        simp (disch := first | omega | exact notL_I | exact notL_N | exact notL_R | exact oM | exact catS_le (Nat.le_of_ble_eq_true rfl) | rfl) only [x235_0, x235_1, x235_2, x235_3, x235_4, x235_6, x235_7, x235_10, x235_12, x235_13, x235_14, x235_16, x235_19, x235_22, x235_23, x235_24, x235_26, x235_29, x235_31, x235_34, x235_35, x235_36, x235_37, x235_41, x235_42, x235_43, x235_45, x235_48, x235_51, x235_52, x235_53, x235_54, x235_55, x235_57, x235_58, x235_60, x235_61, x235_64, x235_66, x235_67, x235_68, x235_70, x235_72, x235_75, x235_77, x235_79, x235_82, x235_85, x235_86, x235_89, x235_91, x235_94, x235_95, x235_96, x235_97, x235_100, x235_101, x235_104, x235_106, x235_109, x235_110, x235_112, x235_113, x235_116, x235_117, x235_119, x235_122, x235_124, x235_127, x235_128, x235_129, x235_132, x235_135, x235_136, s_atom, s_isThere, s_table, w3, Kc_some, if_pos, if_neg, ↓reduceIte, not_true_eq_false, not_false_eq_true, z0]
end R3
