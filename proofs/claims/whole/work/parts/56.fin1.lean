/-! the finder of the class: bindings, fits -/
theorem TrOk.le26 {f g : Int → Int} {n : Nat} (T : TrOk 26 f g n) : n ≤ 26 := TrOk.le (N := 26) T
theorem TrOk.room26 {f g : Int → Int} {n : Nat} (T : TrOk 26 f g n) {v : Int} (h0 : 0 ≤ v) (h1 : v ≤ 25) (hv : f v = -1) : n < 26 := TrOk.room (N := 26) T h0 (by omega) hv
/-- bindings in order, n of them -/
def TrF (σ : St) (n : Nat) : Prop := σ 101 2 = (n : Int) ∧ TrOk 26 (σ 102) (σ 103) n ∧ ∀ v, 0 ≤ v → v ≤ 25 → -1 ≤ σ 102 v ∧ σ 102 v ≤ 1099
def bF (σ : St) (k : Nat) : Bd := bT (σ 102) (σ 103) k
/-- only bindings change -/
def FnF (σ τ : St) : Prop := (∀ c, c ≠ 101 → c ≠ 102 → c ≠ 103 → τ c = σ c) ∧ ∀ j, j ≠ 2 → τ 101 j = σ 101 j
theorem FnF.refl {σ : St} : FnF σ σ := ⟨fun _ _ _ _ => rfl, fun _ _ => rfl⟩
theorem FnF.trans {σ τ ρ : St} (h1 : FnF σ τ) (h2 : FnF τ ρ) : FnF σ ρ := ⟨fun c a b e => (h2.1 c a b e).trans (h1.1 c a b e), fun j a => (h2.2 j a).trans (h1.2 j a)⟩
theorem su_iup {σ : St} {a : Nat} {i x : Int} : su σ a i x a = iup (σ a) i x := by
  unfold su
  rw [if_pos rfl]
section F1
variable {sc : Scr} {σ : St} {u : Bool × Nat × Nat × Int} {Q : Rs → HS → Prop} {d : Nat} {a r : Nat}
theorem s_unbind (hd : 1 ≤ d) : Ex sc d 98 0 [some (vR 101)] [] (wH σ u) Q ↔ Q (.inl none) (wH (su (fl σ 102 0 26 (-1)) 101 2 0) u) := by
  simp (disch := first | assumption | omega | exact notL_I | exact notL_N | exact notL_R | exact catS_le (Nat.le_of_ble_eq_true rfl) | exact ooRo (by assumption) | exact ooAt (by assumption) | exact ooRu (by assumption) | exact ooLo (by assumption) | exact ooHa (by assumption) | exact ooLe (by assumption) | exact ooFn | exact ooAn | exact ooPa | exact ooTo | exact ooWa | exact ooCh | rfl) only [x98_0, x98_1, x98_4, x98_5, x98_8, x98_9, x98_10, x98_13, gFn_bound, pFn_trailSize, s_fill sFn_bound.1 sFn_bound.2 (by decide), Kc_none]
  rfl
theorem unbind_v : FnF σ (su (fl σ 102 0 26 (-1)) 101 2 0) ∧ TrF (su (fl σ 102 0 26 (-1)) 101 2 0) 0 ∧ bF (su (fl σ 102 0 26 (-1)) 101 2 0) 0 = bd0 := by
  have e : su (fl σ 102 0 26 (-1)) 101 2 0 102 = fl σ 102 0 26 (-1) 102 := su_ne (by omega)
  refine ⟨⟨fun c a b e => by rw [su_ne a, fl_ne b], fun j hj => by rw [su_off hj, fl_ne (by omega)]⟩, ⟨by rw [su_eq]; rfl, ?_, ?_⟩, bT_nil⟩
  · apply TrOk.nil
    intro v v0 v1
    rw [e, fl_at, if_pos ⟨v0, v1⟩]
  · intro v v0 v1
    rw [e, fl_at, if_pos (by omega)]
    omega
theorem l_undo {m : Nat} : ∀ (k : Nat) (σ : St), TrF σ (m + k) → ∃ τ, FnF σ τ ∧ TrF τ m ∧ (∀ i, i ≤ m → bF τ i = bF σ i) ∧ ∀ (u : Bool × Nat × Nat × Int) (Q : Rs → HS → Prop), Ex sc d 100 5 [some (vR 101), some (vI ((m : Int))), some (vI (((m + k : Nat) : Int)))] [] (wH σ u) Q ↔ Q (.inl none) (wH τ u) := by
  intro k
  induction k with
  | zero =>
    intro σ T
    have tl := T.2.1.le26
    refine ⟨σ, FnF.refl, T, fun _ _ => rfl, fun u Q => ?_⟩
    rw [x100_5]
    simp (disch := first | assumption | omega | exact notL_I | exact notL_N | exact notL_R | exact catS_le (Nat.le_of_ble_eq_true rfl) | exact ooRo (by assumption) | exact ooAt (by assumption) | exact ooRu (by assumption) | exact ooLo (by assumption) | exact ooHa (by assumption) | exact ooLe (by assumption) | exact ooFn | exact ooAn | exact ooPa | exact ooTo | exact ooWa | exact ooCh | rfl) only [x100_0, x100_1, x100_4, x100_6, x100_7, x100_10, x100_11, x100_14, x100_15, x100_18, x100_19, x100_22, x100_23, x100_24, x100_25, x100_26, x100_27, x100_28, x100_29, x100_30, x100_31, x100_32, x100_35, x100_38, x100_41, Nat.add_zero, if_pos, if_neg, ↓reduceIte, not_true_eq_false, not_false_eq_true]
  | succ k ih =>
    intro σ T
    obtain ⟨t1, t2, t3⟩ := T
    have tl := t2.le26
    have ti := t2.in_ (i := m + k) (by omega)
    obtain ⟨u1, u2⟩ := TrOk.undo (n := m + k) t2
    have e2 : su (su σ 102 (σ 103 ((m + k : Nat) : Int)) (-1)) 101 2 ((m + k : Nat) : Int) 102 = iup (σ 102) (σ 103 ((m + k : Nat) : Int)) (-1) := by rw [su_ne (by omega), su_iup]
    have e3 : su (su σ 102 (σ 103 ((m + k : Nat) : Int)) (-1)) 101 2 ((m + k : Nat) : Int) 103 = σ 103 := by rw [su_ne (by omega), su_ne (by omega)]
    have T' : TrF (su (su σ 102 (σ 103 ((m + k : Nat) : Int)) (-1)) 101 2 ((m + k : Nat) : Int)) (m + k) := by
      refine ⟨by rw [su_eq], by rw [e2, e3]; exact u1, fun v v0 v1 => ?_⟩
      rw [e2]
      unfold iup
      split
      · omega
      · exact t3 v v0 v1
    obtain ⟨τ, h1, h2, h3, h4⟩ := ih _ T'
    refine ⟨τ, FnF.trans ⟨fun c a b e => by rw [su_ne a, su_ne b], fun j hj => by rw [su_off hj, su_ne (by omega)]⟩ h1, h2, fun i hi => ?_, fun u Q => ?_⟩
    · rw [h3 i hi]
      unfold bF
      rw [e2, e3]
      exact u2 i (by omega)
    · have h4' := h4 u Q
      have en : ((m + (k + 1) : Nat) : Int) - 1 = ((m + k : Nat) : Int) := by omega
      have en2 : ((m + (k + 1) : Nat) : Int) + -1 = ((m + k : Nat) : Int) := by omega
      rw [x100_5]
      simp (disch := first | assumption | omega | exact notL_I | exact notL_N | exact notL_R | exact catS_le (Nat.le_of_ble_eq_true rfl) | exact ooRo (by assumption) | exact ooAt (by assumption) | exact ooRu (by assumption) | exact ooLo (by assumption) | exact ooHa (by assumption) | exact ooLe (by assumption) | exact ooFn | exact ooAn | exact ooPa | exact ooTo | exact ooWa | exact ooCh | rfl) only [x100_0, x100_1, x100_4, x100_6, x100_7, x100_10, x100_11, x100_14, x100_15, x100_18, x100_19, x100_22, x100_23, x100_24, x100_25, x100_26, x100_27, x100_28, x100_29, x100_30, x100_31, x100_32, x100_35, x100_38, x100_41, gFn_bound, gFn_trail, RFn_trail, WFn_bound, pFn_trailSize, en, en2, if_pos, if_neg, ↓reduceIte, not_true_eq_false, not_false_eq_true]
      exact h4'
theorem s_undo {n m : Nat} (hm : m ≤ n) (T : TrF σ n) : ∃ τ, FnF σ τ ∧ TrF τ m ∧ (∀ i, i ≤ m → bF τ i = bF σ i) ∧ RnA sc d 100 0 [some (vR 101), some (vI ((m : Int))), none] σ none τ := by
  obtain ⟨τ, h1, h2, h3, h4⟩ := l_undo (sc := sc) (d := d) (m := m) (n - m) σ (by rw [show m + (n - m) = n by omega]; exact T)
  refine ⟨τ, h1, h2, h3, fun u Q => ?_⟩
  rw [← h4 u Q, show m + (n - m) = n by omega]
  simp (disch := first | assumption | omega | exact notL_I | exact notL_N | exact notL_R | exact catS_le (Nat.le_of_ble_eq_true rfl) | exact ooRo (by assumption) | exact ooAt (by assumption) | exact ooRu (by assumption) | exact ooLo (by assumption) | exact ooHa (by assumption) | exact ooLe (by assumption) | exact ooFn | exact ooAn | exact ooPa | exact ooTo | exact ooWa | exact ooCh | rfl) only [x100_0, x100_1, x100_4, gFn_trailSize, T.1]
def bdS (σ : St) (n : Nat) (v x : Int) : St := su (su (su σ 102 v x) 103 (n : Int) v) 101 2 ((n : Int) + 1)
theorem s_bind {n : Nat} {v x : Int} (T : TrF σ n) (v0 : 0 ≤ v) (v1 : v ≤ 25) (hv : σ 102 v = -1) : Ex sc d 103 0 [some (vR 101), some (vI v), some (vI x)] [] (wH σ u) Q ↔ Q (.inl none) (wH (bdS σ n v x) u) := by
  have h1 := T.1
  have h2 := T.2.1.room26 (v := v) v0 v1 hv
  unfold bdS
  simp (disch := first | assumption | omega | exact notL_I | exact notL_N | exact notL_R | exact catS_le (Nat.le_of_ble_eq_true rfl) | exact ooRo (by assumption) | exact ooAt (by assumption) | exact ooRu (by assumption) | exact ooLo (by assumption) | exact ooHa (by assumption) | exact ooLe (by assumption) | exact ooFn | exact ooAn | exact ooPa | exact ooTo | exact ooWa | exact ooCh | rfl) only [x103_0, x103_1, x103_4, x103_6, x103_9, x103_10, x103_13, x103_14, x103_16, x103_19, x103_20, x103_23, x103_24, x103_25, x103_26, x103_27, x103_30, x103_31, x103_34, x103_35, x103_36, x103_37I, x103_37, x103_38, x103_41, x103_42, x103_43, x103_46, gFn_trailSize, gFn_bound, gFn_trail, WFn_bound, WFn_trail, pFn_trailSize, h1, su_ne, if_pos, if_neg, ↓reduceIte, not_true_eq_false, not_false_eq_true]
theorem bind_v {n : Nat} {v x : Int} (T : TrF σ n) (v0 : 0 ≤ v) (v1 : v ≤ 25) (hv : σ 102 v = -1) (hx : 0 ≤ x ∧ x ≤ 1099) : FnF σ (bdS σ n v x) ∧ TrF (bdS σ n v x) (n + 1) ∧ (∀ k, k ≤ n → bF (bdS σ n v x) k = bF σ k) ∧ bF (bdS σ n v x) (n + 1) = bup (bF σ n) v x := by
  obtain ⟨t1, t2, t3⟩ := T
  have e2 : bdS σ n v x 102 = iup (σ 102) v x := by unfold bdS; rw [su_ne (by omega), su_ne (by omega), su_iup]
  have e3 : bdS σ n v x 103 = iup (σ 103) n v := by unfold bdS; rw [su_ne (by omega), su_iup, su_ne (by omega)]
  obtain ⟨b1, b2, b3⟩ := t2.bind (v := v) (x := x) v0 (by omega) hv (by omega)
  refine ⟨⟨fun c a b e => ?_, fun j hj => ?_⟩, ⟨?_, by rw [e2, e3]; exact b1, fun w w0 w1 => ?_⟩, fun k hk => ?_, ?_⟩
  · unfold bdS; rw [su_ne a, su_ne e, su_ne b]
  · unfold bdS; rw [su_off hj, su_ne (by omega), su_ne (by omega)]
  · unfold bdS; rw [su_eq]; omega
  · rw [e2]
    unfold iup
    split
    · omega
    · exact t3 w w0 w1
  · unfold bF; rw [e2, e3]; exact b2 k hk
  · unfold bF; rw [e2, e3]; exact b3
theorem s_termOf {p : Int} (p0 : -1 ≤ p) (p1 : p ≤ 2025) : Ex sc d 102 0 [some (vR 101), some (vI p), none] [] (wH σ u) Q ↔ Q (.inl (some (vI (worthB (σ 102) p)))) (wH σ u) := by
  unfold worthB
  by_cases h : 2000 ≤ p
  · simp (disch := first | assumption | omega | exact notL_I | exact notL_N | exact notL_R | exact catS_le (Nat.le_of_ble_eq_true rfl) | exact ooRo (by assumption) | exact ooAt (by assumption) | exact ooRu (by assumption) | exact ooLo (by assumption) | exact ooHa (by assumption) | exact ooLe (by assumption) | exact ooFn | exact ooAn | exact ooPa | exact ooTo | exact ooWa | exact ooCh | rfl) only [x102_0, x102_1, x102_4, x102_5, x102_6, x102_7, x102_10, x102_11, x102_13, x102_16, x102_17, x102_20, x102_21, x102_24, x102_25, x102_26, gFn_bound, RFn_bound, if_pos, if_neg, ↓reduceIte, not_true_eq_false, not_false_eq_true]
  · simp (disch := first | assumption | omega | exact notL_I | exact notL_N | exact notL_R | exact catS_le (Nat.le_of_ble_eq_true rfl) | exact ooRo (by assumption) | exact ooAt (by assumption) | exact ooRu (by assumption) | exact ooLo (by assumption) | exact ooHa (by assumption) | exact ooLe (by assumption) | exact ooFn | exact ooAn | exact ooPa | exact ooTo | exact ooWa | exact ooCh | rfl) only [x102_0, x102_1, x102_4, x102_5, x102_6, x102_7, x102_10, x102_11, x102_13, x102_16, x102_17, x102_20, x102_21, x102_24, x102_25, x102_26, if_pos, if_neg, ↓reduceIte, not_true_eq_false, not_false_eq_true]
theorem TrF.worth {n : Nat} (T : TrF σ n) {p : Int} (p0 : -1 ≤ p) (p1 : p ≤ 2025) : worthB (bF σ n) p = worthB (σ 102) p := by
  unfold worthB
  by_cases h : 2000 ≤ p
  · rw [if_pos h, if_pos h]
    exact T.2.1.at_ (by omega) (by omega)
  · rw [if_neg h, if_neg h]
theorem TrF.worth_in {n : Nat} (T : TrF σ n) {p : Int} (p0 : -1 ≤ p) (p1 : p ≤ 2025) : -1 ≤ worthB (σ 102) p ∧ worthB (σ 102) p ≤ 2000 := by
  unfold worthB
  by_cases h : 2000 ≤ p
  · rw [if_pos h]
    have := T.2.2 (p - 2000) (by omega) (by omega)
    omega
  · rw [if_neg h]
    omega
/-- fits, a column -/
theorem l_fitC {i p c P t : Int} {n0 n : Nat} (oa : oAt a) (or : oRo r) (ha : a ≠ 101 ∧ a ≠ 102 ∧ a ≠ 103) (i0 : 0 ≤ i) (i1 : i ≤ 2) (p0 : 0 ≤ p) (p1 : p ≤ 39) (c0 : 0 ≤ c) (c1 : c ≤ 2) (hP : σ (a + 2) (i * 3 + c) = P) (ht : σ (r + 3) (p * 3 + c) = t) (P1 : -1 ≤ P ∧ P ≤ 2025) (t1 : -1 ≤ t ∧ t ≤ 1099) (hT : 2000 ≤ P → t ≠ -1) (T : TrF σ n) (hn : n0 ≤ n) (hd : 1 ≤ d) {l7 l8 l9 : Option V} (n7 : notL l7 = true) (n8 : notL l8 = true) :
    (fit1 (bF σ n) P t = none ∧ ∃ τ, FnF σ τ ∧ TrF τ n0 ∧ (∀ k, k ≤ n0 → bF τ k = bF σ k) ∧ ∀ (u : Bool × Nat × Nat × Int) (Q : Rs → HS → Prop), Ex sc d 101 27 [some (vR 101), some (vR a), some (vI i), some (vR r), some (vI p), some (vI ((n0 : Int))), some (vI c), l7, l8, l9] [] (wH σ u) Q ↔ Q (.inl (some (vI (0)))) (wH τ u)) ∨
    (∃ β τ n2, fit1 (bF σ n) P t = some β ∧ FnF σ τ ∧ TrF τ n2 ∧ n ≤ n2 ∧ bF τ n2 = β ∧ (∀ k, k ≤ n → bF τ k = bF σ k) ∧ ∃ x, ∀ (u : Bool × Nat × Nat × Int) (Q : Rs → HS → Prop), Ex sc d 101 27 [some (vR 101), some (vR a), some (vI i), some (vR r), some (vI p), some (vI ((n0 : Int))), some (vI c), l7, l8, l9] [] (wH σ u) Q ↔ Ex sc d 101 27 [some (vR 101), some (vR a), some (vI i), some (vR r), some (vI p), some (vI ((n0 : Int))), some (vI (c + 1)), some (vI P), some (vI t), some (vI x)] [] (wH τ u) Q) := by
  have wi := T.worth_in P1.1 P1.2
  have we := T.worth P1.1 P1.2
  by_cases q1 : 2000 ≤ P ∧ worthB (σ 102) P = -1
  · have hv : σ 102 (P - 2000) = -1 := by
      have := q1.2
      unfold worthB at this
      rw [if_pos q1.1] at this
      exact this
    have hb : bF σ n (P - 2000) = -1 := by
      have := T.2.1.at_ (v := P - 2000) (by omega) (by omega)
      show bT _ _ _ _ = _
      rw [this, hv]
    obtain ⟨b1, b2, b3, b4⟩ := bind_v (x := t) T (v := P - 2000) (by omega) (by omega) hv (by have := hT q1.1; omega)
    refine Or.inr ⟨bup (bF σ n) (P - 2000) t, bdS σ n (P - 2000) t, n + 1, ?_, b1, b2, by omega, b4, b3, worthB (σ 102) P, fun u Q => ?_⟩
    · unfold fit1
      rw [if_pos ⟨q1.1, hb⟩]
    · rw [x101_27]
      simp (disch := first | assumption | omega | exact notL_I | exact notL_N | exact notL_R | exact catS_le (Nat.le_of_ble_eq_true rfl) | exact ooRo (by assumption) | exact ooAt (by assumption) | exact ooRu (by assumption) | exact ooLo (by assumption) | exact ooHa (by assumption) | exact ooLe (by assumption) | exact ooFn | exact ooAn | exact ooPa | exact ooTo | exact ooWa | exact ooCh | rfl) only [x101_0, x101_1, x101_4, x101_5, x101_6, x101_7, x101_10, x101_12, x101_13, x101_16, x101_17, x101_18, x101_19, x101_22, x101_24, x101_25, x101_29, x101_30, x101_33, x101_34, x101_37, x101_38, x101_39, x101_40, x101_42, x101_43, x101_44, x101_46, x101_47, x101_50, x101_52, x101_53, x101_54, x101_56, x101_57, x101_58, x101_60, x101_61, x101_63, x101_66, x101_68, x101_70, x101_73, x101_76, x101_78, x101_79, x101_82, x101_83, x101_85, x101_88, x101_89, x101_91, x101_94, x101_97, x101_99, x101_101, x101_104, x101_105, x101_107, x101_110, x101_111, x101_112, x101_115, x101_118, x101_119, gAt_place, RAt_place, gRo_term, RRo_term, hP, ht, s_termOf, Kc_some, Kc_none, q1.2, s_bind T, if_pos, if_neg, ↓reduceIte, not_true_eq_false, not_false_eq_true]
  · have hb : ¬ (2000 ≤ P ∧ bF σ n (P - 2000) = -1) := by
      rintro ⟨z1, z2⟩
      refine q1 ⟨z1, ?_⟩
      rw [← we]
      unfold worthB
      rw [if_pos z1, z2]
    by_cases q2 : worthB (σ 102) P = t
    · refine Or.inr ⟨bF σ n, σ, n, ?_, FnF.refl, T, Nat.le_refl _, rfl, fun _ _ => rfl, worthB (σ 102) P, fun u Q => ?_⟩
      · unfold fit1
        rw [if_neg hb, we, if_pos q2]
      · rw [x101_27]
        by_cases q3 : 2000 ≤ P
        · have q4 : ¬ worthB (σ 102) P = -1 := fun z => q1 ⟨q3, z⟩
          simp (disch := first | assumption | omega | exact notL_I | exact notL_N | exact notL_R | exact catS_le (Nat.le_of_ble_eq_true rfl) | exact ooRo (by assumption) | exact ooAt (by assumption) | exact ooRu (by assumption) | exact ooLo (by assumption) | exact ooHa (by assumption) | exact ooLe (by assumption) | exact ooFn | exact ooAn | exact ooPa | exact ooTo | exact ooWa | exact ooCh | rfl) only [x101_0, x101_1, x101_4, x101_5, x101_6, x101_7, x101_10, x101_12, x101_13, x101_16, x101_17, x101_18, x101_19, x101_22, x101_24, x101_25, x101_29, x101_30, x101_33, x101_34, x101_37, x101_38, x101_39, x101_40, x101_42, x101_43, x101_44, x101_46, x101_47, x101_50, x101_52, x101_53, x101_54, x101_56, x101_57, x101_58, x101_60, x101_61, x101_63, x101_66, x101_68, x101_70, x101_73, x101_76, x101_78, x101_79, x101_82, x101_83, x101_85, x101_88, x101_89, x101_91, x101_94, x101_97, x101_99, x101_101, x101_104, x101_105, x101_107, x101_110, x101_111, x101_112, x101_115, x101_118, x101_119, gAt_place, RAt_place, gRo_term, RRo_term, hP, ht, s_termOf, Kc_some, if_pos, if_neg, ↓reduceIte, not_true_eq_false, not_false_eq_true]
        · simp (disch := first | assumption | omega | exact notL_I | exact notL_N | exact notL_R | exact catS_le (Nat.le_of_ble_eq_true rfl) | exact ooRo (by assumption) | exact ooAt (by assumption) | exact ooRu (by assumption) | exact ooLo (by assumption) | exact ooHa (by assumption) | exact ooLe (by assumption) | exact ooFn | exact ooAn | exact ooPa | exact ooTo | exact ooWa | exact ooCh | rfl) only [x101_0, x101_1, x101_4, x101_5, x101_6, x101_7, x101_10, x101_12, x101_13, x101_16, x101_17, x101_18, x101_19, x101_22, x101_24, x101_25, x101_29, x101_30, x101_33, x101_34, x101_37, x101_38, x101_39, x101_40, x101_42, x101_43, x101_44, x101_46, x101_47, x101_50, x101_52, x101_53, x101_54, x101_56, x101_57, x101_58, x101_60, x101_61, x101_63, x101_66, x101_68, x101_70, x101_73, x101_76, x101_78, x101_79, x101_82, x101_83, x101_85, x101_88, x101_89, x101_91, x101_94, x101_97, x101_99, x101_101, x101_104, x101_105, x101_107, x101_110, x101_111, x101_112, x101_115, x101_118, x101_119, gAt_place, RAt_place, gRo_term, RRo_term, hP, ht, s_termOf, Kc_some, if_pos, if_neg, ↓reduceIte, not_true_eq_false, not_false_eq_true]
    · obtain ⟨τ, h1, h2, h3, h4⟩ := s_undo (sc := sc) (d := d - 1) hn T
      refine Or.inl ⟨?_, τ, h1, h2, h3, fun u Q => ?_⟩
      · unfold fit1
        rw [if_neg hb, we, if_neg q2]
      · rw [x101_27]
        by_cases q3 : 2000 ≤ P
        · have q4 : ¬ worthB (σ 102) P = -1 := fun z => q1 ⟨q3, z⟩
          simp (disch := first | assumption | omega | exact notL_I | exact notL_N | exact notL_R | exact catS_le (Nat.le_of_ble_eq_true rfl) | exact ooRo (by assumption) | exact ooAt (by assumption) | exact ooRu (by assumption) | exact ooLo (by assumption) | exact ooHa (by assumption) | exact ooLe (by assumption) | exact ooFn | exact ooAn | exact ooPa | exact ooTo | exact ooWa | exact ooCh | rfl) only [x101_0, x101_1, x101_4, x101_5, x101_6, x101_7, x101_10, x101_12, x101_13, x101_16, x101_17, x101_18, x101_19, x101_22, x101_24, x101_25, x101_29, x101_30, x101_33, x101_34, x101_37, x101_38, x101_39, x101_40, x101_42, x101_43, x101_44, x101_46, x101_47, x101_50, x101_52, x101_53, x101_54, x101_56, x101_57, x101_58, x101_60, x101_61, x101_63, x101_66, x101_68, x101_70, x101_73, x101_76, x101_78, x101_79, x101_82, x101_83, x101_85, x101_88, x101_89, x101_91, x101_94, x101_97, x101_99, x101_101, x101_104, x101_105, x101_107, x101_110, x101_111, x101_112, x101_115, x101_118, x101_119, gAt_place, RAt_place, gRo_term, RRo_term, hP, ht, s_termOf, Kc_some, Kc_none, h4 u, if_pos, if_neg, ↓reduceIte, not_true_eq_false, not_false_eq_true]
        · simp (disch := first | assumption | omega | exact notL_I | exact notL_N | exact notL_R | exact catS_le (Nat.le_of_ble_eq_true rfl) | exact ooRo (by assumption) | exact ooAt (by assumption) | exact ooRu (by assumption) | exact ooLo (by assumption) | exact ooHa (by assumption) | exact ooLe (by assumption) | exact ooFn | exact ooAn | exact ooPa | exact ooTo | exact ooWa | exact ooCh | rfl) only [x101_0, x101_1, x101_4, x101_5, x101_6, x101_7, x101_10, x101_12, x101_13, x101_16, x101_17, x101_18, x101_19, x101_22, x101_24, x101_25, x101_29, x101_30, x101_33, x101_34, x101_37, x101_38, x101_39, x101_40, x101_42, x101_43, x101_44, x101_46, x101_47, x101_50, x101_52, x101_53, x101_54, x101_56, x101_57, x101_58, x101_60, x101_61, x101_63, x101_66, x101_68, x101_70, x101_73, x101_76, x101_78, x101_79, x101_82, x101_83, x101_85, x101_88, x101_89, x101_91, x101_94, x101_97, x101_99, x101_101, x101_104, x101_105, x101_107, x101_110, x101_111, x101_112, x101_115, x101_118, x101_119, gAt_place, RAt_place, gRo_term, RRo_term, hP, ht, s_termOf, Kc_some, Kc_none, h4 u, if_pos, if_neg, ↓reduceIte, not_true_eq_false, not_false_eq_true]
end F1
