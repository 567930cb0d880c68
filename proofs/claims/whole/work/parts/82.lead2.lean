/-! leads of the class: rows fit rows, the next of a table -/
def nxF (t wo : Int) : List Rw → Int → Int
  | [], _ => -1
  | w :: l, p => if p ≠ wo ∧ w.2.1 = t then p else nxF t wo l (p + 1)
section L2
variable {sc : Scr} {e : Nat}
theorem FlF.ro {σ τ : St} {r : Nat} (F : FlF e σ τ) (hf : r + 4 < e ∨ e + 4 < r) : ∀ c, r ≤ c → c ≤ r + 4 → τ c = σ c := fun c c0 c1 => F.1 c (by omega) (by omega) (by omega)
theorem l_fitL {d n0 n r1 r2 : Nat} {σ : St} {p q c s t : Int} (o : oLe e) (o1 : oRo r1) (o2 : oRo r2) (hd : 2 ≤ d) (W1 : WfRo σ r1) (W2 : WfRo σ r2) (p0 : 0 ≤ p) (p1 : p < σ r1 0) (q0 : 0 ≤ q) (q1 : q < σ r2 0) (c0 : 0 ≤ c) (c1 : c ≤ 2) (hs : σ (r1 + 3) (p * 3 + c) = s) (ht : σ (r2 + 3) (q * 3 + c) = t) (hst : 1000 ≤ s → t ≠ -1) (T : TrL e σ n) (hn : n0 ≤ n) :
    (lie1 (bL e σ n) s t = none ∧ ∃ τ, FlF e σ τ ∧ TrL e τ n0 ∧ (∀ k, k ≤ n0 → bL e τ k = bL e σ k) ∧ ∀ (u : Bool × Nat × Nat × Int) (Q : Rs → HS → Prop), Ex sc d 140 9 [some (vR e), some (vR r1), some (vI p), some (vR r2), some (vI q), some (vI ((n0 : Int))), some (vI c)] [] (wH σ u) Q ↔ Q (.inl (some (vI (0)))) (wH τ u)) ∨
    (∃ β τ n', lie1 (bL e σ n) s t = some β ∧ FlF e σ τ ∧ TrL e τ n' ∧ n ≤ n' ∧ bL e τ n' = β ∧ (∀ k, k ≤ n → bL e τ k = bL e σ k) ∧ ∀ (u : Bool × Nat × Nat × Int) (Q : Rs → HS → Prop), Ex sc d 140 9 [some (vR e), some (vR r1), some (vI p), some (vR r2), some (vI q), some (vI ((n0 : Int))), some (vI c)] [] (wH σ u) Q ↔ Ex sc d 140 9 [some (vR e), some (vR r1), some (vI p), some (vR r2), some (vI q), some (vI ((n0 : Int))), some (vI (c + 1))] [] (wH τ u) Q) := by
  have w1 := W1.1
  have w2 := W2.1
  have rs := W1.2.2.2.1 (p * 3 + c) (by omega) (by omega)
  have rt := W2.2.2.2.1 (q * 3 + c) (by omega) (by omega)
  rw [hs] at rs
  rw [ht] at rt
  have t1 := fun u Q => s_termAt (sc := sc) (σ := σ) (u := u) (Q := Q) (d := d - 1) (r := r1) (p := p) (c := c) o1 ⟨by omega, by omega⟩ ⟨by omega, by omega⟩ W1
  have t2 := fun u Q => s_termAt (sc := sc) (σ := σ) (u := u) (Q := Q) (d := d - 1) (r := r2) (p := q) (c := c) o2 ⟨by omega, by omega⟩ ⟨by omega, by omega⟩ W2
  have c1' : 0 ≤ p ∧ p < σ r1 0 ∧ 0 ≤ c ∧ c < 3 := by omega
  have c2' : 0 ≤ q ∧ q < σ r2 0 ∧ 0 ≤ c ∧ c < 3 := by omega
  simp only [if_pos c1', hs] at t1
  simp only [if_pos c2', ht] at t2
  rcases s_agrees (sc := sc) (d := d - 1) (s := s) (t := t) o (by omega) T rs.1 rs.2 rt.1 rt.2 hst with ⟨e0, r0⟩ | ⟨β, τ, n', e0, F, T', le, b, K, r0⟩
  · obtain ⟨τ, F, T', K, ru⟩ := s_undoL (sc := sc) (d := d - 1) o hn T
    refine Or.inl ⟨e0, τ, F, T', K, fun u Q => ?_⟩
    rw [x140_9]
    simp (disch := first | assumption | omega | exact notL_I | exact notL_N | exact notL_R | exact catS_le (Nat.le_of_ble_eq_true rfl) | exact Nat.le_of_ble_eq_true rfl | exact ooRo (by assumption) | exact ooAt (by assumption) | exact ooRu (by assumption) | exact ooLo (by assumption) | exact ooHa (by assumption) | exact ooLe (by assumption) | exact ooFn | exact ooAn | exact ooPa | exact ooTo | exact ooWa | exact ooCh | rfl) only [x140_0, x140_1, x140_4, x140_6, x140_7, x140_11, x140_12, x140_15, x140_16, x140_17, x140_18, x140_20, x140_23, x140_24, x140_26, x140_28, x140_31, x140_34, x140_37, x140_38, x140_40, x140_43, x140_44, x140_45, x140_48, x140_51, x140_52, t1, t2, r0 u, ru u, Kc_some, Kc_none, if_pos, if_neg, ↓reduceIte, not_true_eq_false, not_false_eq_true]
  · refine Or.inr ⟨β, τ, n', e0, F, T', le, b, K, fun u Q => ?_⟩
    rw [x140_9]
    simp (disch := first | assumption | omega | exact notL_I | exact notL_N | exact notL_R | exact catS_le (Nat.le_of_ble_eq_true rfl) | exact Nat.le_of_ble_eq_true rfl | exact ooRo (by assumption) | exact ooAt (by assumption) | exact ooRu (by assumption) | exact ooLo (by assumption) | exact ooHa (by assumption) | exact ooLe (by assumption) | exact ooFn | exact ooAn | exact ooPa | exact ooTo | exact ooWa | exact ooCh | rfl) only [x140_0, x140_1, x140_4, x140_6, x140_7, x140_11, x140_12, x140_15, x140_16, x140_17, x140_18, x140_20, x140_23, x140_24, x140_26, x140_28, x140_31, x140_34, x140_37, x140_38, x140_40, x140_43, x140_44, x140_45, x140_48, x140_51, x140_52, t1, t2, r0 u, Kc_some, if_pos, if_neg, ↓reduceIte, not_true_eq_false, not_false_eq_true]
theorem s_fitsL {d n r1 r2 : Nat} {σ : St} {p q : Int} (o : oLe e) (o1 : oRo r1) (o2 : oRo r2) (f1 : r1 + 4 < e ∨ e + 4 < r1) (f2 : r2 + 4 < e ∨ e + 4 < r2) (hd : 2 ≤ d) (W1 : WfRo σ r1) (W2 : WfRo σ r2) (p0 : 0 ≤ p) (p1 : p < σ r1 0) (q0 : 0 ≤ q) (q1 : q < σ r2 0) (hT : (1000 ≤ (rwC σ r1 p).2.2.1 → (rwC σ r2 q).2.2.1 ≠ -1) ∧ (1000 ≤ (rwC σ r1 p).2.2.2.1 → (rwC σ r2 q).2.2.2.1 ≠ -1) ∧ (1000 ≤ (rwC σ r1 p).2.2.2.2 → (rwC σ r2 q).2.2.2.2 ≠ -1)) (T : TrL e σ n) :
    ∃ τ n', FlF e σ τ ∧ TrL e τ n' ∧ n ≤ n' ∧ (∀ k, k ≤ n → bL e τ k = bL e σ k) ∧ ((∃ β, lieW (bL e σ n) (rwC σ r1 p) (rwC σ r2 q) = some β ∧ bL e τ n' = β ∧ RnA sc d 140 0 [some (vR e), some (vR r1), some (vI p), some (vR r2), some (vI q), none, none] σ (some (vI 1)) τ) ∨ (lieW (bL e σ n) (rwC σ r1 p) (rwC σ r2 q) = none ∧ n' = n ∧ RnA sc d 140 0 [some (vR e), some (vR r1), some (vI p), some (vR r2), some (vI q), none, none] σ (some (vI 0)) τ)) := by
  have tl := T.2.1.le100
  have en : ∀ (u : Bool × Nat × Nat × Int) (Q : Rs → HS → Prop), Ex sc d 140 0 [some (vR e), some (vR r1), some (vI p), some (vR r2), some (vI q), none, none] [] (wH σ u) Q ↔ Ex sc d 140 9 [some (vR e), some (vR r1), some (vI p), some (vR r2), some (vI q), some (vI ((n : Int))), some (vI 0)] [] (wH σ u) Q := by
    intro u Q
    simp (disch := first | assumption | omega | exact notL_I | exact notL_N | exact notL_R | exact catS_le (Nat.le_of_ble_eq_true rfl) | exact Nat.le_of_ble_eq_true rfl | exact ooRo (by assumption) | exact ooAt (by assumption) | exact ooRu (by assumption) | exact ooLo (by assumption) | exact ooHa (by assumption) | exact ooLe (by assumption) | exact ooFn | exact ooAn | exact ooPa | exact ooTo | exact ooWa | exact ooCh | rfl) only [x140_0, x140_1, x140_4, x140_6, x140_7, x140_11, x140_12, x140_15, x140_16, x140_17, x140_18, x140_20, x140_23, x140_24, x140_26, x140_28, x140_31, x140_34, x140_37, x140_38, x140_40, x140_43, x140_44, x140_45, x140_48, x140_51, x140_52, gLe_trailSize, T.1]
  have eW : lieW (bL e σ n) (rwC σ r1 p) (rwC σ r2 q) = (lie1 (bL e σ n) (σ (r1 + 3) (p * 3)) (σ (r2 + 3) (q * 3))).bind fun β => (lie1 β (σ (r1 + 3) (p * 3 + 1)) (σ (r2 + 3) (q * 3 + 1))).bind fun β => lie1 β (σ (r1 + 3) (p * 3 + 2)) (σ (r2 + 3) (q * 3 + 2)) := rfl
  rw [eW]
  have h0 : 1000 ≤ σ (r1 + 3) (p * 3) → σ (r2 + 3) (q * 3) ≠ -1 := hT.1
  have h1 : 1000 ≤ σ (r1 + 3) (p * 3 + 1) → σ (r2 + 3) (q * 3 + 1) ≠ -1 := hT.2.1
  have h2 : 1000 ≤ σ (r1 + 3) (p * 3 + 2) → σ (r2 + 3) (q * 3 + 2) ≠ -1 := hT.2.2
  rcases l_fitL (sc := sc) (d := d) (n0 := n) (c := 0) (s := σ (r1 + 3) (p * 3)) (t := σ (r2 + 3) (q * 3)) o o1 o2 hd W1 W2 p0 p1 q0 q1 (by omega) (by omega) (by rw [Int.add_zero]) (by rw [Int.add_zero]) h0 T (Nat.le_refl _) with ⟨e0, τ, g1, g2, g3, g4⟩ | ⟨β0, τ0, n0, e0, F0, T0, le0, b0, K0, y0⟩
  · exact ⟨τ, n, g1, g2, Nat.le_refl _, g3, Or.inr ⟨by rw [e0]; rfl, rfl, fun u Q => (en u Q).trans (g4 u Q)⟩⟩
  · rw [e0, Option.bind_some]
    have R10 := F0.ro f1
    have R20 := F0.ro f2
    rcases l_fitL (sc := sc) (d := d) (σ := τ0) (n0 := n) (p := p) (q := q) (c := 0 + 1) (s := σ (r1 + 3) (p * 3 + 1)) (t := σ (r2 + 3) (q * 3 + 1)) o o1 o2 hd (W1.c R10) (W2.c R20) p0 (by rw [R10 _ (by omega) (by omega)]; exact p1) q0 (by rw [R20 _ (by omega) (by omega)]; exact q1) (by omega) (by omega) (by rw [R10 _ (by omega) (by omega)]; rfl) (by rw [R20 _ (by omega) (by omega)]; rfl) h1 T0 le0 with ⟨e1, τ, g1, g2, g3, g4⟩ | ⟨β1, τ1, n1, e1, F1, T1, le1, b1, K1, y1⟩
    · rw [b0] at e1
      exact ⟨τ, n, F0.trans g1, g2, Nat.le_refl _, fun k hk => (g3 k hk).trans (K0 k hk), Or.inr ⟨by rw [e1]; rfl, rfl, fun u Q => (en u Q).trans ((y0 u Q).trans (g4 u Q))⟩⟩
    · rw [b0] at e1
      rw [e1, Option.bind_some]
      have R11 := (F0.trans F1).ro f1
      have R21 := (F0.trans F1).ro f2
      rcases l_fitL (sc := sc) (d := d) (σ := τ1) (n0 := n) (p := p) (q := q) (c := 0 + 1 + 1) (s := σ (r1 + 3) (p * 3 + 2)) (t := σ (r2 + 3) (q * 3 + 2)) o o1 o2 hd (W1.c R11) (W2.c R21) p0 (by rw [R11 _ (by omega) (by omega)]; exact p1) q0 (by rw [R21 _ (by omega) (by omega)]; exact q1) (by omega) (by omega) (by rw [R11 _ (by omega) (by omega)]; rfl) (by rw [R21 _ (by omega) (by omega)]; rfl) h2 T1 (by omega) with ⟨e2, τ, g1, g2, g3, g4⟩ | ⟨β2, τ2, n2, e2, F2, T2, le2, b2, K2, y2⟩
      · rw [b1] at e2
        exact ⟨τ, n, (F0.trans F1).trans g1, g2, Nat.le_refl _, fun k hk => (g3 k hk).trans ((K1 k (by omega)).trans (K0 k hk)), Or.inr ⟨e2, rfl, fun u Q => (en u Q).trans ((y0 u Q).trans ((y1 u Q).trans (g4 u Q)))⟩⟩
      · rw [b1] at e2
        refine ⟨τ2, n2, (F0.trans F1).trans F2, T2, by omega, fun k hk => (K2 k (by omega)).trans ((K1 k (by omega)).trans (K0 k hk)), Or.inl ⟨β2, e2, b2, fun u Q => (en u Q).trans ((y0 u Q).trans ((y1 u Q).trans ((y2 u Q).trans ?_)))⟩⟩
        rw [x140_9]
        simp (disch := first | assumption | omega | exact notL_I | exact notL_N | exact notL_R | exact catS_le (Nat.le_of_ble_eq_true rfl) | exact Nat.le_of_ble_eq_true rfl | exact ooRo (by assumption) | exact ooAt (by assumption) | exact ooRu (by assumption) | exact ooLo (by assumption) | exact ooHa (by assumption) | exact ooLe (by assumption) | exact ooFn | exact ooAn | exact ooPa | exact ooTo | exact ooWa | exact ooCh | rfl) only [x140_0, x140_1, x140_4, x140_6, x140_7, x140_11, x140_12, x140_15, x140_16, x140_17, x140_18, x140_20, x140_23, x140_24, x140_26, x140_28, x140_31, x140_34, x140_37, x140_38, x140_40, x140_43, x140_44, x140_45, x140_48, x140_51, x140_52, if_pos, if_neg, ↓reduceIte, not_true_eq_false, not_false_eq_true]
theorem l_nextT {d b1 b2 : Nat} {σ : St} {x t wo : Int} {u : Bool × Nat × Nat × Int} {Q : Rs → HS → Prop} (o2 : oHa b2) (W : WfRo σ (b2 + 3)) (ht : inR t) (hw : inR wo) {l3 : Option V} : ∀ (k : Nat) (p : Int), 0 ≤ p → p + k = σ (b2 + 3) 0 → (Ex sc d 139 31 [some (vR b1), some (vI x), some (vR b2), l3, some (vI wo), some (vI t), some (vI p)] [] (wH σ u) Q ↔ Q (.inl (some (vI (nxF t wo (rcF σ (b2 + 3) k p) p)))) (wH σ u)) := by
  obtain ⟨t1, t2⟩ := ht
  obtain ⟨v1, v2⟩ := hw
  have or := o2.rows
  have w := W.1
  intro k
  induction k with
  | zero =>
    intro p p0 pk
    rw [x139_31]
    simp (disch := first | assumption | omega | exact notL_I | exact notL_N | exact notL_R | exact catS_le (Nat.le_of_ble_eq_true rfl) | exact Nat.le_of_ble_eq_true rfl | exact ooRo (by assumption) | exact ooAt (by assumption) | exact ooRu (by assumption) | exact ooLo (by assumption) | exact ooHa (by assumption) | exact ooLe (by assumption) | exact ooFn | exact ooAn | exact ooPa | exact ooTo | exact ooWa | exact ooCh | rfl) only [x139_0, x139_1, x139_4, x139_7, x139_8, x139_9, x139_11, x139_12, x139_14, x139_17, x139_18, x139_20, x139_23, x139_26, x139_27, x139_28, x139_29, x139_33, x139_34, x139_37, x139_40, x139_43, x139_45, x139_47, x139_50, x139_51, x139_54, x139_57, x139_59, x139_60, x139_62, x139_65, x139_67, x139_68, x139_71, x139_74, x139_75, gHa_rows, gRo_count, if_pos, if_neg, ↓reduceIte, not_true_eq_false, not_false_eq_true]
    rfl
  | succ k ih =>
    intro p p0 pk
    have wt := (W.2.2.1 p p0 (by omega)).2
    have i1 := ih (p + 1) (by omega) (by omega)
    have et : (rwC σ (b2 + 3) p).2.1 = σ (b2 + 3 + 2) p := rfl
    rw [x139_31, rcF, nxF, et]
    by_cases h1 : p = wo
    · rw [if_neg (fun z => z.1 h1)]
      simp (disch := first | assumption | omega | exact notL_I | exact notL_N | exact notL_R | exact catS_le (Nat.le_of_ble_eq_true rfl) | exact Nat.le_of_ble_eq_true rfl | exact ooRo (by assumption) | exact ooAt (by assumption) | exact ooRu (by assumption) | exact ooLo (by assumption) | exact ooHa (by assumption) | exact ooLe (by assumption) | exact ooFn | exact ooAn | exact ooPa | exact ooTo | exact ooWa | exact ooCh | rfl) only [x139_0, x139_1, x139_4, x139_7, x139_8, x139_9, x139_11, x139_12, x139_14, x139_17, x139_18, x139_20, x139_23, x139_26, x139_27, x139_28, x139_29, x139_33, x139_34, x139_37, x139_40, x139_43, x139_45, x139_47, x139_50, x139_51, x139_54, x139_57, x139_59, x139_60, x139_62, x139_65, x139_67, x139_68, x139_71, x139_74, x139_75, gHa_rows, gRo_count, if_pos, if_neg, ↓reduceIte, not_true_eq_false, not_false_eq_true]
      exact i1
    · by_cases h2 : σ (b2 + 3 + 2) p = t
      · rw [if_pos ⟨h1, h2⟩]
        simp (disch := first | assumption | omega | exact notL_I | exact notL_N | exact notL_R | exact catS_le (Nat.le_of_ble_eq_true rfl) | exact Nat.le_of_ble_eq_true rfl | exact ooRo (by assumption) | exact ooAt (by assumption) | exact ooRu (by assumption) | exact ooLo (by assumption) | exact ooHa (by assumption) | exact ooLe (by assumption) | exact ooFn | exact ooAn | exact ooPa | exact ooTo | exact ooWa | exact ooCh | rfl) only [x139_0, x139_1, x139_4, x139_7, x139_8, x139_9, x139_11, x139_12, x139_14, x139_17, x139_18, x139_20, x139_23, x139_26, x139_27, x139_28, x139_29, x139_33, x139_34, x139_37, x139_40, x139_43, x139_45, x139_47, x139_50, x139_51, x139_54, x139_57, x139_59, x139_60, x139_62, x139_65, x139_67, x139_68, x139_71, x139_74, x139_75, gHa_rows, gRo_count, gRo_table, RRo_table, if_pos, if_neg, ↓reduceIte, not_true_eq_false, not_false_eq_true]
      · rw [if_neg (fun z => h2 z.2)]
        simp (disch := first | assumption | omega | exact notL_I | exact notL_N | exact notL_R | exact catS_le (Nat.le_of_ble_eq_true rfl) | exact Nat.le_of_ble_eq_true rfl | exact ooRo (by assumption) | exact ooAt (by assumption) | exact ooRu (by assumption) | exact ooLo (by assumption) | exact ooHa (by assumption) | exact ooLe (by assumption) | exact ooFn | exact ooAn | exact ooPa | exact ooTo | exact ooWa | exact ooCh | rfl) only [x139_0, x139_1, x139_4, x139_7, x139_8, x139_9, x139_11, x139_12, x139_14, x139_17, x139_18, x139_20, x139_23, x139_26, x139_27, x139_28, x139_29, x139_33, x139_34, x139_37, x139_40, x139_43, x139_45, x139_47, x139_50, x139_51, x139_54, x139_57, x139_59, x139_60, x139_62, x139_65, x139_67, x139_68, x139_71, x139_74, x139_75, gHa_rows, gRo_count, gRo_table, RRo_table, if_pos, if_neg, ↓reduceIte, not_true_eq_false, not_false_eq_true]
        exact i1
theorem s_nextT {d b1 b2 : Nat} {σ : St} {x f wo : Int} {u : Bool × Nat × Nat × Int} {Q : Rs → HS → Prop} (o1 : oHa b1) (o2 : oHa b2) (hd : 1 ≤ d) (W1 : WfHa σ b1) (W2 : WfHa σ b2) (x0 : 0 ≤ x) (x1 : x ≤ 39) (f0 : 0 ≤ f) (f1 : f ≤ σ (b2 + 3) 0) (hw : inR wo) : Ex sc d 139 0 [some (vR b1), some (vI x), some (vR b2), some (vI f), some (vI wo), none, none] [] (wH σ u) Q ↔ Q (.inl (some (vI (if coC σ b2 (σ (b1 + 3 + 2) x) = coC σ b1 (σ (b1 + 3 + 2) x) then nxF (σ (b1 + 3 + 2) x) wo (rcF σ (b2 + 3) (σ (b2 + 3) 0 - f).toNat f) f else -1)))) (wH σ u) := by
  have or := o1.rows
  have w2 := W2.2.2.2.1.1
  have wt := (W1.2.2.2.1.2.2.1 x x0 (by omega)).2
  have c1 := W1.2.2.1 (σ (b1 + 3 + 2) x) wt.1 (by omega)
  have c2 := W2.2.2.1 (σ (b1 + 3 + 2) x) wt.1 (by omega)
  have e1 : coC σ b1 (σ (b1 + 3 + 2) x) = σ (b1 + 1) (σ (b1 + 3 + 2) x) := by unfold coC; rw [if_pos (by omega)]
  have e2 : coC σ b2 (σ (b1 + 3 + 2) x) = σ (b2 + 1) (σ (b1 + 3 + 2) x) := by unfold coC; rw [if_pos (by omega)]
  have k1 := fun u Q => s_colsC (sc := sc) (σ := σ) (u := u) (Q := Q) (d := d - 1) (b := b1) (t := σ (b1 + 3 + 2) x) o1 ⟨by omega, by omega⟩
  have k2 := fun u Q => s_colsC (sc := sc) (σ := σ) (u := u) (Q := Q) (d := d - 1) (b := b2) (t := σ (b1 + 3 + 2) x) o2 ⟨by omega, by omega⟩
  rw [e1] at k1
  rw [e2] at k2
  rw [e1, e2]
  by_cases hc : σ (b2 + 1) (σ (b1 + 3 + 2) x) = σ (b1 + 1) (σ (b1 + 3 + 2) x)
  · rw [if_pos hc]
    have ln := l_nextT (sc := sc) (σ := σ) (u := u) (Q := Q) (d := d) (b1 := b1) (b2 := b2) (x := x) (t := σ (b1 + 3 + 2) x) (wo := wo) (l3 := some (vI f)) o2 W2.2.2.2.1 ⟨by omega, by omega⟩ hw (σ (b2 + 3) 0 - f).toNat f f0 (by omega)
    refine Iff.trans ?_ ln
    simp (disch := first | assumption | omega | exact notL_I | exact notL_N | exact notL_R | exact catS_le (Nat.le_of_ble_eq_true rfl) | exact Nat.le_of_ble_eq_true rfl | exact ooRo (by assumption) | exact ooAt (by assumption) | exact ooRu (by assumption) | exact ooLo (by assumption) | exact ooHa (by assumption) | exact ooLe (by assumption) | exact ooFn | exact ooAn | exact ooPa | exact ooTo | exact ooWa | exact ooCh | rfl) only [x139_0, x139_1, x139_4, x139_7, x139_8, x139_9, x139_11, x139_12, x139_14, x139_17, x139_18, x139_20, x139_23, x139_26, x139_27, x139_28, x139_29, x139_33, x139_34, x139_37, x139_40, x139_43, x139_45, x139_47, x139_50, x139_51, x139_54, x139_57, x139_59, x139_60, x139_62, x139_65, x139_67, x139_68, x139_71, x139_74, x139_75, gHa_rows, gRo_table, RRo_table, k1, k2, Kc_some, if_pos, if_neg, ↓reduceIte, not_true_eq_false, not_false_eq_true]
  · rw [if_neg hc]
    simp (disch := first | assumption | omega | exact notL_I | exact notL_N | exact notL_R | exact catS_le (Nat.le_of_ble_eq_true rfl) | exact Nat.le_of_ble_eq_true rfl | exact ooRo (by assumption) | exact ooAt (by assumption) | exact ooRu (by assumption) | exact ooLo (by assumption) | exact ooHa (by assumption) | exact ooLe (by assumption) | exact ooFn | exact ooAn | exact ooPa | exact ooTo | exact ooWa | exact ooCh | rfl) only [x139_0, x139_1, x139_4, x139_7, x139_8, x139_9, x139_11, x139_12, x139_14, x139_17, x139_18, x139_20, x139_23, x139_26, x139_27, x139_28, x139_29, x139_33, x139_34, x139_37, x139_40, x139_43, x139_45, x139_47, x139_50, x139_51, x139_54, x139_57, x139_59, x139_60, x139_62, x139_65, x139_67, x139_68, x139_71, x139_74, x139_75, gHa_rows, gRo_table, RRo_table, k1, k2, Kc_some, if_pos, if_neg, ↓reduceIte, not_true_eq_false, not_false_eq_true]
end L2
