/-! the first hit that is not fulfilled: the class's finder -/
theorem su_self {σ : St} {a : Nat} {i : Int} : su σ a i (σ a i) = σ := by
  apply st_ext (a := a)
  · intro c hc; exact su_ne hc
  · intro j
    rw [su_at]
    split
    · rename_i h; rw [h]
    · rfl
theorem su_su {σ : St} {a : Nat} {i x y : Int} : su (su σ a i x) a i y = su σ a i y := by
  apply st_ext (a := a)
  · intro c hc; rw [su_ne hc, su_ne hc, su_ne hc]
  · intro j
    rw [su_at, su_at, su_at]
    split
    · rfl
    · rfl
def mxF (f : Int → Int) : Nat → Int → Int → Int
  | 0, _, g => g
  | k + 1, i, g => mxF f k (i + 1) (if g < f i then f i else g)
def dpF (f : Int → Int) (lim : Int) : Nat → Int → Int
  | 0, dep => dep
  | k + 1, dep => dpF f lim k (if lim ≤ f k then (k : Int) else dep)
theorem mx_ge {f : Int → Int} : ∀ (k : Nat) (i g : Int), g ≤ mxF f k i g ∧ (∀ j, i ≤ j → j < i + k → f j ≤ mxF f k i g) ∧ (mxF f k i g = g ∨ ∃ j, i ≤ j ∧ j < i + k ∧ mxF f k i g = f j) := by
  intro k
  induction k with
  | zero => intro i g; exact ⟨Int.le_refl _, fun j a b => by omega, Or.inl rfl⟩
  | succ k ih =>
    intro i g
    obtain ⟨a, b, c⟩ := ih (i + 1) (if g < f i then f i else g)
    rw [mxF]
    have hg : g ≤ (if g < f i then f i else g) ∧ f i ≤ (if g < f i then f i else g) ∧ ((if g < f i then f i else g) = g ∨ (if g < f i then f i else g) = f i) := by split <;> omega
    refine ⟨by omega, fun j j0 j1 => ?_, ?_⟩
    · by_cases hj : j = i
      · subst hj; omega
      · exact b j (by omega) (by omega)
    · rcases c with c | ⟨j, c1, c2, c3⟩
      · rcases hg.2.2 with q | q
        · exact Or.inl (c.trans q)
        · exact Or.inr ⟨i, by omega, by omega, c.trans q⟩
      · exact Or.inr ⟨j, by omega, by omega, c3⟩
theorem dp_no {f : Int → Int} {lim : Int} : ∀ (k : Nat) (dep : Int), (∀ j : Int, 0 ≤ j → j < k → f j < lim) → dpF f lim k dep = dep := by
  intro k
  induction k with
  | zero => intro dep _; rfl
  | succ k ih =>
    intro dep h
    have := h k (by omega) (by omega)
    rw [dpF, if_neg (by omega), ih dep (fun j a b => h j a (by omega))]
theorem dp_yes {f : Int → Int} {lim : Int} : ∀ (k : Nat) (dep : Int), (∃ j : Int, 0 ≤ j ∧ j < k ∧ lim ≤ f j) → 0 ≤ dpF f lim k dep ∧ dpF f lim k dep < k ∧ lim ≤ f (dpF f lim k dep) ∧ ∀ j : Int, 0 ≤ j → j < dpF f lim k dep → f j < lim := by
  intro k
  induction k with
  | zero => rintro dep ⟨j, a, b, _⟩; omega
  | succ k ih =>
    rintro dep ⟨j, a, b, c⟩
    rw [dpF]
    by_cases h : ∃ j : Int, 0 ≤ j ∧ j < k ∧ lim ≤ f j
    · obtain ⟨q1, q2, q3, q4⟩ := ih (if lim ≤ f k then (k : Int) else dep) h
      exact ⟨q1, by omega, q3, q4⟩
    · have hn : ∀ j : Int, 0 ≤ j → j < k → f j < lim := fun j a b => by
        by_cases q : f j < lim
        · exact q
        · exact absurd ⟨j, a, b, by omega⟩ h
      have hj : j = k := by
        by_cases q : j < k
        · have := hn j a q; omega
        · omega
      subst hj
      rw [if_pos c, dp_no k _ hn]
      exact ⟨by omega, by omega, c, hn⟩
/-- a hit kept -/
def kpS (σ : St) (m : Int) : St := su (su (scp σ 104 0 106 0 m) 101 7 (mxF (σ 104) m.toNat 0 0)) 101 6 (dpF (σ 104) (mxF (σ 104) m.toNat 0 0) m.toNat (σ 101 6))
section F5
variable {sc : Scr}
theorem l_keep1 {d : Nat} {σ : St} {m : Int} {u : Bool × Nat × Nat × Int} {Q : Rs → HS → Prop} (m0 : 0 ≤ m) (m1 : m ≤ 3) (hc : ∀ j, 0 ≤ j → j < m → 0 ≤ σ 104 j ∧ σ 104 j ≤ 40) : ∀ (k : Nat) (i g : Int), 0 ≤ i → i + k = m → 0 ≤ g → g ≤ 40 → (Ex sc d 106 4 [some (vR 101), some (vI m), some (vI g), some (vI i)] [] (wH (scp σ 104 0 106 0 i) u) Q ↔ Ex sc d 106 38 [some (vR 101), some (vI m), some (vI (mxF (σ 104) k i g)), some (vI m)] [] (wH (scp σ 104 0 106 0 m) u) Q) := by
  intro k
  induction k with
  | zero =>
    intro i g i0 ik g0 g1
    obtain rfl : i = m := by omega
    rw [x106_4, mxF]
    simp (disch := first | assumption | omega | exact notL_I | exact notL_N | exact notL_R | exact catS_le (Nat.le_of_ble_eq_true rfl) | exact ooRo (by assumption) | exact ooAt (by assumption) | exact ooRu (by assumption) | exact ooLo (by assumption) | exact ooHa (by assumption) | exact ooLe (by assumption) | exact ooFn | exact ooAn | exact ooPa | exact ooTo | exact ooWa | exact ooCh | rfl) only [x106_0, x106_1, x106_2, x106_3, x106_5, x106_6, x106_9, x106_10, x106_13, x106_14, x106_15, x106_18, x106_19, x106_20, x106_21, x106_22, x106_23, x106_26, x106_27, x106_28, x106_31, x106_32, x106_35, x106_39, x106_40, x106_43, x106_44, x106_45, x106_46, x106_47, x106_48, x106_51, x106_52, x106_55, x106_56, x106_57, x106_58, x106_61, x106_64, x106_65, x106_66, x106_69, x106_72, x106_75, if_pos, if_neg, ↓reduceIte, not_true_eq_false, not_false_eq_true]
  | succ k ih =>
    intro i g i0 ik g0 g1
    have w := hc i i0 (by omega)
    have i1 := ih (i + 1) (if g < σ 104 i then σ 104 i else g) (by omega) (by omega) (by split <;> omega) (by split <;> omega)
    rw [x106_4, mxF]
    simp (disch := first | assumption | omega | exact notL_I | exact notL_N | exact notL_R | exact catS_le (Nat.le_of_ble_eq_true rfl) | exact ooRo (by assumption) | exact ooAt (by assumption) | exact ooRu (by assumption) | exact ooLo (by assumption) | exact ooHa (by assumption) | exact ooLe (by assumption) | exact ooFn | exact ooAn | exact ooPa | exact ooTo | exact ooWa | exact ooCh | rfl) only [x106_0, x106_1, x106_2, x106_3, x106_5, x106_6, x106_9, x106_10, x106_13, x106_14, x106_15, x106_18, x106_19, x106_20, x106_21, x106_22, x106_23, x106_26, x106_27, x106_28, x106_31, x106_32, x106_35, x106_39, x106_40, x106_43, x106_44, x106_45, x106_46, x106_47, x106_48, x106_51, x106_52, x106_55, x106_56, x106_57, x106_58, x106_61, x106_64, x106_65, x106_66, x106_69, x106_72, x106_75, gFn_open, gFn_chosen, RFn_chosen, WFn_open, scp_ne, su_ne, if_pos, if_neg, ↓reduceIte, not_true_eq_false, not_false_eq_true]
    rw [scp_su i0 (by rw [Int.zero_add]) (by rw [Int.zero_add])]
    exact i1
theorem l_keep2 {d : Nat} {σ : St} {m g : Int} {u : Bool × Nat × Nat × Int} {Q : Rs → HS → Prop} (m1 : m ≤ 3) (hl : 0 ≤ σ 101 7 ∧ σ 101 7 ≤ 40) (hc : ∀ j, 0 ≤ j → j < m → 0 ≤ σ 104 j ∧ σ 104 j ≤ 40) : ∀ (k : Nat) (dep : Int), (k : Int) ≤ m → (Ex sc d 106 47 [some (vR 101), some (vI m), some (vI g), some (vI ((k : Int) - 1))] [] (wH (su σ 101 6 dep) u) Q ↔ Q (.inl none) (wH (su σ 101 6 (dpF (σ 104) (σ 101 7) k dep)) u)) := by
  intro k
  induction k with
  | zero =>
    intro dep km
    rw [x106_47, dpF]
    simp (disch := first | assumption | omega | exact notL_I | exact notL_N | exact notL_R | exact catS_le (Nat.le_of_ble_eq_true rfl) | exact ooRo (by assumption) | exact ooAt (by assumption) | exact ooRu (by assumption) | exact ooLo (by assumption) | exact ooHa (by assumption) | exact ooLe (by assumption) | exact ooFn | exact ooAn | exact ooPa | exact ooTo | exact ooWa | exact ooCh | rfl) only [x106_0, x106_1, x106_2, x106_3, x106_4, x106_5, x106_6, x106_9, x106_10, x106_13, x106_14, x106_15, x106_18, x106_19, x106_20, x106_21, x106_22, x106_23, x106_26, x106_27, x106_28, x106_31, x106_32, x106_35, x106_38, x106_39, x106_40, x106_43, x106_44, x106_45, x106_46, x106_48, x106_51, x106_52, x106_55, x106_56, x106_57, x106_58, x106_61, x106_64, x106_65, x106_66, x106_69, x106_72, x106_75, if_pos, if_neg, ↓reduceIte, not_true_eq_false, not_false_eq_true]
  | succ k ih =>
    intro dep km
    have w := hc k (by omega) (by omega)
    have ek : ((k + 1 : Nat) : Int) - 1 = (k : Int) := by omega
    have e7 : su σ 101 6 dep 101 7 = σ 101 7 := su_off (by omega)
    have ea : (k : Int) + -1 = (k : Int) - 1 := by omega
    rw [ek, x106_47, dpF]
    by_cases h : σ 101 7 ≤ σ 104 k
    · have i1 := ih (k : Int) (by omega)
      rw [if_pos h]
      simp (disch := first | assumption | omega | exact notL_I | exact notL_N | exact notL_R | exact catS_le (Nat.le_of_ble_eq_true rfl) | exact ooRo (by assumption) | exact ooAt (by assumption) | exact ooRu (by assumption) | exact ooLo (by assumption) | exact ooHa (by assumption) | exact ooLe (by assumption) | exact ooFn | exact ooAn | exact ooPa | exact ooTo | exact ooWa | exact ooCh | rfl) only [x106_0, x106_1, x106_2, x106_3, x106_4, x106_5, x106_6, x106_9, x106_10, x106_13, x106_14, x106_15, x106_18, x106_19, x106_20, x106_21, x106_22, x106_23, x106_26, x106_27, x106_28, x106_31, x106_32, x106_35, x106_38, x106_39, x106_40, x106_43, x106_44, x106_45, x106_46, x106_48, x106_51, x106_52, x106_55, x106_56, x106_57, x106_58, x106_61, x106_64, x106_65, x106_66, x106_69, x106_72, x106_75, gFn_chosen, gFn_limit, RFn_chosen, pFn_depth, e7, su_ne, su_su, ea, if_pos, if_neg, ↓reduceIte, not_true_eq_false, not_false_eq_true]
      exact i1
    · have i1 := ih dep (by omega)
      rw [if_neg h]
      simp (disch := first | assumption | omega | exact notL_I | exact notL_N | exact notL_R | exact catS_le (Nat.le_of_ble_eq_true rfl) | exact ooRo (by assumption) | exact ooAt (by assumption) | exact ooRu (by assumption) | exact ooLo (by assumption) | exact ooHa (by assumption) | exact ooLe (by assumption) | exact ooFn | exact ooAn | exact ooPa | exact ooTo | exact ooWa | exact ooCh | rfl) only [x106_0, x106_1, x106_2, x106_3, x106_4, x106_5, x106_6, x106_9, x106_10, x106_13, x106_14, x106_15, x106_18, x106_19, x106_20, x106_21, x106_22, x106_23, x106_26, x106_27, x106_28, x106_31, x106_32, x106_35, x106_38, x106_39, x106_40, x106_43, x106_44, x106_45, x106_46, x106_48, x106_51, x106_52, x106_55, x106_56, x106_57, x106_58, x106_61, x106_64, x106_65, x106_66, x106_69, x106_72, x106_75, gFn_chosen, gFn_limit, RFn_chosen, pFn_depth, e7, su_ne, ea, if_pos, if_neg, ↓reduceIte, not_true_eq_false, not_false_eq_true]
      exact i1
theorem s_keep {d : Nat} {σ : St} {m : Int} (m0 : 1 ≤ m) (m1 : m ≤ 3) (hc : ∀ j, 0 ≤ j → j < m → 0 ≤ σ 104 j ∧ σ 104 j ≤ 40) : RnA sc d 106 0 [some (vR 101), some (vI m), none, none] σ none (kpS σ m) := by
  intro u Q
  have mg := mx_ge (f := σ 104) m.toNat 0 0
  have mle : mxF (σ 104) m.toNat 0 0 ≤ 40 := by
    rcases mg.2.2 with q | ⟨j, a, b, q⟩
    · omega
    · have := hc j a (by omega); omega
  have e1 := l_keep1 (sc := sc) (d := d) (σ := σ) (u := u) (Q := Q) (by omega) m1 hc m.toNat 0 0 (by omega) (by omega) (by omega) (by omega)
  have q7 : su (scp σ 104 0 106 0 m) 101 7 (mxF (σ 104) m.toNat 0 0) 101 7 = mxF (σ 104) m.toNat 0 0 := su_eq
  have q4 : su (scp σ 104 0 106 0 m) 101 7 (mxF (σ 104) m.toNat 0 0) 104 = σ 104 := by rw [su_ne (by omega), scp_ne (by omega)]
  have q6 : su (scp σ 104 0 106 0 m) 101 7 (mxF (σ 104) m.toNat 0 0) 101 6 = σ 101 6 := by rw [su_off (by omega), scp_ne (by omega)]
  have e2 := l_keep2 (sc := sc) (d := d) (σ := su (scp σ 104 0 106 0 m) 101 7 (mxF (σ 104) m.toNat 0 0)) (m := m) (g := mxF (σ 104) m.toNat 0 0) (u := u) (Q := Q) m1 (by rw [q7]; omega) (by rw [q4]; exact hc) m.toNat (σ 101 6) (by omega)
  rw [q4, q7] at e2
  rw [← q6, su_self, q6, show ((m.toNat : Nat) : Int) = m by omega] at e2
  rw [scp_0] at e1
  unfold kpS
  refine Iff.trans ?_ (e1.trans (Iff.trans ?_ e2))
  · simp (disch := first | assumption | omega | exact notL_I | exact notL_N | exact notL_R | exact catS_le (Nat.le_of_ble_eq_true rfl) | exact ooRo (by assumption) | exact ooAt (by assumption) | exact ooRu (by assumption) | exact ooLo (by assumption) | exact ooHa (by assumption) | exact ooLe (by assumption) | exact ooFn | exact ooAn | exact ooPa | exact ooTo | exact ooWa | exact ooCh | rfl) only [x106_0, x106_1, x106_2, x106_3]
  · simp (disch := first | assumption | omega | exact notL_I | exact notL_N | exact notL_R | exact catS_le (Nat.le_of_ble_eq_true rfl) | exact ooRo (by assumption) | exact ooAt (by assumption) | exact ooRu (by assumption) | exact ooLo (by assumption) | exact ooHa (by assumption) | exact ooLe (by assumption) | exact ooFn | exact ooAn | exact ooPa | exact ooTo | exact ooWa | exact ooCh | rfl) only [x106_38, x106_39, x106_40, x106_43, x106_44, x106_45, x106_46, pFn_limit]
end F5
/-- frames below a limit -/
theorem lv_map {σ τ : St} {as : List At} {L : List Rw} {lim g : Nat} {D : Int} {wg : Rw} (hs : srt L) (hg : g < lim) (hwg : L[g]? = some wg) (hlt : ∀ j : Nat, (j : Int) < D → σ 104 j < g) (e4 : τ 104 = σ 104) (e5 : τ 105 = σ 105) (eb : ∀ k, bF τ k = bF σ k) : ∀ (fs : List Fr) (N : Nat), LvF σ as L lim N fs → (fs.length : Int) ≤ D + 1 → LvF τ as L g N (fs.map (frF fun v => decide (v.1 < wg.1))) ∧ ∀ f ∈ fs, f.1.all (fun v => decide (v.1 < wg.1)) = true := by
  have gl := (List.getElem?_eq_some_iff.mp hwg).1
  intro fs
  induction fs with
  | nil => intro N _ _; exact ⟨trivial, fun f hf => by cases hf⟩
  | cons f fs ih =>
    intro N H hl
    obtain ⟨pre, β, q, bs⟩ := f
    obtain ⟨h1, h2, h3, h4, h5, h6, h7, k, k1, k2, k3, k4⟩ := H
    rw [List.length_cons] at hl
    obtain ⟨i1, i2⟩ := ih k k4 (by omega)
    refine ⟨⟨by rw [List.length_map]; exact h1, by rw [List.length_map]; exact h2, by rw [List.length_map]; exact h3, by rw [List.length_map, e4]; exact h4, by rw [List.length_map, e4]; exact h5, ?_, fun j w hj => by rw [e4]; exact ⟨(h7 j w hj).1, hlt j (by have := (List.getElem?_eq_some_iff.mp hj).1; dsimp only [frF] at this; omega), (h7 j w hj).2.2⟩, k, k1, by rw [List.length_map, e5]; exact k2, by rw [eb]; exact k3, i1⟩, fun f hf => ?_⟩
    · rw [List.length_map, e4, h6]
      rw [srt_drop (L := L.take lim) (k := g) (c := (σ 104 fs.length + 1).toNat) (w := wg) (srt_take hs) (by rw [List.getElem?_take, if_pos hg]; exact hwg), List.take_take, Nat.min_eq_left (by omega)]
    · rcases List.mem_cons.mp hf with rfl | hf
      · rw [List.all_eq_true]
        intro w hw
        obtain ⟨j, hj⟩ := List.mem_iff_getElem?.mp hw
        have hj1 := (List.getElem?_eq_some_iff.mp hj).1
        obtain ⟨c0, _, c1⟩ := h7 j w hj
        have := hlt j (by dsimp only at hj1; omega)
        exact decide_eq_true ((srt_get L _ g w wg hs c1 hwg).mpr (by omega))
      · exact i2 f hf
theorem lv_shrink {σ τ : St} {as : List At} {L : List Rw} {lim g D : Nat} {wg : Rw} (hs : srt L) (hg : g < lim) (hwg : L[g]? = some wg) (hD : σ 104 D = (g : Int)) (hlt : ∀ j : Nat, j < D → σ 104 j < g) (e4 : τ 104 = σ 104) (e5 : τ 105 = σ 105) (eb : ∀ k, bF τ k = bF σ k) : ∀ (fs : List Fr) (N : Nat), LvF σ as L lim N fs → D < fs.length → ∃ fs' N', N' ≤ N ∧ LvF τ as L g N' fs' ∧ fs'.length = D + 1 ∧ remF (L.take g) fs' = (remF (L.take lim) fs).filter (fun z => z.1.all (fun v => decide (v.1 < wg.1))) := by
  have gl := (List.getElem?_eq_some_iff.mp hwg).1
  have ht : (L.take lim).filter (fun v => decide (v.1 < wg.1)) = L.take g := by
    rw [srt_filter (L.take lim) g wg (srt_take hs) (by rw [List.getElem?_take, if_pos hg]; exact hwg), List.take_take, Nat.min_eq_left (by omega)]
  intro fs
  induction fs with
  | nil => intro N _ h; rw [List.length_nil] at h; omega
  | cons f fs ih =>
    intro N H hl
    rw [List.length_cons] at hl
    by_cases hf : fs.length = D
    · obtain ⟨m1, m2⟩ := lv_map (D := D) hs hg hwg (fun j hj => hlt j (by omega)) e4 e5 eb (f :: fs) N H (by rw [List.length_cons]; omega)
      refine ⟨(f :: fs).map (frF fun v => decide (v.1 < wg.1)), N, Nat.le_refl _, m1, by rw [List.length_map, List.length_cons, hf], ?_⟩
      rw [← ht]
      exact remF_filter _ m2
    · obtain ⟨pre, β, q, bs⟩ := f
      obtain ⟨h1, h2, h3, h4, h5, h6, h7, k, k1, k2, k3, k4⟩ := H
      obtain ⟨fs', N', q1, q2, q3, q4⟩ := ih k k4 (by omega)
      refine ⟨fs', N', by omega, q2, q3, ?_⟩
      rw [q4]
      have hd : pre.all (fun v => decide (v.1 < wg.1)) = false := by
        have hpl : D < pre.length := by omega
        have hpe := List.getElem?_eq_getElem hpl
        obtain ⟨c0, _, c1⟩ := h7 D _ hpe
        rw [hD, Int.toNat_natCast, hwg] at c1
        rw [List.all_eq_false]
        refine ⟨pre[D], List.getElem_mem hpl, ?_⟩
        rw [← Option.some.inj c1]
        simp
      exact (remF_dead (f := (pre, β, q, bs)) hd).symm
theorem topL_eq {pre : List Rw} {wg : Rw} (h0 : ∀ w ∈ pre, 0 ≤ w.1) (hm : wg ∈ pre) (hle : ∀ w ∈ pre, w.1 ≤ wg.1) : topL pre = wg.1 := by
  have hne : pre ≠ [] := fun e => by rw [e] at hm; cases hm
  have a := (topL_lt (T := wg.1 + 1) hne h0).mpr (fun w hw => by have := hle w hw; omega)
  have b : ¬ topL pre < wg.1 := fun z => by have := (topL_lt hne h0).mp z wg hm; omega
  omega
/-- a hit kept: the search goes on below its greatest row -/
theorem kp_sch {σ : St} {as : List At} {L : List Rw} {lim : Nat} {pre : List Rw} {β : Bd} {rest : Hts} (hs : srt L) (h0 : ∀ w ∈ L, 0 ≤ w.1) (hl : lim ≤ L.length) (hL : L.length ≤ 40) (ha : 1 ≤ as.length) (h3 : as.length ≤ 3) (H : HitAt as L lim pre β rest σ) : (∀ j : Int, 0 ≤ j → j < as.length → 0 ≤ σ 104 j ∧ σ 104 j ≤ 40) ∧ ∃ lim', Sch as L lim' (kpS σ as.length) (rest.filter fun z => z.1.all (fun v => decide (v.1 < topL pre))) := by
  obtain ⟨n, fs, T, b1, Lv, fl, hr, d6, pl, hp⟩ := H
  have hc : ∀ j : Int, 0 ≤ j → j < as.length → 0 ≤ σ 104 j ∧ σ 104 j ≤ 40 := by
    intro j j0 j1
    have hj : j.toNat < pre.length := by omega
    have e := hp j.toNat _ (List.getElem?_eq_getElem hj)
    rw [Int.toNat_of_nonneg j0] at e
    exact ⟨e.1, by omega⟩
  refine ⟨hc, ?_⟩
  have mg := mx_ge (f := σ 104) as.length 0 0
  generalize hG : mxF (σ 104) as.length 0 0 = G at mg
  have hex : ∃ j : Int, 0 ≤ j ∧ j < as.length ∧ G ≤ σ 104 j := by
    rcases mg.2.2 with q | ⟨j, a, b, q⟩
    · have := (hc 0 (by omega) (by omega)).1
      exact ⟨0, by omega, by omega, by omega⟩
    · exact ⟨j, a, by omega, by omega⟩
  obtain ⟨p1, p2, p3, p4⟩ := dp_yes as.length (σ 101 6) hex
  generalize hDD : dpF (σ 104) G as.length (σ 101 6) = DD at p1 p2 p3 p4
  have gD : σ 104 DD = G := by have := mg.2.1 DD (by omega) (by omega); omega
  have gb := hc DD p1 p2
  have hDp : DD.toNat < pre.length := by omega
  have hpD := hp DD.toNat _ (List.getElem?_eq_getElem hDp)
  rw [Int.toNat_of_nonneg p1, gD] at hpD
  have glim : G < lim := hpD.2.1
  have pm : ∀ w ∈ pre, w ∈ L := fun w hw => by
    obtain ⟨j, hj⟩ := List.mem_iff_getElem?.mp hw
    exact List.mem_of_getElem? (hp j w hj).2.2
  have etop : topL pre = (pre[DD.toNat]).1 := by
    apply topL_eq (fun w hw => h0 w (pm w hw)) (List.getElem_mem hDp)
    intro w hw
    obtain ⟨j, hj⟩ := List.mem_iff_getElem?.mp hw
    have hj1 := (List.getElem?_eq_some_iff.mp hj).1
    obtain ⟨c0, _, c1⟩ := hp j w hj
    have c2 := mg.2.1 j (by omega) (by omega)
    by_cases hq : (σ 104 j).toNat = G.toNat
    · rw [hq, hpD.2.2] at c1
      rw [Option.some.inj c1]
      exact Int.le_refl _
    · have := (srt_get L _ _ w _ hs c1 hpD.2.2).mpr (by omega)
      omega
  have k2 : kpS σ as.length 102 = σ 102 := by unfold kpS; rw [su_ne (by omega), su_ne (by omega), scp_ne (by omega)]
  have k3 : kpS σ as.length 103 = σ 103 := by unfold kpS; rw [su_ne (by omega), su_ne (by omega), scp_ne (by omega)]
  have k4 : kpS σ as.length 104 = σ 104 := by unfold kpS; rw [su_ne (by omega), su_ne (by omega), scp_ne (by omega)]
  have k5 : kpS σ as.length 105 = σ 105 := by unfold kpS; rw [su_ne (by omega), su_ne (by omega), scp_ne (by omega)]
  have ks : kpS σ as.length 101 2 = σ 101 2 := by unfold kpS; rw [su_off (by omega), su_off (by omega), scp_ne (by omega)]
  have k7 : kpS σ as.length 101 7 = G := by
    unfold kpS
    rw [su_off (by omega), su_eq, Int.toNat_natCast, hG]
  have k6 : kpS σ as.length 101 6 = DD := by
    unfold kpS
    rw [su_eq, Int.toNat_natCast, hG, hDD]
  obtain ⟨fs', N', q1, q2, q3, q4⟩ := lv_shrink (σ := σ) (τ := kpS σ as.length) (g := G.toNat) (D := DD.toNat) (lim := lim) hs (by omega) hpD.2.2 (by rw [Int.toNat_of_nonneg p1, gD]; omega) (fun j hj => by have := p4 j (by omega) (by omega); omega) k4 k5 (fun k => bF_c k2 k3 k) fs n Lv (by omega)
  refine ⟨G.toNat, n, fs', T.c ks k2 k3, LvF.mono fs' N' n q2 q1 (fun _ _ => rfl) (fun _ _ => ⟨rfl, rfl⟩), by rw [k7]; omega, by omega, ?_, Or.inl ⟨by rw [k6]; exact p2, by rw [k6, q3]; omega⟩⟩
  rw [q4, hr, etop]
