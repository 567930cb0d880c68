/-! counts of hits, the first one that is not fulfilled (reference) -/
theorem cB_fl {σ : St} : cB ((fl σ 389 0 26 (-1)) 389) = bd0 := by
  funext v
  unfold cB bd0
  by_cases h : 0 ≤ v ∧ v ≤ 25
  · rw [if_pos h, fl_at, if_pos (by omega)]
  · rw [if_neg h]
theorem gdB_fl {σ : St} : gdB ((fl σ 389 0 26 (-1)) 389) := by
  intro v v1 v2
  rw [fl_at, if_pos (by omega)]
  omega
/-- rows have numbers of a hall -/
theorem rs_num {σ : St} {h : Int} : ∀ (k : Nat) (n : Int) (w : Rw), w ∈ rsF σ h k n → n ≤ w.1 ∧ w.1 < n + k := by
  intro k
  induction k with
  | zero => intro n w hw; cases hw
  | succ k ih =>
    intro n w hw
    rw [rsF] at hw
    split at hw
    · rcases List.mem_cons.mp hw with rfl | hw
      · show n ≤ n ∧ n < n + _
        omega
      · have := ih _ _ hw
        omega
    · have := ih _ _ hw
      omega
theorem rsR_num {σ : St} {h : Int} {w : Rw} (W : WfM σ) (h1 : 0 ≤ h) (h2 : h ≤ 4) (hw : w ∈ rsR σ h) : 0 ≤ w.1 ∧ w.1 ≤ 199 := by
  have := rs_num _ _ _ hw
  have w1 := W.nxt h1 h2
  omega
section R6
variable {sc : Scr} {σ : St} {u : Bool × Nat × Nat × Int} {Q : Rs → HS → Prop} {d : Nat}
theorem l_top {m : Int} (hm : m ≤ 3) (hr : ∀ j, 0 ≤ j → j < m → 0 ≤ σ 390 j ∧ σ 390 j ≤ 199) : ∀ (pre : List Rw) (i t : Int), 0 ≤ i → i + pre.length = m → (∀ (j : Nat) (w : Rw), pre[j]? = some w → σ 390 (i + j) = w.1) → 0 ≤ t → t ≤ 199 → (Ex sc d 230 4 [some (vR 373), some (vI m), some (vI t), some (vI i)] [] (wH σ u) Q ↔ Q (.inl (some (vI (pre.foldl topF t)))) (wH σ u)) := by
  intro pre
  induction pre with
  | nil =>
    intro i t i0 im hp t0 t1
    rw [List.length_nil] at im
    rw [x230_4]
    simp (disch := first | omega | exact notL_I | exact notL_N | exact notL_R | exact oM | exact catS_le (Nat.le_of_ble_eq_true rfl) | rfl) only [x230_0, x230_1, x230_2, x230_3, x230_5, x230_6, x230_9, x230_10, x230_13, x230_14, x230_15, x230_16, x230_19, x230_20, x230_23, x230_24, x230_25, x230_28, x230_29, x230_30, x230_33, x230_36, x230_37, if_pos, if_neg, ↓reduceIte, not_true_eq_false, not_false_eq_true]
    rfl
  | cons w pre ih =>
    intro i t i0 im hp t0 t1
    rw [List.length_cons] at im
    have e0 : σ 390 i = w.1 := by
      have := hp 0 w rfl
      rw [Int.natCast_zero, Int.add_zero] at this
      exact this
    have r0 := hr i i0 (by omega)
    have hp' : ∀ (j : Nat) (w' : Rw), pre[j]? = some w' → σ 390 (i + 1 + j) = w'.1 := by
      intro j w' hj
      have := hp (j + 1) w' hj
      rw [← this]
      congr 1
      omega
    rw [x230_4, List.foldl_cons, topF]
    by_cases ht : t < w.1
    · rw [if_pos ht]
      simp (disch := first | omega | exact notL_I | exact notL_N | exact notL_R | exact oM | exact catS_le (Nat.le_of_ble_eq_true rfl) | rfl) only [x230_0, x230_1, x230_2, x230_3, x230_5, x230_6, x230_9, x230_10, x230_13, x230_14, x230_15, x230_16, x230_19, x230_20, x230_23, x230_24, x230_25, x230_28, x230_29, x230_30, x230_33, x230_36, x230_37, gM_hitRow, RM_hitRow, e0, if_pos, if_neg, ↓reduceIte, not_true_eq_false, not_false_eq_true]
      exact ih (i + 1) w.1 (by omega) (by omega) hp' (by omega) (by omega)
    · rw [if_neg ht]
      simp (disch := first | omega | exact notL_I | exact notL_N | exact notL_R | exact oM | exact catS_le (Nat.le_of_ble_eq_true rfl) | rfl) only [x230_0, x230_1, x230_2, x230_3, x230_5, x230_6, x230_9, x230_10, x230_13, x230_14, x230_15, x230_16, x230_19, x230_20, x230_23, x230_24, x230_25, x230_28, x230_29, x230_30, x230_33, x230_36, x230_37, gM_hitRow, RM_hitRow, e0, if_pos, if_neg, ↓reduceIte, not_true_eq_false, not_false_eq_true]
      exact ih (i + 1) t (by omega) (by omega) hp' (by omega) (by omega)
theorem s_top {m : Int} {pre : List Rw} (hm : m ≤ 3) (hl : (pre.length : Int) = m) (hp : hR σ pre) (hn : ∀ w ∈ pre, 0 ≤ w.1 ∧ w.1 ≤ 199) : Ex sc d 230 0 [some (vR 373), some (vI m), none, none] [] (wH σ u) Q ↔ Q (.inl (some (vI (topL pre)))) (wH σ u) := by
  have hr : ∀ j, 0 ≤ j → j < m → 0 ≤ σ 390 j ∧ σ 390 j ≤ 199 := by
    intro j j0 j1
    have hj : j.toNat < pre.length := by omega
    have e := hp j.toNat _ (List.getElem?_eq_getElem hj)
    rw [Int.toNat_of_nonneg j0] at e
    rw [e]
    exact hn _ (List.getElem_mem hj)
  have e := l_top (sc := sc) (u := u) (Q := Q) (d := d) hm hr pre 0 0 (by omega) (by omega) (fun j w hj => by rw [Int.zero_add]; exact hp j w hj) (by omega) (by omega)
  refine Iff.trans ?_ e
  simp (disch := first | omega | exact notL_I | exact notL_N | exact notL_R | exact oM | exact catS_le (Nat.le_of_ble_eq_true rfl) | rfl) only [x230_0, x230_1, x230_2, x230_3, x230_5, x230_6, x230_9, x230_10, x230_13, x230_14, x230_15, x230_16, x230_19, x230_20, x230_23, x230_24, x230_25, x230_28, x230_29, x230_30, x230_33, x230_36, x230_37]
theorem l_best {m t : Int} (hm : m ≤ 3) (l0 l1 l2 : Option V) : ∀ (k : Nat) (i : Int), 0 ≤ i → i + k = m → (Ex sc d 229 55 [some (vR 373), l1, l2, some (vI m), some (vI t), some (vI i)] [] (wH (scp σ 390 0 391 0 i) u) Q ↔ Q (.inl none) (wH (scp σ 390 0 391 0 m) u)) := by
  intro k
  induction k with
  | zero =>
    intro i i0 im
    obtain rfl : i = m := by omega
    rw [x229_55]
    simp (disch := first | omega | exact notL_I | exact notL_N | exact notL_R | exact oM | exact catS_le (Nat.le_of_ble_eq_true rfl) | rfl) only [x229_0, x229_1, x229_2, x229_3, x229_4, x229_7, x229_8, x229_9, x229_10, x229_13, x229_15, x229_16, x229_19, x229_22, x229_24, x229_25, x229_28, x229_31, x229_32, x229_33, x229_34, x229_37, x229_40, x229_41, x229_42, x229_43, x229_46, x229_47, x229_49, x229_52, x229_53, x229_57, x229_58, x229_61, x229_62, x229_65, x229_67, x229_68, x229_71, x229_73, x229_74, x229_75, x229_78, x229_81, if_pos, if_neg, ↓reduceIte, not_true_eq_false, not_false_eq_true]
  | succ k ih =>
    intro i i0 im
    rw [x229_55]
    simp (disch := first | omega | exact notL_I | exact notL_N | exact notL_R | exact oM | exact catS_le (Nat.le_of_ble_eq_true rfl) | rfl) only [x229_0, x229_1, x229_2, x229_3, x229_4, x229_7, x229_8, x229_9, x229_10, x229_13, x229_15, x229_16, x229_19, x229_22, x229_24, x229_25, x229_28, x229_31, x229_32, x229_33, x229_34, x229_37, x229_40, x229_41, x229_42, x229_43, x229_46, x229_47, x229_49, x229_52, x229_53, x229_57, x229_58, x229_61, x229_62, x229_65, x229_67, x229_68, x229_71, x229_73, x229_74, x229_75, x229_78, x229_81, gM_hitRow, gM_bestRow, RM_hitRow, WM_bestRow, scp_ne, if_pos, if_neg, ↓reduceIte, not_true_eq_false, not_false_eq_true]
    rw [scp_su i0 (by rw [Int.zero_add]) (by rw [Int.zero_add])]
    exact ih (i + 1) (by omega) (by omega)
end R6
theorem topL_in {pre : List Rw} (hn : ∀ w ∈ pre, 0 ≤ w.1 ∧ w.1 ≤ 199) : 0 ≤ topL pre ∧ topL pre ≤ 199 := by
  have : ∀ (l : List Rw) (t : Int), (∀ w ∈ l, 0 ≤ w.1 ∧ w.1 ≤ 199) → 0 ≤ t → t ≤ 199 → 0 ≤ l.foldl topF t ∧ l.foldl topF t ≤ 199 := by
    intro l
    induction l with
    | nil => intro t _ a b; exact ⟨a, b⟩
    | cons w l ih =>
      intro t hw a b
      rw [List.foldl_cons]
      have := hw w List.mem_cons_self
      refine ih _ (fun v hv => hw v (List.mem_cons_of_mem _ hv)) ?_ ?_
      · unfold topF
        split <;> omega
      · unfold topF
        split <;> omega
  exact this pre 0 hn (by omega) (by omega)
/-- what FIRST keeps: the best hit so far -/
def bestI (m : Int) (τ : St) (b : Option (List Rw)) : Prop := match b with
  | none => τ 373 32 = 0
  | some q => τ 373 32 = 1 ∧ τ 373 31 = topL q ∧ (q.length : Int) = m ∧ (∀ w ∈ q, 0 ≤ w.1 ∧ w.1 ≤ 199) ∧ ∀ (j : Nat) (w : Rw), q[j]? = some w → τ 391 j = w.1
/-- the rest stays -/
def Fi (σ τ : St) : Prop := (∀ c, c ≠ 373 → c ≠ 389 → c ≠ 390 → c ≠ 391 → c ≠ 392 → τ c = σ c) ∧ ∀ j, j ≠ 30 → j ≠ 31 → j ≠ 32 → τ 373 j = σ 373 j
theorem Fi.refl {σ : St} : Fi σ σ := ⟨fun _ _ _ _ _ _ => rfl, fun _ _ _ _ => rfl⟩
theorem Fi.trans {σ τ ρ : St} (h1 : Fi σ τ) (h2 : Fi τ ρ) : Fi σ ρ := ⟨fun c a b e f g => (h2.1 c a b e f g).trans (h1.1 c a b e f g), fun j a b e => (h2.2 j a b e).trans (h1.2 j a b e)⟩
theorem Fi.dt {σ τ : St} (h : Fi σ τ) : Dt σ τ := ⟨fun c a b => h.1 c (by omega) (by omega) (by omega) (by omega) (by omega), h.2 14 (by omega) (by omega) (by omega)⟩
theorem Fi.sc {σ τ : St} (h : Sc9 σ τ) : Fi σ τ := ⟨fun c _ b e _ g => h c b e g, fun j _ _ _ => by rw [h 373 (by omega) (by omega) (by omega)]⟩
theorem Fb.fi {k : Int} {σ τ : St} (h : Fb k σ τ) : Fi σ τ := Fi.sc (fun c a _ b => h.1 c a b)
