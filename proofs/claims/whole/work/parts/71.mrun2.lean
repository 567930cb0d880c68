/-! runs of the reference: bindings of a hit, melting -/
theorem stB_stB {σ : St} {g g' : Int → Int} : stB (stB σ g) g' = stB σ g' := by
  funext c
  by_cases h : c = 389
  · subst h; rw [stB_at, stB_at]
  · rw [stB_ne h, stB_ne h, stB_ne h]
theorem rs_mem {σ : St} {h : Int} : ∀ (k : Nat) (n : Int) (w : Rw), w ∈ rsF σ h k n → n ≤ w.1 ∧ w.1 < n + k ∧ σ 377 (200 * h + w.1) = 1 ∧ w = rwR σ h w.1 := by
  intro k
  induction k with
  | zero => intro n w hw; cases hw
  | succ k ih =>
    intro n w hw
    rw [rsF] at hw
    split at hw
    · rename_i ht
      rcases List.mem_cons.mp hw with rfl | hw
      · exact ⟨Int.le_refl _, by show n < n + _; omega, ht, rfl⟩
      · obtain ⟨a, b, c⟩ := ih _ _ hw
        exact ⟨by omega, by omega, c⟩
    · obtain ⟨a, b, c⟩ := ih _ _ hw
      exact ⟨by omega, by omega, c⟩
theorem rsR_mem {σ : St} {h : Int} {w : Rw} (W : WfM σ) (h1 : 0 ≤ h) (h2 : h ≤ 4) (hw : w ∈ rsR σ h) : 0 ≤ w.1 ∧ w.1 ≤ 199 ∧ w.1 < σ 381 h ∧ σ 377 (200 * h + w.1) = 1 ∧ w = rwR σ h w.1 := by
  have w1 := W.nxt h1 h2
  obtain ⟨a, b, c, e⟩ := rs_mem _ _ _ hw
  exact ⟨a, by omega, by omega, c, e⟩
section M2
variable {sc : Scr}
theorem l_binds {h r : Int} {σ : St} {d : Nat} (hd : 3 ≤ d) (W : WfM σ) (h1 : 0 ≤ h) (h2 : h ≤ 4) (r1 : 0 ≤ r) (r2 : r ≤ 9) (hc : atC σ h r 0 (σ 376 (30 * (10 * h + r)))) : ∀ (m : Nat) (i : Int) (g : Int → Int) (q : List Rw) (β : Bd), 0 ≤ i → i + m = σ 376 (30 * (10 * h + r)) → gdB g → (q, β) ∈ hitsL (rsR σ h) (atsF σ h r 0 m i) (cB g) → (∀ (j : Nat) (w : Rw), q[j]? = some w → σ 391 (i + j) = w.1) →
    ∃ g', gdB g' ∧ cB g' = β ∧ ∀ (u : Bool × Nat × Nat × Int) (Q : Rs → HS → Prop), Ex sc d 244 9 [some (vR 373), some (vI h), some (vI r), some (vI 1), some (vI i)] [] (wH (stB σ g) u) Q ↔ Q (.inl none) (wH (stB σ g') u) := by
  have wr := W.rul h1 h2 r1 r2
  have e0 : ∀ g, stB σ g 376 (30 * (10 * h + r) + 0) = σ 376 (30 * (10 * h + r)) := fun g => by rw [stB_ne (by omega), Int.add_zero]
  intro m
  induction m with
  | zero =>
    intro i g q β i0 im hg hh hq
    rw [atsF, hitsL, List.mem_singleton] at hh
    have hβ : β = cB g := congrArg Prod.snd hh
    refine ⟨g, hg, hβ.symm, fun u Q => ?_⟩
    rw [x244_9]
    simp (disch := first | omega | exact notL_I | exact notL_N | exact notL_R | exact oM | exact catS_le (Nat.le_of_ble_eq_true rfl) | rfl) only [x244_0, x244_1, x244_4, x244_5, x244_6, x244_7, x244_11, x244_12, x244_13, x244_14, x244_15, x244_18, x244_21, x244_22, x244_25, x244_26, x244_27, x244_28, x244_29, x244_31, x244_32, x244_35, x244_37, x244_38, x244_41, x244_44, x244_45, x244_48, x244_49, x244_50, x244_53, x244_56, s_rule, e0, Kc_some, if_pos, if_neg, ↓reduceIte, not_true_eq_false, not_false_eq_true]
  | succ m ih =>
    intro i g q β i0 im hg hh hq
    rw [atsF, hitsL_cons, subL, List.mem_flatMap] at hh
    obtain ⟨w, hw, hh⟩ := hh
    cases hf : fitA (cB g) (atR σ h r 0 i) w.2 with
    | none => rw [hf] at hh; cases hh
    | some β' =>
      rw [hf] at hh
      obtain ⟨z, hz, e⟩ := List.mem_map.mp hh
      obtain ⟨z1, z2⟩ := z
      cases e
      obtain ⟨m1, m2, m3, m4, m5⟩ := rsR_mem W h1 h2 hw
      have hb : σ 391 i = w.1 := by
        have := hq 0 w rfl
        rw [Int.natCast_zero, Int.add_zero] at this
        exact this
      obtain ⟨g', hg', hh2⟩ := s_fits (sc := sc) (d := d - 1) (σ := stB σ g) (s := 0) (i := i) (n := w.1) (Dt.dstB.wf W) (by omega) h1 h2 r1 r2 (by omega) (by omega) i0 (by omega) m1 m2 (by rw [stB_at]; exact hg) (by rw [stB_ne (by omega), stB_ne (by omega)]; exact hc i i0 (by omega))
      rw [stB_at, Dt.dstB.at_, Dt.dstB.rw_, ← m5, stB_ne (by omega), stB_stB] at hh2
      rcases hh2 with ⟨_, β2, f1, f2, f3⟩ | ⟨f1, _⟩
      · rw [hf] at f1
        cases f1
        obtain ⟨g'', y1, y2, y3⟩ := ih (i + 1) g' z1 z2 (by omega) (by omega) hg' (by rw [f2]; exact hz) (fun j v hj => by
          have := hq (j + 1) v hj
          rw [← this]
          congr 1
          omega)
        refine ⟨g'', y1, y2, fun u Q => ?_⟩
        have y4 := y3 u Q
        have hb' : stB σ g 391 i = w.1 := by rw [stB_ne (by omega)]; exact hb
        rw [x244_9]
        simp (disch := first | omega | exact notL_I | exact notL_N | exact notL_R | exact oM | exact catS_le (Nat.le_of_ble_eq_true rfl) | rfl) only [x244_0, x244_1, x244_4, x244_5, x244_6, x244_7, x244_11, x244_12, x244_13, x244_14, x244_15, x244_18, x244_21, x244_22, x244_25, x244_26, x244_27, x244_28, x244_29, x244_31, x244_32, x244_35, x244_37, x244_38, x244_41, x244_44, x244_45, x244_48, x244_49, x244_50, x244_53, x244_56, s_rule, e0, gM_bestRow, RM_bestRow, hb', f3 u, Kc_some, if_pos, if_neg, ↓reduceIte, not_true_eq_false, not_false_eq_true]
        exact y4
      · rcases f1 with f1 | f1
        · omega
        · rw [hf] at f1; cases f1
theorem s_binds {h r : Int} {σ : St} {d : Nat} {q : List Rw} {β : Bd} (hd : 3 ≤ d) (W : WfM σ) (h1 : 0 ≤ h) (h2 : h ≤ 4) (r1 : 0 ≤ r) (r2 : r ≤ 9) (hc : atC σ h r 0 (σ 376 (30 * (10 * h + r)))) (hh : (q, β) ∈ hitsL (rsR σ h) (ruR σ h r).2.1 bd0) (hq : ∀ (j : Nat) (w : Rw), q[j]? = some w → σ 391 j = w.1) : ∃ g, gdB g ∧ cB g = β ∧ RnA sc d 244 0 [some (vR 373), some (vI h), some (vI r), none, none] σ none (stB σ g) := by
  have wr := W.rul h1 h2 r1 r2
  have ef : fl σ 389 0 26 (-1) = stB σ (fl σ 389 0 26 (-1) 389) := by
    funext c
    by_cases hcc : c = 389
    · subst hcc; rw [stB_at]
    · rw [stB_ne hcc, fl_ne hcc]
  obtain ⟨g, y1, y2, y3⟩ := l_binds (sc := sc) (d := d) hd W h1 h2 r1 r2 hc (σ 376 (30 * (10 * h + r))).toNat 0 (fl σ 389 0 26 (-1) 389) q β (by omega) (by omega) gdB_fl (by rw [cB_fl]; exact hh) (fun j w hj => by rw [Int.zero_add]; exact hq j w hj)
  refine ⟨g, y1, y2, fun u Q => ?_⟩
  refine Iff.trans ?_ (y3 u Q)
  rw [← ef]
  simp (disch := first | omega | exact notL_I | exact notL_N | exact notL_R | exact oM | exact catS_le (Nat.le_of_ble_eq_true rfl) | rfl) only [x244_0, x244_1, x244_4, x244_5, x244_6, x244_7, x244_11, x244_12, x244_13, x244_14, x244_15, x244_18, x244_21, x244_22, x244_25, x244_26, x244_27, x244_28, x244_29, x244_31, x244_32, x244_35, x244_37, x244_38, x244_41, x244_44, x244_45, x244_48, x244_49, x244_50, x244_53, x244_56, s_forget, Kc_none]
theorem s_placed {h r i c : Int} {σ : St} {d : Nat} {u : Bool × Nat × Nat × Int} {Q : Rs → HS → Prop} (hd : 2 ≤ d) (W : WfM σ) (h1 : 0 ≤ h) (h2 : h ≤ 4) (r1 : 0 ≤ r) (r2 : r ≤ 9) (i0 : 0 ≤ i) (i1 : i ≤ 2) (c0 : 0 ≤ c) (c1 : c ≤ 2) : Ex sc d 250 0 [some (vR 373), some (vI h), some (vI r), some (vI i), some (vI c)] [] (wH σ u) Q ↔ Q (.inl (some (vI (if c < σ 374 (26 * h + σ 376 (30 * (10 * h + r) + (3 + 4 * (3 * 1 + i)))) then worthB (σ 389) (σ 376 (30 * (10 * h + r) + (3 + 4 * (3 * 1 + i) + (1 + c)))) else 0)))) (wH σ u) := by
  have wa := W.ato (s := 1) h1 h2 r1 r2 (by omega) (by omega) i0 i1
  have wc := W.col h1 h2 wa.1.1 wa.1.2
  have z0 : 3 + 4 * (3 * 1 + i) + 0 = 3 + 4 * (3 * 1 + i) := by omega
  have hp : isPl (σ 376 (30 * (10 * h + r) + (3 + 4 * (3 * 1 + i) + (1 + c)))) := by
    rcases (show c = 0 ∨ c = 1 ∨ c = 2 by omega) with rfl | rfl | rfl
    · exact wa.2.1
    · exact wa.2.2.1
    · exact wa.2.2.2
  have hp2 := isPl_in hp
  by_cases hc : c < σ 374 (26 * h + σ 376 (30 * (10 * h + r) + (3 + 4 * (3 * 1 + i))))
  · rw [if_pos hc]
    simp (disch := first | omega | exact notL_I | exact notL_N | exact notL_R | exact oM | exact catS_le (Nat.le_of_ble_eq_true rfl) | exact Nat.le_of_ble_eq_true rfl | rfl) only [x250_0, x250_2, x250_3, x250_4, x250_5, x250_6, x250_7, x250_8, x250_9, x250_10, x250_13, x250_16, x250_19, x250_20, x250_21, x250_22, x250_23, x250_24, x250_25, x250_26, x250_28, x250_29, x250_32, x250_35, x250_38, x250_39, s_atom, z0, s_colsOf, s_worth, Kc_some, if_pos, if_neg, ↓reduceIte, not_true_eq_false, not_false_eq_true]
  · rw [if_neg hc]
    simp (disch := first | omega | exact notL_I | exact notL_N | exact notL_R | exact oM | exact catS_le (Nat.le_of_ble_eq_true rfl) | exact Nat.le_of_ble_eq_true rfl | rfl) only [x250_0, x250_2, x250_3, x250_4, x250_5, x250_6, x250_7, x250_8, x250_9, x250_10, x250_13, x250_16, x250_19, x250_20, x250_21, x250_22, x250_23, x250_24, x250_25, x250_26, x250_28, x250_29, x250_32, x250_35, x250_38, x250_39, s_atom, z0, s_colsOf, Kc_some, if_pos, if_neg, ↓reduceIte, not_true_eq_false, not_false_eq_true]
end M2
