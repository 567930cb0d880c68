/-! the law's loop -/
section Lo
variable {sc : Scr} {d : Nat}
theorem i32_in {x : Int32} : inR x.toInt := ⟨Int32.le_toInt x, by have := Int32.toInt_lt x; omega⟩
/-- whatever the script says, a round goes through -/
theorem c_all {σ : St} {A : AS} {i : Int} (hd : 200 ≤ d) (i0 : 0 ≤ i) (i1 : i + 6 ≤ sc.1) (hn : sc.1 ≤ 3072) (hr : ∀ j, inR (sc.2 j)) (hV : VV A σ) : Cs sc d 23 i σ := by
  have go : ∀ pc : Nat, Cs sc d pc i σ → (∀ (l5 l6 : Option V) (hs : HS) (Q : Rs → HS → Prop), Ex sc d 274 40 [some (vS 9), some (vR 0), some (vR 373), some (vR 404), some (vI i), l5, l6] [vI (Int32.ofInt (sc.2 i.toNat) &&& Int32.ofInt 31).toInt] hs Q ↔ Ex sc d 274 pc [some (vS 9), some (vR 0), some (vR 373), some (vR 404), some (vI i), l5, l6] [] hs Q) → Cs sc d 23 i σ := by
    intro pc ⟨A', ρ, V', h⟩ e
    refine ⟨A', ρ, V', fun u l5 l6 => ?_⟩
    obtain ⟨u', l5', l6', hu, hq⟩ := h u l5 l6
    refine ⟨u', l5', l6', hu, fun Q => ?_⟩
    rw [← hq Q, ← e l5 l6 _ Q]
    simp (disch := first | assumption | omega | exact notL_I | exact notL_N | exact notL_R | exact oM | exact ooCh | exact catS_le (Nat.le_of_ble_eq_true rfl) | exact Nat.le_of_ble_eq_true rfl | rfl) only [x274_23, x274_25, x274_26, x274_27, x274_29, x274_30, x274_33, x274_34, x274_36, x274_37, x274_39, if_pos, if_neg, ↓reduceIte, not_true_eq_false, not_false_eq_true]
  have tin : inR (Int32.ofInt (sc.2 i.toNat) &&& Int32.ofInt 31).toInt := i32_in
  generalize (Int32.ofInt (sc.2 i.toNat) &&& Int32.ofInt 31).toInt = t at *
  by_cases ho : t < 0 ∨ 23 < t
  · refine go 1660 ⟨A, σ, hV, fun u l5 l6 => ⟨u, l5, l6, ⟨Nat.le_succ _, Nat.le_add_right _ 6⟩, fun Q => Iff.rfl⟩⟩ (fun l5 l6 hs Q => x274_40 tin ho)
  · rcases (show t = 0 ∨ t = 1 ∨ t = 2 ∨ t = 3 ∨ t = 4 ∨ t = 5 ∨ t = 6 ∨ t = 7 ∨ t = 8 ∨ t = 9 ∨ t = 10 ∨ t = 11 ∨ t = 12 ∨ t = 13 ∨ t = 14 ∨ t = 15 ∨ t = 16 ∨ t = 17 ∨ t = 18 ∨ t = 19 ∨ t = 20 ∨ t = 21 ∨ t = 22 ∨ t = 23 by omega) with rfl | rfl | rfl | rfl | rfl | rfl | rfl | rfl | rfl | rfl | rfl | rfl | rfl | rfl | rfl | rfl | rfl | rfl | rfl | rfl | rfl | rfl | rfl | rfl
    · exact go 152 (c_feed hd i0 i1 hn hr hV) (fun l5 l6 hs Q => x274_40_0)
    · exact go 225 (c_end hd i0 i1 hn hr hV) (fun l5 l6 hs Q => x274_40_1)
    · exact go 250 (c_load hd i0 i1 hn hr hV) (fun l5 l6 hs Q => x274_40_2)
    · exact go 306 (c_fault hd i0 i1 hn hr hV) (fun l5 l6 hs Q => x274_40_3)
    · exact go 331 (c_copy hd i0 i1 hn hr hV) (fun l5 l6 hs Q => x274_40_4)
    · exact go 399 (c_look hd i0 i1 hn hr hV) (fun l5 l6 hs Q => x274_40_5)
    · exact go 467 (c_row hd i0 i1 hn hr hV) (fun l5 l6 hs Q => x274_40_6)
    · exact go 547 (c_put hd i0 i1 hn hr hV) (fun l5 l6 hs Q => x274_40_7)
    · exact go 651 (c_strike hd i0 i1 hn hr hV) (fun l5 l6 hs Q => x274_40_8)
    · exact go 726 (c_run hd i0 i1 hn hr hV) (fun l5 l6 hs Q => x274_40_9)
    · exact go 794 (c_step hd i0 i1 hn hr hV) (fun l5 l6 hs Q => x274_40_10)
    · exact go 874 (c_by hd i0 i1 hn hr hV) (fun l5 l6 hs Q => x274_40_11)
    · exact go 942 (c_holds hd i0 i1 hn hr hV) (fun l5 l6 hs Q => x274_40_12)
    · exact go 1010 (c_hit hd i0 i1 hn hr hV) (fun l5 l6 hs Q => x274_40_13)
    · exact go 1090 (c_hits hd i0 i1 hn hr hV) (fun l5 l6 hs Q => x274_40_14)
    · exact go 1158 (c_leads hd i0 i1 hn hr hV) (fun l5 l6 hs Q => x274_40_15)
    · exact go 1226 (c_stands hd i0 i1 hn hr hV) (fun l5 l6 hs Q => x274_40_16)
    · exact go 1251 (c_core hd i0 i1 hn hr hV) (fun l5 l6 hs Q => x274_40_17)
    · exact go 1307 (c_ask hd i0 i1 hn hr hV) (fun l5 l6 hs Q => x274_40_18)
    · exact go 1363 (c_answer hd i0 i1 hn hr hV) (fun l5 l6 hs Q => x274_40_19)
    · exact go 1400 (c_follows hd i0 i1 hn hr hV) (fun l5 l6 hs Q => x274_40_20)
    · exact go 1456 (c_ends hd i0 i1 hn hr hV) (fun l5 l6 hs Q => x274_40_21)
    · exact go 1512 (c_rank hd i0 i1 hn hr hV) (fun l5 l6 hs Q => x274_40_22)
    · exact go 1592 (c_columns hd i0 i1 hn hr hV) (fun l5 l6 hs Q => x274_40_23)
theorem l_law (hd : 200 ≤ d) (hn : sc.1 ≤ 3072) (hr : ∀ j, inR (sc.2 j)) : ∀ (k : Nat) (i : Int) (σ : St) (A : AS) (u : Bool × Nat × Nat × Int) (l5 l6 : Option V), 0 ≤ i → i ≤ 3072 → (sc.1 : Int) - i ≤ 6 * k → VV A σ →
    Ex sc d 274 23 [some (vS 9), some (vR 0), some (vR 373), some (vR 404), some (vI i), l5, l6] [] (wH σ u) (fun r h => r = .inl (some (vI 1)) ∧ h.2.2.2.1 ≤ u.2.1 + k ∧ h.2.2.2.2 ≤ u.2.2.1 + 6 * k) := by
  have sn : sc.1 < 2147483648 := by omega
  intro k
  induction k with
  | zero =>
    intro i σ A u l5 l6 i0 i3 hk V
    simp (disch := first | assumption | omega | exact notL_I | exact notL_N | exact notL_R | exact oM | exact ooCh | exact catS_le (Nat.le_of_ble_eq_true rfl) | exact Nat.le_of_ble_eq_true rfl | rfl) only [x274_23, x274_25, x274_26, x274_27, x274_29, x274_30, x274_1666, x274_1667, if_pos, if_neg, ↓reduceIte, not_true_eq_false, not_false_eq_true]
    exact ⟨trivial, Nat.le_refl _, Nat.le_refl _⟩
  | succ k ih =>
    intro i σ A u l5 l6 i0 i3 hk V
    by_cases h : i + 6 ≤ sc.1
    · obtain ⟨A', ρ, V', hc⟩ := c_all (sc := sc) (d := d) hd i0 h hn hr V
      obtain ⟨u', l5', l6', hu, hq⟩ := hc u l5 l6
      rw [hq]
      have h2 := ih (i + 6) ρ A' u' l5' l6' (by omega) (by omega) (by omega) V'
      rw [x274_1660, x274_1663]
      obtain ⟨n, r, hs2, he, e1, e2, e3⟩ := h2
      exact ⟨n, r, hs2, he, e1, by omega, by omega⟩
    · simp (disch := first | assumption | omega | exact notL_I | exact notL_N | exact notL_R | exact oM | exact ooCh | exact catS_le (Nat.le_of_ble_eq_true rfl) | exact Nat.le_of_ble_eq_true rfl | rfl) only [x274_23, x274_25, x274_26, x274_27, x274_29, x274_30, x274_1666, x274_1667, if_pos, if_neg, ↓reduceIte, not_true_eq_false, not_false_eq_true]
      exact ⟨trivial, Nat.le_add_right _ _, Nat.le_add_right _ _⟩
end Lo
