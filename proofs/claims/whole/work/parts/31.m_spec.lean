/-! what the reference's small methods answer -/
section Ms
variable {sc : Scr} {σ : St} {u : Bool × Nat × Nat} {Q : Rs → HS → Prop} {d : Nat}
theorem s_isIn {v a b : Int} (hv : inR v) (ha : inR a) (hb : inR b) : Ex sc d 180 0 [some (vI v), some (vI a), some (vI b)] [] (wH σ u) Q ↔ Q (.inl (some (vI (if a ≤ v ∧ v ≤ b then 1 else 0)))) (wH σ u) := by
  obtain ⟨v1, v2⟩ := hv
  obtain ⟨a1, a2⟩ := ha
  obtain ⟨b1, b2⟩ := hb
  simp (disch := omega) only [x180_0, x180_1, x180_2, x180_5, x180_6, x180_7, x180_10, x180_11, x180_14, x180_15]
  by_cases h1 : v < a
  · rw [if_pos h1, if_neg (by omega)]
  · rw [if_neg h1]
    by_cases h2 : b < v
    · rw [if_pos h2, if_neg (by omega)]
    · rw [if_neg h2, if_pos (by omega)]
theorem s_rule {h r f : Int} (h1 : 0 ≤ h) (h2 : h ≤ 4) (r1 : 0 ≤ r) (r2 : r ≤ 9) (f1 : 0 ≤ f) (f2 : f ≤ 29) : Ex sc d 211 0 [some (vR 373), some (vI h), some (vI r), some (vI f)] [] (wH σ u) Q ↔ Q (.inl (some (vI (σ 376 (30 * (10 * h + r) + f))))) (wH σ u) := by
  simp (disch := omega) only [x211_0, x211_1, x211_4, x211_6, x211_8, x211_9, x211_10, x211_11, x211_12, x211_13, x211_14, x211_15, x211_16, gM_rules, RM_rules]
end Ms
