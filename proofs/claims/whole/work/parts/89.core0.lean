/-! cores, as functions of lists; what leads of the class and of the reference share -/
theorem ok_lieT {C1 C2 : Int → Int} {w v : Rw} (hw : okW C1 w) (hv : okW C2 v) (ht : w.2.1 = v.2.1) (hc : C2 w.2.1 = C1 w.2.1) : (1000 ≤ w.2.2.1 → v.2.2.1 ≠ -1) ∧ (1000 ≤ w.2.2.2.1 → v.2.2.2.1 ≠ -1) ∧ (1000 ≤ w.2.2.2.2 → v.2.2.2.2 ≠ -1) := by
  obtain ⟨a1, a2, a3, X, Y, Z, hX, hY, hZ, e⟩ := hw
  obtain ⟨b1, b2, b3, X', Y', Z', hX', hY', hZ', e'⟩ := hv
  rw [← ht, hc] at e'
  rw [e, e', nrm_1, nrm_1, nrm_2, nrm_2, nrm_3, nrm_3]
  have x1 := isTm_ne hX'
  have x2 := isTm_ne hY'
  have x3 := isTm_ne hZ'
  refine ⟨fun _ => x1.1, fun h => ?_, fun h => ?_⟩
  · split at h
    · rename_i z
      rw [if_pos z]
      exact x2.1
    · omega
  · split at h
    · rename_i z
      rw [if_pos z]
      exact x3.1
    · omega
theorem tgF_all : ∀ (l : List Rw) (p : Int), 0 ≤ p → tgF (-1) l p = l := by
  intro l
  induction l with
  | nil => intro p _; rfl
  | cons w l ih =>
    intro p p0
    rw [tgF, if_neg (by omega), ih (p + 1) (by omega)]
theorem tgC_all {σ : St} {r : Nat} : tgC (-1) σ r 0 = rsC σ r := by
  unfold tgC rsC
  rw [tgF_all _ _ (Int.le_refl _), Int.sub_zero]
theorem tgF_filter : ∀ (l : List Rw) (p wo : Int) (w : Rw), 0 ≤ p → srt l → p ≤ wo → l[(wo - p).toNat]? = some w → tgF wo l p = l.filter (fun v => decide (v.1 ≠ w.1)) := by
  intro l
  induction l with
  | nil => intro p wo w _ _ _ h; cases h
  | cons v l ih =>
    intro p wo w p0 hs hp h
    have hs' := List.pairwise_cons.mp hs
    rw [tgF]
    by_cases e : p = wo
    · subst e
      rw [Int.sub_self] at h
      have hv : v = w := by
        rw [show (0 : Int).toNat = 0 from rfl, List.getElem?_cons_zero] at h
        exact Option.some.inj h
      subst hv
      rw [if_pos rfl, List.filter_cons_of_neg (by simp)]
      have rest : ∀ (m : List Rw) (q : Int), p < q → tgF p m q = m := by
        intro m
        induction m with
        | nil => intro q _; rfl
        | cons x m ihm => intro q hq; rw [tgF, if_neg (by omega), ihm (q + 1) (by omega)]
      rw [rest l (p + 1) (by omega)]
      symm
      rw [List.filter_eq_self]
      intro x hx
      have := hs'.1 x hx
      simp
      omega
    · rw [show (wo - p).toNat = (wo - (p + 1)).toNat + 1 by omega, List.getElem?_cons_succ] at h
      have hm := List.mem_of_getElem? h
      have := hs'.1 w hm
      rw [if_neg e, List.filter_cons_of_pos (by simp; omega), ih (p + 1) wo w (by omega) hs'.2 (by omega) h]
theorem tgC_filter {σ : St} {r : Nat} {wo : Int} {w : Rw} (hs : srt (rsC σ r)) (h0 : 0 ≤ wo) (h : (rsC σ r)[wo.toNat]? = some w) : tgC wo σ r 0 = (rsC σ r).filter (fun v => decide (v.1 ≠ w.1)) := by
  unfold tgC
  rw [Int.sub_zero]
  exact tgF_filter _ 0 wo w (Int.le_refl _) hs h0 (by rw [Int.sub_zero]; exact h)
theorem rch_iff {f : Int → Int} {p : Int} : ∀ (k : Nat) (i : Int), rchF f p k i = true ↔ ∃ j : Nat, j < k ∧ f (i + j) = p := by
  intro k
  induction k with
  | zero => intro i; simp [rchF]
  | succ k ih =>
    intro i
    rw [rchF]
    split
    · rename_i h
      exact ⟨fun _ => ⟨0, by omega, by rw [Int.natCast_zero, Int.add_zero]; exact h⟩, fun _ => rfl⟩
    · rename_i h
      rw [ih]
      constructor
      · rintro ⟨j, h1, h2⟩
        refine ⟨j + 1, by omega, ?_⟩
        rw [show i + ((j + 1 : Nat) : Int) = i + 1 + j by omega]
        exact h2
      · rintro ⟨j, h1, h2⟩
        cases j with
        | zero => rw [Int.natCast_zero, Int.add_zero] at h2; exact absurd h2 h
        | succ j =>
          refine ⟨j, by omega, ?_⟩
          rw [show i + 1 + (j : Int) = i + ((j + 1 : Nat) : Int) by omega]
          exact h2
theorem erase_take {L X : List Rw} {p : Nat} (h : p < L.length) : (L.take (p + 1) ++ X).eraseIdx p = L.take p ++ X := by
  have hl : (L.take p).length = p := by rw [List.length_take]; omega
  rw [List.take_add_one, List.append_assoc]
  conv => lhs; arg 2; rw [← hl]
  rw [List.eraseIdx_append_of_length_le (by rw [hl]; exact Nat.le_refl _)]
  congr 1
  rw [hl, Nat.sub_self, List.getElem?_eq_getElem h]
  rfl
theorem shr_sub {C : Int → Int} {L : List Rw} : ∀ S : List Rw, ∀ w ∈ (shrF C L S).2, w ∈ L := by
  intro S
  induction S with
  | nil => intro w hw; exact hw
  | cons v S ih =>
    intro w hw
    rw [shrF] at hw
    split at hw
    · exact ih w hw
    · split at hw
      · exact (List.mem_filter.mp hw).1
      · exact hw
theorem shr_sublist {C : Int → Int} {L : List Rw} : ∀ S : List Rw, (shrF C L S).2.Sublist L := by
  intro S
  induction S with
  | nil => exact List.Sublist.refl _
  | cons v S ih =>
    rw [shrF]
    split
    · exact ih
    · split
      · exact List.filter_sublist
      · exact List.Sublist.refl _
theorem shr_012 {C : Int → Int} {L : List Rw} : ∀ S : List Rw, (shrF C L S).1 = 0 ∨ (shrF C L S).1 = 1 ∨ (shrF C L S).1 = 2 := by
  intro S
  induction S with
  | nil => exact Or.inl rfl
  | cons v S ih =>
    rw [shrF]
    split
    · exact ih
    · split
      · exact Or.inr (Or.inl rfl)
      · exact Or.inr (Or.inr rfl)
theorem shr_same {C : Int → Int} {L : List Rw} : ∀ S : List Rw, (shrF C L S).1 ≠ 1 → (shrF C L S).2 = L := by
  intro S
  induction S with
  | nil => intro _; rfl
  | cons v S ih =>
    rw [shrF]
    split
    · exact ih
    · split
      · intro h; exact absurd rfl h
      · intro _; rfl
theorem core_sublist {C : Int → Int} : ∀ (n : Nat) (L M : List Rw), coreF C n L = some M → M.Sublist L := by
  intro n
  induction n with
  | zero => intro L M h; cases h; exact List.Sublist.refl _
  | succ n ih =>
    intro L M h
    rw [coreF] at h
    split at h
    · cases h; exact List.Sublist.refl _
    · split at h
      · exact (ih _ _ h).trans (shr_sublist L)
      · cases h
theorem okS_sub {C : Int → Int} {s : Rn} {M : List Rw} (h : okS C s) (hm : M.Sublist s.1) : okS C (M, s.2) := by
  obtain ⟨a, b, c, e, f, g, k⟩ := h
  exact ⟨fun w hw => a w (hm.subset hw), List.Pairwise.sublist hm b, fun w hw => c w (hm.subset hw), e, Nat.le_trans hm.length_le f, g, fun w hw => k w (hm.subset hw)⟩
