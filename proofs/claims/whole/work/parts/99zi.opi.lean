/-! names in rows are counted (reference) -/
def snS (σ : St) (s : Int → Int) : St := fun c => if c = 388 then s else σ c
theorem snS_ne {σ : St} {s : Int → Int} {c : Nat} (h : c ≠ 388) : snS σ s c = σ c := by unfold snS; rw [if_neg h]
theorem snS_at {σ : St} {s : Int → Int} : snS σ s 388 = s := by unfold snS; rw [if_pos rfl]
theorem snS_su {σ : St} {s : Int → Int} {i x : Int} : su (snS σ s) 388 i x = snS σ (bup s i x) := by
  funext c
  by_cases h : c = 388
  · subst h
    funext j
    rw [su_at, snS_at, snS_at]
    rfl
  · rw [su_ne h, snS_ne h, snS_ne h]
def mk1 (s : Int → Int) (x : Int) : Int → Int := if 1000 ≤ x then (if s (x - 1000) = 0 then bup s (x - 1000) 1 else s) else s
def mkR (s : Int → Int) (w : Rw) : Int → Int := mk1 (mk1 (mk1 s w.2.2.1) w.2.2.2.1) w.2.2.2.2
def s01 (s : Int → Int) : Prop := ∀ k, 0 ≤ k → k < 100 → s k = 0 ∨ s k = 1
theorem mk1_01 {s : Int → Int} {x : Int} (h : s01 s) : s01 (mk1 s x) := by
  intro k k0 k1
  unfold mk1
  split
  · split
    · unfold bup
      split
      · exact Or.inr rfl
      · exact h k k0 k1
    · exact h k k0 k1
  · exact h k k0 k1
theorem mk1_n {s : Int → Int} : mk1 s (-1) = s := by unfold mk1; rw [if_neg (by omega)]
theorem mk1_v {s : Int → Int} {x k : Int} (h : s01 s) (k0 : 0 ≤ k) (k1 : k < 100) : mk1 s x k = 1 ↔ x = 1000 + k ∨ s k = 1 := by
  have hk := h k k0 k1
  unfold mk1
  by_cases a : 1000 ≤ x
  · rw [if_pos a]
    by_cases b : s (x - 1000) = 0
    · rw [if_pos b]
      unfold bup
      by_cases e : k = x - 1000
      · rw [if_pos e]; exact ⟨fun _ => Or.inl (by omega), fun _ => rfl⟩
      · rw [if_neg e]; exact ⟨Or.inr, fun z => z.elim (fun q => by omega) id⟩
    · rw [if_neg b]
      refine ⟨Or.inr, fun z => z.elim (fun q => ?_) id⟩
      rw [show x - 1000 = k by omega] at b
      omega
  · rw [if_neg a]
    exact ⟨Or.inr, fun z => z.elim (fun q => by omega) id⟩
theorem mkR_v {k : Int} (k0 : 0 ≤ k) (k1 : k < 100) : ∀ (L : List Rw) (s : Int → Int), s01 s → s01 (L.foldl mkR s) ∧ (L.foldl mkR s k = 1 ↔ mtL L (1000 + k) = true ∨ s k = 1) := by
  intro L
  induction L with
  | nil => intro s h; exact ⟨h, ⟨Or.inr, fun z => z.elim (fun q => by cases q) id⟩⟩
  | cons w L ih =>
    intro s h
    have h1 := mk1_01 (x := w.2.2.1) h
    have h2 := mk1_01 (x := w.2.2.2.1) h1
    have h3 := mk1_01 (x := w.2.2.2.2) h2
    obtain ⟨i1, i2⟩ := ih (mkR s w) h3
    refine ⟨i1, ?_⟩
    rw [List.foldl_cons, i2]
    have e : mkR s w k = 1 ↔ w.2.2.2.2 = 1000 + k ∨ w.2.2.2.1 = 1000 + k ∨ w.2.2.1 = 1000 + k ∨ s k = 1 := by
      unfold mkR
      rw [mk1_v h2 k0 k1, mk1_v h1 k0 k1, mk1_v h k0 k1]
    rw [e]
    unfold mtL
    rw [List.any_cons, Bool.or_eq_true, decide_eq_true_eq]
    constructor
    · rintro (a | a | a | a | a)
      · exact Or.inl (Or.inr a)
      · exact Or.inl (Or.inl (Or.inr (Or.inr a)))
      · exact Or.inl (Or.inl (Or.inr (Or.inl a)))
      · exact Or.inl (Or.inl (Or.inl a))
      · exact Or.inr a
    · rintro ((a | a) | a)
      · rcases a with a | a | a
        · exact Or.inr (Or.inr (Or.inr (Or.inl a)))
        · exact Or.inr (Or.inr (Or.inl a))
        · exact Or.inr (Or.inl a)
      · exact Or.inl a
      · exact Or.inr (Or.inr (Or.inr (Or.inr a)))
theorem tabF_b {f g : Int → Int} : ∀ (k : Nat) (i : Int), (∀ j, i ≤ j → j < i + k → (0 < f j ↔ 0 < g j)) → tabF f k i = tabF g k i := by
  intro k
  induction k with
  | zero => intro i _; rfl
  | succ k ih =>
    intro i h
    rw [tabF, tabF, ih (i + 1) (fun j a b => h j (by omega) (by omega))]
    have := h i (by omega) (by omega)
    by_cases e : 0 < f i
    · rw [if_pos e, if_pos (this.mp e)]
    · rw [if_neg e, if_neg (fun z => e (this.mpr z))]
theorem ns_fold {L : List Rw} : tabF (L.foldl mkR (fun _ => 0)) 100 0 = nsL L := by
  unfold nsL
  refine tabF_b 100 0 (fun j a b => ?_)
  obtain ⟨h1, h2⟩ := mkR_v (k := j) a (by omega) L (fun _ => 0) (fun _ _ _ => Or.inl rfl)
  have := h1 j a (by omega)
  cases e : mtL L (1000 + j) with
  | true =>
    have := h2.mpr (Or.inl e)
    rw [this]
    exact ⟨fun _ => by decide, fun _ => by decide⟩
  | false =>
    have z : ¬ (L.foldl mkR (fun _ => 0) j = 1) := fun q => by
      rcases h2.mp q with q | q
      · rw [e] at q; cases q
      · omega
    rw [show L.foldl mkR (fun _ => 0) j = 0 by omega]
    exact ⟨fun q => by omega, fun q => absurd q (by decide)⟩
