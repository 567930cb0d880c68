/-! rows in order of their numbers; limits are numbers -/
theorem open_mem {r : Ru} {L : List Rw} : ∀ (H : Hts) (b : Option (List Rw)) (q : List Rw), H.foldl (openF r L) b = some q → b = some q ∨ ∃ β, (q, β) ∈ H ∧ fulfL r L β = false := by
  intro H
  induction H with
  | nil => intro b q h; exact Or.inl h
  | cons z H ih =>
    intro b q h
    rw [List.foldl_cons] at h
    rcases ih _ _ h with h | ⟨β, h1, h2⟩
    · unfold openF at h
      split at h
      · exact Or.inl h
      · rename_i hf
        have hf' : fulfL r L z.2 = false := by
          cases hz : fulfL r L z.2
          · rfl
          · exact absurd hz hf
        split at h
        · cases h
          exact Or.inr ⟨z.2, List.mem_cons_self, hf'⟩
        · split at h
          · exact Or.inl h
          · cases h
            exact Or.inr ⟨z.2, List.mem_cons_self, hf'⟩
    · exact Or.inr ⟨β, List.mem_cons_of_mem _ h1, h2⟩
theorem openL_mem {r : Ru} {L : List Rw} {q : List Rw} (h : openL r L = some q) : ∃ β, (q, β) ∈ hitsL L r.2.1 bd0 ∧ fulfL r L β = false := by
  rcases open_mem _ _ _ h with h | h
  · cases h
  · exact h
def srt (L : List Rw) : Prop := L.Pairwise fun a b => a.1 < b.1
theorem srt_filter : ∀ (L : List Rw) (k : Nat) (w : Rw), srt L → L[k]? = some w → L.filter (fun v => decide (v.1 < w.1)) = L.take k := by
  intro L
  induction L with
  | nil => intro k w _ h; simp at h
  | cons v L ih =>
    intro k w hs h
    obtain ⟨h1, h2⟩ := List.pairwise_cons.mp hs
    cases k with
    | zero =>
      rw [List.getElem?_cons_zero] at h
      cases h
      rw [List.take_zero, List.filter_eq_nil_iff]
      intro u hu
      rcases List.mem_cons.mp hu with rfl | hu
      · simp
      · have := h1 u hu
        simp only [decide_eq_true_eq]
        omega
    | succ k =>
      rw [List.getElem?_cons_succ] at h
      have := h1 w (List.mem_of_getElem? h)
      rw [List.filter_cons_of_pos (by simpa using this), ih k w h2 h, List.take_succ_cons]
theorem srt_get : ∀ (L : List Rw) (i j : Nat) (v w : Rw), srt L → L[i]? = some v → L[j]? = some w → (v.1 < w.1 ↔ i < j) := by
  intro L i j v w hs hi hj
  obtain ⟨h1, e1⟩ := List.getElem?_eq_some_iff.mp hi
  obtain ⟨h2, e2⟩ := List.getElem?_eq_some_iff.mp hj
  have hp := List.pairwise_iff_getElem.mp hs
  constructor
  · intro h
    rcases Nat.lt_trichotomy i j with q | q | q
    · exact q
    · subst q
      rw [hi] at hj
      cases hj
      omega
    · have := hp j i h2 h1 q
      rw [e1, e2] at this
      omega
  · intro q
    have := hp i j h1 h2 q
    rw [e1, e2] at this
    exact this
theorem srt_drop {L : List Rw} {k c : Nat} {w : Rw} (hs : srt L) (h : L[k]? = some w) : ((L.drop c).filter fun v => decide (v.1 < w.1)) = (L.take k).drop c := by
  by_cases hc : c ≤ k
  · have hs' : srt (L.drop c) := List.Pairwise.sublist (List.drop_sublist _ _) hs
    rw [srt_filter (L.drop c) (k - c) w hs' (by rw [List.getElem?_drop]; rw [← h]; congr 1; omega), ← List.drop_take]
  · have hk := (List.getElem?_eq_some_iff.mp h).1
    rw [List.drop_eq_nil_of_le (as := L.take k) (by rw [List.length_take]; omega), List.filter_eq_nil_iff]
    intro u hu
    obtain ⟨i, hi⟩ := List.mem_iff_getElem?.mp hu
    rw [List.getElem?_drop] at hi
    have := (srt_get L k (c + i) w u hs h hi).mpr (by omega)
    simp only [decide_eq_true_eq]
    omega
theorem srt_take {L : List Rw} {k : Nat} (h : srt L) : srt (L.take k) := List.Pairwise.sublist (List.take_sublist _ _) h
theorem srt_map {L : List Rw} {f : Rw → Rw} (hf : ∀ w, (f w).1 = w.1) (h : srt L) : srt (L.map f) := by
  unfold srt at *
  rw [List.pairwise_map]
  exact h.imp fun {a b} hab => by rw [hf, hf]; exact hab
theorem ddF_sublist : ∀ (L : List Rw) (S : List At), (ddF S L).Sublist L := by
  intro L
  induction L with
  | nil => intro S; exact List.Sublist.refl _
  | cons w t ih =>
    intro S
    rw [ddF]
    split
    · exact (ih S).cons _
    · exact (ih _).cons_cons _
theorem srt_dd {L : List Rw} {S : List At} (h : srt L) : srt (ddF S L) := List.Pairwise.sublist (ddF_sublist L S) h
theorem addL_eq : ∀ (P : List At) (L : List Rw) (n : Int), ∃ M, addL L n P = L ++ M ∧ M.length = P.length ∧ (∀ (i : Nat) (g : At), P[i]? = some g → M[i]? = some (n + i, g)) := by
  intro P
  induction P with
  | nil => intro L n; exact ⟨[], by simp [addL], rfl, fun i g h => by simp at h⟩
  | cons p P ih =>
    intro L n
    obtain ⟨M, e1, e2, e3⟩ := ih (L ++ [(n, p)]) (n + 1)
    refine ⟨(n, p) :: M, ?_, by simp [e2], fun i g h => ?_⟩
    · rw [addL, e1, List.append_assoc]
      rfl
    · cases i with
      | zero =>
        rw [List.getElem?_cons_zero] at h ⊢
        cases h
        simp
      | succ i =>
        rw [List.getElem?_cons_succ] at h ⊢
        rw [e3 i g h]
        congr 2
        push_cast
        omega
theorem srt_app {L : List Rw} {n : Int} {g : At} (h : srt L) (hn : ∀ w ∈ L, w.1 < n) : srt (L ++ [(n, g)]) := by
  unfold srt
  rw [List.pairwise_append]
  refine ⟨h, List.pairwise_singleton _ _, fun a ha b hb => ?_⟩
  rw [List.mem_singleton.mp hb]
  exact hn a ha
theorem srt_add : ∀ (P : List At) (L : List Rw) (n : Int), srt L → (∀ w ∈ L, w.1 < n) → srt (addL L n P) ∧ ∀ w ∈ addL L n P, w.1 < n + P.length := by
  intro P
  induction P with
  | nil => intro L n h hn; exact ⟨h, fun w hw => by have := hn w hw; simp; omega⟩
  | cons p P ih =>
    intro L n h hn
    rw [addL]
    obtain ⟨a, b⟩ := ih (L ++ [(n, p)]) (n + 1) (srt_app h hn) (fun w hw => by
      rcases List.mem_append.mp hw with h | h
      · have := hn w h; omega
      · rw [List.mem_singleton.mp h]; show n < n + 1; omega)
    exact ⟨a, fun w hw => by have := b w hw; rw [List.length_cons]; push_cast; omega⟩
/-- the edges of rules -/
def plN (a : At) (c : Nat) : Int := if c = 0 then a.2.1 else if c = 1 then a.2.2.1 else a.2.2.2
def EgR (rs : List Ru) : Int → Int → Int → Prop := fun x y k => ∃ r ∈ rs, r.1 = 0 ∧ ∃ a ∈ r.2.1, ∃ c : Nat, c < 3 ∧ x = 3 * a.1 + c ∧ 2000 ≤ plN a c ∧ mentL r.2.2.1 (plN a c) = true ∧ ∃ b ∈ r.2.2.1, ∃ e : Nat, e < 3 ∧ y = 3 * b.1 + e ∧ ((plN b e = plN a c ∧ k = 0) ∨ (2000 ≤ plN b e ∧ mentL r.2.1 (plN b e) = false ∧ k = 1))
theorem EgR_01 {rs : List Ru} {x y k : Int} (h : EgR rs x y k) : k = 0 ∨ k = 1 := by
  obtain ⟨r, _, _, a, _, c, _, _, _, _, b, _, e, _, _, h⟩ := h
  rcases h with h | h
  · exact Or.inl h.2
  · exact Or.inr h.2.2
theorem ins_at {c : Int} : ∀ (A B : List Int), (∀ a ∈ A, a < c) → (∀ b ∈ B, c < b) → insC (A ++ B) c = A ++ c :: B := by
  intro A
  induction A with
  | nil =>
    intro B _ h
    cases B with
    | nil => rfl
    | cons b B =>
      have := h b List.mem_cons_self
      rw [List.nil_append, insC, if_neg (by omega), if_neg (by omega)]
      rfl
  | cons a A ih =>
    intro B h1 h2
    have := h1 a List.mem_cons_self
    rw [List.cons_append, insC, if_pos this, ih B (fun x hx => h1 x (List.mem_cons_of_mem _ hx)) h2]
    rfl
theorem ins_in {c : Int} : ∀ (A B : List Int), (∀ a ∈ A, a < c) → insC (A ++ c :: B) c = A ++ c :: B := by
  intro A
  induction A with
  | nil =>
    intro B _
    rw [List.nil_append, insC, if_neg (by omega), if_pos rfl]
  | cons a A ih =>
    intro B h1
    have := h1 a List.mem_cons_self
    rw [List.cons_append, insC, if_pos this, ih B (fun x hx => h1 x (List.mem_cons_of_mem _ hx))]
theorem ins_mem {c x : Int} : ∀ l : List Int, x ∈ insC l c → x = c ∨ x ∈ l := by
  intro l
  induction l with
  | nil => intro h; exact Or.inl (List.mem_singleton.mp h)
  | cons a l ih =>
    intro h
    rw [insC] at h
    split at h
    · rcases List.mem_cons.mp h with rfl | h
      · exact Or.inr List.mem_cons_self
      · rcases ih h with rfl | h
        · exact Or.inl rfl
        · exact Or.inr (List.mem_cons_of_mem _ h)
    · split at h
      · exact Or.inr h
      · rcases List.mem_cons.mp h with rfl | h
        · exact Or.inl rfl
        · exact Or.inr h
theorem ins_srt {c : Int} : ∀ l : List Int, l.Pairwise (· < ·) → (insC l c).Pairwise (· < ·) := by
  intro l
  induction l with
  | nil => intro _; exact List.pairwise_singleton _ _
  | cons a l ih =>
    intro h
    obtain ⟨h1, h2⟩ := List.pairwise_cons.mp h
    rw [insC]
    split
    · rename_i hc
      refine List.pairwise_cons.mpr ⟨fun x hx => ?_, ih h2⟩
      rcases ins_mem l hx with rfl | hx
      · exact hc
      · exact h1 x hx
    · split
      · exact h
      · rename_i h3 h4
        refine List.pairwise_cons.mpr ⟨fun x hx => ?_, h⟩
        rcases List.mem_cons.mp hx with rfl | hx
        · omega
        · have := h1 x hx
          omega
theorem ins_len {c : Int} : ∀ l : List Int, (insC l c).length ≤ l.length + 1 := by
  intro l
  induction l with
  | nil => exact Nat.le_refl _
  | cons a l ih =>
    rw [insC]
    split
    · rw [List.length_cons, List.length_cons]; omega
    · split
      · omega
      · simp
