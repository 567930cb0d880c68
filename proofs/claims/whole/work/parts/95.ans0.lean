/-! answers, as functions of lists -/
def trm (ask : List Int) (β : Bd) (k : Nat) : Int := match ask[k]? with
  | some v => β v
  | none => 0
abbrev vOk (t : Int) : Prop := 0 ≤ t ∧ t < 100
def ansC (ask : List Int) (β : Bd) : Option Int := if vOk (trm ask β 0) ∧ vOk (trm ask β 1) ∧ vOk (trm ask β 2) then some ((trm ask β 0 * 100 + trm ask β 1) * 100 + trm ask β 2) else none
def ansF (ask : List Int) (l : List Int) (q : List Rw × Bd) : List Int := match ansC ask q.2 with
  | none => l
  | some c => insC l c
def ansL (ask : List Int) (H : Hts) : List Int := H.foldl (ansF ask) []
abbrev srtC (l : List Int) : Prop := l.Pairwise (· < ·)
theorem ansL_snoc {ask : List Int} {H : Hts} {q : List Rw × Bd} : ansL ask (H ++ [q]) = ansF ask (ansL ask H) q := by
  unfold ansL
  rw [List.foldl_append]
  rfl
theorem ansF_ok {ask l : List Int} {q : List Rw × Bd} (h : srtC l) (hr : ∀ c ∈ l, 0 ≤ c ∧ c < 1000000) : srtC (ansF ask l q) ∧ (∀ c ∈ ansF ask l q, 0 ≤ c ∧ c < 1000000) ∧ (ansF ask l q).length ≤ l.length + 1 := by
  unfold ansF ansC
  split
  · exact ⟨h, hr, Nat.le_succ _⟩
  · rename_i c hc
    split at hc
    · rename_i hv
      unfold vOk at hv
      cases hc
      refine ⟨ins_srt l h, fun c hc => ?_, ins_len l⟩
      rcases ins_mem l hc with rfl | hc
      · omega
      · exact hr c hc
    · cases hc
theorem ansL_ok {ask : List Int} : ∀ (H : Hts), srtC (ansL ask H) ∧ (∀ c ∈ ansL ask H, 0 ≤ c ∧ c < 1000000) ∧ (ansL ask H).length ≤ H.length := by
  intro H
  have : ∀ (n : Nat) (H : Hts), H.length = n → srtC (ansL ask H) ∧ (∀ c ∈ ansL ask H, 0 ≤ c ∧ c < 1000000) ∧ (ansL ask H).length ≤ H.length := by
    intro n
    induction n with
    | zero =>
      intro H h
      obtain rfl := List.length_eq_zero_iff.mp h
      exact ⟨List.Pairwise.nil, (fun c hc => by cases hc), Nat.le_refl _⟩
    | succ n ih =>
      intro H h
      obtain ⟨H', q, rfl⟩ : ∃ H' q, H = H' ++ [q] := ⟨H.dropLast, H.getLast (by intro e; rw [e] at h; cases h), (List.dropLast_concat_getLast _).symm⟩
      rw [List.length_append, List.length_singleton] at h
      obtain ⟨a, b, c⟩ := ih H' (by omega)
      obtain ⟨a', b', c'⟩ := ansF_ok (ask := ask) (q := q) a b
      rw [ansL_snoc]
      refine ⟨a', b', ?_⟩
      rw [List.length_append, List.length_singleton]
      omega
  exact this _ H rfl
/-- all answers come from hits -/
theorem ansL_mem {ask : List Int} {D H : Hts} (hs : ∀ q ∈ D, q ∈ H) : ∀ c ∈ ansL ask D, c ∈ H.filterMap (fun q => ansC ask q.2) := by
  have : ∀ (D : Hts) (l : List Int), (∀ q ∈ D, q ∈ H) → (∀ c ∈ l, c ∈ H.filterMap (fun q => ansC ask q.2)) → ∀ c ∈ D.foldl (ansF ask) l, c ∈ H.filterMap (fun q => ansC ask q.2) := by
    intro D
    induction D with
    | nil => intro l _ h; exact h
    | cons q D ih =>
      intro l h1 h2
      rw [List.foldl_cons]
      apply ih _ (fun x hx => h1 x (List.mem_cons_of_mem _ hx))
      intro c hc
      unfold ansF at hc
      split at hc
      · exact h2 c hc
      · rename_i e he
        rcases ins_mem l hc with rfl | hc
        · exact List.mem_filterMap.mpr ⟨q, h1 q List.mem_cons_self, he⟩
        · exact h2 c hc
  exact this D [] hs (fun c hc => by cases hc)
theorem ansL_le {ask : List Int} {D H : Hts} (hs : ∀ q ∈ D, q ∈ H) : (ansL ask D).length ≤ H.length := by
  have h1 := nodup_len9 (ansL ask D) (H.filterMap (fun q => ansC ask q.2)) ((ansL_ok D).1.imp (fun h => by omega)) (ansL_mem hs)
  exact Nat.le_trans h1 (List.length_filterMap_le _ _)
theorem ins_r1 {l : List Int} {e : Int} {k : Nat} (h1 : ∀ b ∈ l.drop k, e < b) (h2 : ∀ a ∈ l.take k, a < e) : insC l e = l.take k ++ e :: l.drop k := by
  conv => lhs; rw [← List.take_append_drop k l]
  exact ins_at _ _ h2 h1
theorem ins_r2 {e : Int} : ∀ l : List Int, srtC l → e ∈ l → insC l e = l := by
  intro l
  induction l with
  | nil => intro _ h; cases h
  | cons a t ih =>
    intro hs hm
    have hs' := List.pairwise_cons.mp hs
    rw [insC]
    rcases List.mem_cons.mp hm with rfl | hm
    · rw [if_neg (by omega), if_pos rfl]
    · have := hs'.1 e hm
      rw [if_pos this, ih hs'.2 hm]
theorem srtC_lt {l : List Int} (hs : srtC l) : ∀ {i j : Nat} {a b : Int}, l[i]? = some a → l[j]? = some b → i < j → a < b := by
  intro i j a b hi hj hij
  obtain ⟨i1, i2⟩ := List.getElem?_eq_some_iff.mp hi
  obtain ⟨j1, j2⟩ := List.getElem?_eq_some_iff.mp hj
  rw [← i2, ← j2]
  exact List.pairwise_iff_getElem.mp hs i j i1 j1 hij
theorem take_lt {l : List Int} (hs : srtC l) {k : Nat} {a e : Int} (hk : l[k]? = some a) (he : a < e) : ∀ x ∈ l.take (k + 1), x < e := by
  intro x hx
  obtain ⟨i, h1, h2⟩ := List.mem_iff_getElem.mp hx
  rw [List.length_take] at h1
  rw [List.getElem_take] at h2
  by_cases hik : i = k
  · subst hik
    rw [List.getElem?_eq_getElem (by omega)] at hk
    have := Option.some.inj hk
    omega
  · have := srtC_lt hs (i := i) (j := k) (List.getElem?_eq_getElem (by omega)) hk (by omega)
    omega
/-- a list as cells: each answer's three parts -/
def fnV (f : Int → Int) (l : List Int) : Prop := ∀ (i : Nat) (c : Int), l[i]? = some c → f (3 * i) = c / 10000 ∧ f (3 * i + 1) = c / 100 % 100 ∧ f (3 * i + 2) = c % 100
theorem fnV_ins {f g : Int → Int} {l : List Int} {k : Nat} {x y z : Int} (h : fnV f l) (hk : k ≤ l.length) (hx : vOk x) (hy : vOk y) (hz : vOk z) (hg : ∀ j : Int, 0 ≤ j → j < 3 * (l.length + 1) → g j = if j = 3 * k + 2 then z else if j = 3 * k + 1 then y else if j = 3 * k then x else if 3 * (k + 1) ≤ j then f (j - 3) else f j) : fnV g (l.take k ++ ((x * 100 + y) * 100 + z) :: l.drop k) := by
  unfold vOk at *
  intro i c hc
  have hl : (l.take k).length = k := by rw [List.length_take]; omega
  have hil := (List.getElem?_eq_some_iff.mp hc).1
  rw [List.length_append, List.length_cons, hl, List.length_drop] at hil
  rw [hg _ (by omega) (by omega), hg _ (by omega) (by omega), hg _ (by omega) (by omega)]
  by_cases h1 : i < k
  · rw [List.getElem?_append_left (by omega), List.getElem?_take_of_lt h1] at hc
    have := h i c hc
    simp (disch := omega) only [if_neg]
    exact this
  · rw [List.getElem?_append_right (by omega), hl] at hc
    by_cases h2 : i = k
    · subst h2
      rw [Nat.sub_self, List.getElem?_cons_zero] at hc
      cases hc
      simp (disch := omega) only [if_neg, if_pos, ↓reduceIte]
      omega
    · rw [show i - k = (i - k - 1) + 1 by omega, List.getElem?_cons_succ, List.getElem?_drop] at hc
      have := h _ c hc
      simp (disch := omega) only [if_neg, if_pos]
      have e : ((k + (i - k - 1) : Nat) : Int) = (i : Int) - 1 := by omega
      rw [e] at this
      rw [show 3 * (i : Int) - 3 = 3 * ((i : Int) - 1) by omega, show 3 * (i : Int) + 1 - 3 = 3 * ((i : Int) - 1) + 1 by omega, show 3 * (i : Int) + 2 - 3 = 3 * ((i : Int) - 1) + 2 by omega]
      exact this
