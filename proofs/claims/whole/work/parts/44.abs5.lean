/-! bindings with a trail -/
def trL (g : Int → Int) : Nat → List Int
  | 0 => []
  | k + 1 => trL g k ++ [g k]
def bT (f g : Int → Int) (k : Nat) : Bd := fun v => if v ∈ trL g k then f v else -1
def TrOk (N : Int) (f g : Int → Int) (n : Nat) : Prop := (trL g n).Nodup ∧ (∀ v ∈ trL g n, 0 ≤ v ∧ v < N ∧ f v ≠ -1) ∧ ∀ v, 0 ≤ v → v < N → f v ≠ -1 → v ∈ trL g n
theorem trL_len {g : Int → Int} : ∀ n : Nat, (trL g n).length = n := by
  intro n
  induction n with
  | zero => rfl
  | succ n ih => rw [trL, List.length_append, ih]; rfl
theorem trL_congr {g g' : Int → Int} : ∀ n : Nat, (∀ i : Nat, i < n → g' i = g i) → trL g' n = trL g n := by
  intro n
  induction n with
  | zero => intro _; rfl
  | succ n ih => intro h; rw [trL, trL, ih (fun i hi => h i (by omega)), h n (by omega)]
theorem trL_mem {g : Int → Int} {v : Int} : ∀ n : Nat, v ∈ trL g n ↔ ∃ i : Nat, i < n ∧ g i = v := by
  intro n
  induction n with
  | zero => simp [trL]
  | succ n ih =>
    rw [trL, List.mem_append, ih, List.mem_singleton]
    constructor
    · rintro (⟨i, h1, h2⟩ | h)
      · exact ⟨i, by omega, h2⟩
      · exact ⟨n, by omega, h.symm⟩
    · rintro ⟨i, h1, h2⟩
      by_cases hi : i = n
      · subst hi
        exact Or.inr h2.symm
      · exact Or.inl ⟨i, by omega, h2⟩
theorem TrOk.in_ {N : Int} {f g : Int → Int} {n : Nat} (T : TrOk N f g n) {i : Nat} (hi : i < n) : 0 ≤ g i ∧ g i < N ∧ f (g i) ≠ -1 := T.2.1 _ ((trL_mem n).mpr ⟨i, hi, rfl⟩)
theorem iotaL (N : Nat) : ∀ v : Int, 0 ≤ v → v < N → v ∈ (List.range N).map (fun i : Nat => (i : Int)) := by
  intro v h0 h1
  rw [List.mem_map]
  exact ⟨v.toNat, List.mem_range.mpr (by omega), by omega⟩
theorem nodup_len9 : ∀ (l P : List Int), l.Nodup → (∀ x ∈ l, x ∈ P) → l.length ≤ P.length := by
  intro l
  induction l with
  | nil => intro P _ _; exact Nat.zero_le _
  | cons x l ih =>
    intro P h1 h2
    obtain ⟨h3, h4⟩ := List.nodup_cons.mp h1
    have h5 := h2 x List.mem_cons_self
    have := ih (P.erase x) h4 (fun y hy => by
      have hne : y ≠ x := fun e => h3 (e ▸ hy)
      exact (List.mem_erase_of_ne hne).mpr (h2 y (List.mem_cons_of_mem _ hy)))
    rw [List.length_erase_of_mem h5] at this
    have := List.length_pos_of_mem h5
    rw [List.length_cons]
    omega
theorem TrOk.le {N : Nat} {f g : Int → Int} {n : Nat} (T : TrOk N f g n) : n ≤ N := by
  have := nodup_len9 (trL g n) ((List.range N).map (fun i : Nat => (i : Int))) T.1 (fun x hx => iotaL N x (T.2.1 x hx).1 (T.2.1 x hx).2.1)
  rw [trL_len, List.length_map, List.length_range] at this
  exact this
theorem TrOk.room {N : Nat} {f g : Int → Int} {n : Nat} (T : TrOk N f g n) {v : Int} (h0 : 0 ≤ v) (h1 : v < N) (hv : f v = -1) : n < N := by
  have hn : v ∉ trL g n := fun h => (T.2.1 v h).2.2 hv
  have := nodup_len9 (v :: trL g n) ((List.range N).map (fun i : Nat => (i : Int))) (List.nodup_cons.mpr ⟨hn, T.1⟩) (fun x hx => by
    rcases List.mem_cons.mp hx with rfl | hx
    · exact iotaL N x h0 h1
    · exact iotaL N x (T.2.1 x hx).1 (T.2.1 x hx).2.1)
  rw [List.length_cons, trL_len, List.length_map, List.length_range] at this
  omega
theorem bT_nil {f g : Int → Int} : bT f g 0 = bd0 := by
  funext v
  unfold bT bd0 trL
  rw [if_neg (by simp)]
theorem TrOk.nil {N : Int} {f g : Int → Int} (h : ∀ v, 0 ≤ v → v < N → f v = -1) : TrOk N f g 0 := ⟨List.nodup_nil, (fun v hv => by cases hv), fun v h0 h1 hv => absurd (h v h0 h1) hv⟩
theorem TrOk.at_ {N : Int} {f g : Int → Int} {n : Nat} (T : TrOk N f g n) {v : Int} (h0 : 0 ≤ v) (h1 : v < N) : bT f g n v = f v := by
  unfold bT
  by_cases h : v ∈ trL g n
  · rw [if_pos h]
  · rw [if_neg h]
    by_cases h2 : f v = -1
    · exact h2.symm
    · exact absurd (T.2.2 v h0 h1 h2) h
theorem TrOk.bind {N : Int} {f g : Int → Int} {n : Nat} (T : TrOk N f g n) {v x : Int} (h0 : 0 ≤ v) (h1 : v < N) (hv : f v = -1) (hx : x ≠ -1) : TrOk N (iup f v x) (iup g n v) (n + 1) ∧ (∀ k, k ≤ n → bT (iup f v x) (iup g n v) k = bT f g k) ∧ bT (iup f v x) (iup g n v) (n + 1) = bup (bT f g n) v x := by
  have hn : v ∉ trL g n := fun h => (T.2.1 v h).2.2 hv
  have e0 : ∀ k, k ≤ n → trL (iup g n v) k = trL g k := fun k hk => trL_congr k (fun i hi => by unfold iup; rw [if_neg (by omega)])
  have e1 : trL (iup g n v) (n + 1) = trL g n ++ [v] := by
    rw [trL, e0 n (Nat.le_refl _)]
    unfold iup
    rw [if_pos rfl]
  have hk : ∀ k, k ≤ n → v ∉ trL g k := fun k hk h => by
    obtain ⟨i, h3, h4⟩ := (trL_mem k).mp h
    exact hn ((trL_mem n).mpr ⟨i, by omega, h4⟩)
  refine ⟨⟨?_, ?_, ?_⟩, ?_, ?_⟩
  · rw [e1, List.nodup_append]
    refine ⟨T.1, by simp, ?_⟩
    intro a ha b hb
    rw [List.mem_singleton.mp hb]
    intro e
    exact hn (e ▸ ha)
  · intro w hw
    rw [e1] at hw
    unfold iup
    by_cases hwv : w = v
    · subst hwv
      rw [if_pos rfl]
      exact ⟨h0, h1, hx⟩
    · rw [if_neg hwv]
      rcases List.mem_append.mp hw with h | h
      · exact T.2.1 w h
      · exact absurd (List.mem_singleton.mp h) hwv
  · intro w w0 w1 hw
    rw [e1, List.mem_append, List.mem_singleton]
    by_cases hwv : w = v
    · exact Or.inr hwv
    · unfold iup at hw
      rw [if_neg hwv] at hw
      exact Or.inl (T.2.2 w w0 w1 hw)
  · intro k hkn
    funext w
    unfold bT
    rw [e0 k hkn]
    by_cases h : w ∈ trL g k
    · rw [if_pos h, if_pos h]
      unfold iup
      rw [if_neg (fun e : w = v => hk k hkn (e ▸ h))]
    · rw [if_neg h, if_neg h]
  · funext w
    unfold bT bup
    rw [e1]
    by_cases hwv : w = v
    · rw [if_pos hwv, if_pos (by rw [hwv]; simp)]
      unfold iup
      rw [if_pos hwv]
    · rw [if_neg hwv]
      unfold iup
      rw [if_neg hwv]
      show _ = if w ∈ trL g n then f w else -1
      by_cases h : w ∈ trL g n
      · rw [if_pos h, if_pos (List.mem_append_left _ h)]
      · rw [if_neg h, if_neg (by rw [List.mem_append, List.mem_singleton]; rintro (z | z); exact h z; exact hwv z)]
theorem TrOk.undo {N : Int} {f g : Int → Int} {n : Nat} (T : TrOk N f g (n + 1)) : TrOk N (iup f (g n) (-1)) g n ∧ ∀ k, k ≤ n → bT (iup f (g n) (-1)) g k = bT f g k := by
  have h1 := T.1
  rw [trL, List.nodup_append] at h1
  have hk : ∀ k, k ≤ n → g n ∉ trL g k := fun k hk h => by
    obtain ⟨i, h3, h4⟩ := (trL_mem k).mp h
    exact h1.2.2 (g n) ((trL_mem n).mpr ⟨i, by omega, h4⟩) (g n) (List.mem_singleton.mpr rfl) rfl
  refine ⟨⟨h1.1, ?_, ?_⟩, ?_⟩
  · intro w hw
    unfold iup
    rw [if_neg (fun e : w = g n => hk n (Nat.le_refl _) (e ▸ hw))]
    exact T.2.1 w (by rw [trL]; exact List.mem_append_left _ hw)
  · intro w w0 w1 hw
    unfold iup at hw
    by_cases h : w = g n
    · rw [if_pos h] at hw
      exact absurd rfl hw
    · rw [if_neg h] at hw
      have := T.2.2 w w0 w1 hw
      rw [trL] at this
      rcases List.mem_append.mp this with z | z
      · exact z
      · exact absurd (List.mem_singleton.mp z) h
  · intro k hkn
    funext w
    unfold bT
    by_cases h : w ∈ trL g k
    · rw [if_pos h, if_pos h]
      unfold iup
      rw [if_neg (fun e : w = g n => hk k hkn (e ▸ h))]
    · rw [if_neg h, if_neg h]
