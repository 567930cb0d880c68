/-! the class's rows, atoms, rules, halls as lists -/
def rwC (σ : St) (r : Nat) (p : Int) : Rw := (σ (r + 1) p, σ (r + 2) p, σ (r + 3) (p * 3), σ (r + 3) (p * 3 + 1), σ (r + 3) (p * 3 + 2))
def rcF (σ : St) (r : Nat) : Nat → Int → List Rw
  | 0, _ => []
  | k + 1, p => rwC σ r p :: rcF σ r k (p + 1)
def rsC (σ : St) (r : Nat) : List Rw := rcF σ r (σ r 0).toNat 0
def atK (σ : St) (a : Nat) (i : Int) : At := (σ (a + 1) i, σ (a + 2) (i * 3), σ (a + 2) (i * 3 + 1), σ (a + 2) (i * 3 + 2))
def akF (σ : St) (a : Nat) : Nat → Int → List At
  | 0, _ => []
  | k + 1, i => atK σ a i :: akF σ a k (i + 1)
def asC (σ : St) (a : Nat) : List At := akF σ a (σ a 0).toNat 0
def ruC (σ : St) (a : Nat) : Ru := (σ a 0, asC σ (a + 1), asC σ (a + 4), σ a 3, σ a 4)
def rkF (σ : St) (b : Nat) : Nat → Nat → List Ru
  | 0, _ => []
  | k + 1, i => ruC σ (b + 14 + 7 * i) :: rkF σ b k (i + 1)
def rlC (σ : St) (b : Nat) : List Ru := rkF σ b (σ b 1).toNat 0
def coC (σ : St) (b : Nat) : Int → Int := fun t => if 0 ≤ t ∧ t ≤ 25 then σ (b + 1) t else 0
def naC (σ : St) (r : Nat) : Int → Int := fun k => if 0 ≤ k ∧ k ≤ 99 then σ (r + 4) k else 0
def skF (σ : St) (l : Nat) : Nat → Int → List (List Int)
  | 0, _ => []
  | k + 1, i => [σ (l + 1) (i * 7), σ (l + 1) (i * 7 + 1), σ (l + 1) (i * 7 + 2), σ (l + 1) (i * 7 + 3), σ (l + 1) (i * 7 + 4), σ (l + 1) (i * 7 + 5), σ (l + 1) (i * 7 + 6)] :: skF σ l k (i + 1)
def stC (σ : St) (l : Nat) : List (List Int) := skF σ l (σ l 1).toNat 0
def byC (σ : St) (l : Nat) : Int → Int := fun n => if 0 ≤ n ∧ n ≤ 199 then σ (l + 2) n else -1
def rnC (σ : St) (b : Nat) : Rn := (rsC σ (b + 3), σ (b + 3) 1, naC σ (b + 3), stC σ (b + 8), byC σ (b + 8))
def hlC (σ : St) (b : Nat) : Hl := (coC σ b, rlC σ b, σ (b + 8) 0, rnC σ b)
/-- what the class's numbers may be -/
def WfRo (σ : St) (r : Nat) : Prop := (0 ≤ σ r 0 ∧ σ r 0 ≤ 40) ∧ (0 ≤ σ r 1 ∧ σ r 1 ≤ 200) ∧ (∀ p, 0 ≤ p → p < 40 → (0 ≤ σ (r + 1) p ∧ σ (r + 1) p ≤ 199) ∧ (0 ≤ σ (r + 2) p ∧ σ (r + 2) p ≤ 25)) ∧ (∀ i, 0 ≤ i → i < 120 → -1 ≤ σ (r + 3) i ∧ σ (r + 3) i ≤ 1099) ∧ ∀ k, 0 ≤ k → k < 100 → σ (r + 4) k = 0 ∨ σ (r + 4) k = 1
def WfAt (σ : St) (a : Nat) : Prop := (0 ≤ σ a 0 ∧ σ a 0 ≤ 3) ∧ (∀ i, 0 ≤ i → i < 3 → 0 ≤ σ (a + 1) i ∧ σ (a + 1) i ≤ 25) ∧ ∀ i, 0 ≤ i → i < 9 → -1 ≤ σ (a + 2) i ∧ σ (a + 2) i ≤ 2025
def WfRu (σ : St) (a : Nat) : Prop := (0 ≤ σ a 0 ∧ σ a 0 ≤ 2) ∧ (-1 ≤ σ a 3 ∧ σ a 3 ≤ 2025) ∧ (-1 ≤ σ a 4 ∧ σ a 4 ≤ 2025) ∧ WfAt σ (a + 1) ∧ WfAt σ (a + 4)
def WfLo (σ : St) (l : Nat) : Prop := (0 ≤ σ l 0 ∧ σ l 0 ≤ 3) ∧ (0 ≤ σ l 1 ∧ σ l 1 ≤ 100) ∧ (∀ i, 0 ≤ i → i < 700 → -1 ≤ σ (l + 1) i ∧ σ (l + 1) i ≤ 1099) ∧ ∀ n, 0 ≤ n → n < 200 → -1 ≤ σ (l + 2) n ∧ σ (l + 2) n ≤ 100
def WfHa (σ : St) (b : Nat) : Prop := (0 ≤ σ b 0 ∧ σ b 0 ≤ 26) ∧ (0 ≤ σ b 1 ∧ σ b 1 ≤ 10) ∧ (∀ t, 0 ≤ t → t < 26 → 0 ≤ σ (b + 1) t ∧ σ (b + 1) t ≤ 3) ∧ WfRo σ (b + 3) ∧ WfLo σ (b + 8) ∧ WfAt σ (b + 11) ∧ ∀ k : Nat, k ≤ 9 → WfRu σ (b + 14 + 7 * k)
theorem rcF_len {σ : St} {r : Nat} : ∀ (k : Nat) (p : Int), (rcF σ r k p).length = k := by
  intro k
  induction k with
  | zero => intro p; rfl
  | succ k ih => intro p; rw [rcF, List.length_cons, ih]
theorem rcF_get {σ : St} {r : Nat} : ∀ (k : Nat) (p : Int) (i : Nat), i < k → (rcF σ r k p)[i]? = some (rwC σ r (p + i)) := by
  intro k
  induction k with
  | zero => intro p i hi; omega
  | succ k ih =>
    intro p i hi
    rw [rcF]
    cases i with
    | zero => rw [List.getElem?_cons_zero, Int.natCast_zero, Int.add_zero]
    | succ i =>
      rw [List.getElem?_cons_succ, ih (p + 1) i (by omega)]
      congr 2
      omega
theorem rsC_len {σ : St} {r : Nat} (h : 0 ≤ σ r 0) : ((rsC σ r).length : Int) = σ r 0 := by
  unfold rsC
  rw [rcF_len]
  omega
theorem rsC_get {σ : St} {r : Nat} {p : Int} (h0 : 0 ≤ p) (h1 : p < σ r 0) : (rsC σ r)[p.toNat]? = some (rwC σ r p) := by
  unfold rsC
  rw [rcF_get _ _ _ (by omega), Int.zero_add, Int.toNat_of_nonneg h0]
theorem rcF_ext {σ τ : St} {r r' : Nat} : ∀ (k : Nat) (p : Int), (∀ i, p ≤ i → i < p + k → rwC τ r' i = rwC σ r i) → rcF τ r' k p = rcF σ r k p := by
  intro k
  induction k with
  | zero => intro p _; rfl
  | succ k ih => intro p H; rw [rcF, rcF, H p (by omega) (by omega), ih (p + 1) (fun i i0 i1 => H i (by omega) (by omega))]
theorem rcF_snoc {σ : St} {r : Nat} : ∀ (k : Nat) (p : Int), rcF σ r (k + 1) p = rcF σ r k p ++ [rwC σ r (p + k)] := by
  intro k
  induction k with
  | zero => intro p; rw [rcF, rcF, rcF, Int.natCast_zero, Int.add_zero, List.nil_append]
  | succ k ih =>
    intro p
    rw [rcF, ih (p + 1), rcF, List.cons_append]
    congr 4
    omega
theorem akF_len {σ : St} {r : Nat} : ∀ (k : Nat) (p : Int), (akF σ r k p).length = k := by
  intro k
  induction k with
  | zero => intro p; rfl
  | succ k ih => intro p; rw [akF, List.length_cons, ih]
theorem akF_get {σ : St} {r : Nat} : ∀ (k : Nat) (p : Int) (i : Nat), i < k → (akF σ r k p)[i]? = some (atK σ r (p + i)) := by
  intro k
  induction k with
  | zero => intro p i hi; omega
  | succ k ih =>
    intro p i hi
    rw [akF]
    cases i with
    | zero => rw [List.getElem?_cons_zero, Int.natCast_zero, Int.add_zero]
    | succ i =>
      rw [List.getElem?_cons_succ, ih (p + 1) i (by omega)]
      congr 2
      omega
theorem akF_ext {σ τ : St} {r r' : Nat} : ∀ (k : Nat) (p : Int), (∀ i, p ≤ i → i < p + k → atK τ r' i = atK σ r i) → akF τ r' k p = akF σ r k p := by
  intro k
  induction k with
  | zero => intro p _; rfl
  | succ k ih => intro p H; rw [akF, akF, H p (by omega) (by omega), ih (p + 1) (fun i i0 i1 => H i (by omega) (by omega))]
theorem akF_snoc {σ : St} {r : Nat} : ∀ (k : Nat) (p : Int), akF σ r (k + 1) p = akF σ r k p ++ [atK σ r (p + k)] := by
  intro k
  induction k with
  | zero => intro p; rw [akF, akF, akF, Int.natCast_zero, Int.add_zero, List.nil_append]
  | succ k ih =>
    intro p
    rw [akF, ih (p + 1), akF, List.cons_append]
    congr 4
    omega
theorem asC_len {σ : St} {r : Nat} (h : 0 ≤ σ r 0) : ((asC σ r).length : Int) = σ r 0 := by
  unfold asC
  rw [akF_len]
  omega
theorem asC_get {σ : St} {r : Nat} {p : Int} (h0 : 0 ≤ p) (h1 : p < σ r 0) : (asC σ r)[p.toNat]? = some (atK σ r p) := by
  unfold asC
  rw [akF_get _ _ _ (by omega), Int.zero_add, Int.toNat_of_nonneg h0]
theorem asC_drop {σ : St} {r : Nat} {p : Int} (h0 : 0 ≤ p) (h1 : p ≤ σ r 0) : (asC σ r).drop p.toNat = akF σ r (σ r 0 - p).toNat p := by
  have : ∀ (i k : Nat) (p : Int), (akF σ r (i + k) p).drop i = akF σ r k (p + i) := by
    intro i
    induction i with
    | zero => intro k p; rw [List.drop_zero, Nat.zero_add, Int.natCast_zero, Int.add_zero]
    | succ i ih =>
      intro k p
      rw [Nat.succ_add, akF, List.drop_succ_cons, ih k (p + 1)]
      congr 1
      omega
  unfold asC
  rw [show (σ r 0).toNat = p.toNat + (σ r 0 - p).toNat by omega, this]
  congr 1
  omega
/-- the first place where it is so -/
def posF (f : Rw → Bool) : List Rw → Int → Int
  | [], _ => -1
  | w :: t, p => if f w = true then p else posF f t (p + 1)
theorem pos_find {L : List Rw} {g : At} : (posF (fun w => decide (w.2 = g)) L 0 = -1 ↔ findL L g = none) := by
  have : ∀ (L : List Rw) (p : Int), 0 ≤ p → (posF (fun w => decide (w.2 = g)) L p = -1 ↔ findL L g = none) := by
    intro L
    induction L with
    | nil => intro p _; exact ⟨fun _ => rfl, fun _ => rfl⟩
    | cons w L ih =>
      intro p hp
      rw [posF, findL]
      by_cases h : w.2 = g
      · rw [if_pos (by simpa using h), List.find?_cons_of_pos (by simpa using h)]
        constructor
        · intro z; omega
        · intro z; cases z
      · rw [if_neg (by simpa using h), List.find?_cons_of_neg (by simpa using h)]
        exact ih (p + 1) (by omega)
  exact this L 0 (by omega)
theorem pos_some {f : Rw → Bool} : ∀ (L : List Rw) (p q : Int), posF f L p = q → q ≠ -1 → p ≤ q ∧ q < p + L.length ∧ ∃ w, L[(q - p).toNat]? = some w ∧ f w = true ∧ ∀ (i : Nat) (v : Rw), i < (q - p).toNat → L[i]? = some v → f v = false := by
  intro L
  induction L with
  | nil => intro p q h hq; exact absurd h.symm hq
  | cons w L ih =>
    intro p q h hq
    rw [posF] at h
    by_cases hf : f w = true
    · rw [if_pos hf] at h
      subst h
      refine ⟨by omega, by rw [List.length_cons]; omega, w, ?_, hf, fun i v hi => by omega⟩
      rw [Int.sub_self]
      rfl
    · rw [if_neg hf] at h
      obtain ⟨a, b, v, e1, e2, e3⟩ := ih (p + 1) q h hq
      have es : (q - p).toNat = (q - (p + 1)).toNat + 1 := by omega
      refine ⟨by omega, by rw [List.length_cons]; omega, v, ?_, e2, fun i u hi hu => ?_⟩
      · rw [es, List.getElem?_cons_succ]
        exact e1
      · cases i with
        | zero =>
          rw [List.getElem?_cons_zero] at hu
          cases hu
          simpa using hf
        | succ i =>
          rw [List.getElem?_cons_succ] at hu
          exact e3 i u (by omega) hu
/-- found, and the number there -/
theorem pos_num {L : List Rw} {g : At} {q : Int} (h : posF (fun w => decide (w.2 = g)) L 0 = q) (hq : q ≠ -1) : ∃ w, L[q.toNat]? = some w ∧ findL L g = some w := by
  have : ∀ (L : List Rw) (p : Int), posF (fun w => decide (w.2 = g)) L p = q → q ≠ -1 → ∃ w, L[(q - p).toNat]? = some w ∧ findL L g = some w := by
    intro L
    induction L with
    | nil => intro p h hq; exact absurd h.symm hq
    | cons w L ih =>
      intro p h hq
      rw [posF] at h
      unfold findL
      by_cases hf : w.2 = g
      · rw [if_pos (by simpa using hf)] at h
        subst h
        refine ⟨w, by rw [Int.sub_self]; rfl, ?_⟩
        rw [List.find?_cons_of_pos (by simpa using hf)]
      · rw [if_neg (by simpa using hf)] at h
        obtain ⟨v, e1, e2⟩ := ih (p + 1) h hq
        have hp := (pos_some L (p + 1) q h hq).1
        refine ⟨v, ?_, ?_⟩
        · rw [show (q - p).toNat = (q - (p + 1)).toNat + 1 by omega, List.getElem?_cons_succ]
          exact e1
        · rw [List.find?_cons_of_neg (by simpa using hf)]
          exact e2
  have e := this L 0 h hq
  rw [Int.sub_zero] at e
  exact e
