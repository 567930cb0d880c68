/-! rows of the class after one was added, or went, or terms melted -/
/-- only rows r change -/
def FrR (r : Nat) (σ τ : St) : Prop := ∀ c, c < r ∨ r + 4 < c → τ c = σ c
theorem FrR.refl {r : Nat} {σ : St} : FrR r σ σ := fun _ _ => rfl
theorem FrR.trans {r : Nat} {σ τ ρ : St} (h1 : FrR r σ τ) (h2 : FrR r τ ρ) : FrR r σ ρ := fun c h => (h2 c h).trans (h1 c h)
section C52
variable {σ : St} {r : Nat} {t x y z p : Int}
theorem adS_r : FrR r σ (adS σ r t x y z) ∧ (∀ j, adS σ r t x y z r j = if j = 1 then σ r 1 + 1 else if j = 0 then σ r 0 + 1 else σ r j) ∧ (∀ j, adS σ r t x y z (r + 1) j = if j = σ r 0 then σ r 1 else σ (r + 1) j) ∧ (∀ j, adS σ r t x y z (r + 2) j = if j = σ r 0 then t else σ (r + 2) j) ∧ (∀ j, adS σ r t x y z (r + 3) j = if j = σ r 0 * 3 + 2 then z else if j = σ r 0 * 3 + 1 then y else if j = σ r 0 * 3 then x else σ (r + 3) j) ∧ ∀ j, adS σ r t x y z (r + 4) j = if (1000 ≤ z ∧ z ≤ 1099 ∧ j = z - 1000) ∨ (1000 ≤ y ∧ y ≤ 1099 ∧ j = y - 1000) ∨ (1000 ≤ x ∧ x ≤ 1099 ∧ j = x - 1000) then 1 else σ (r + 4) j := by
  refine ⟨fun c hc => ?_, fun j => ?_, fun j => ?_, fun j => ?_, fun j => ?_, fun j => ?_⟩ <;> unfold adS adR
  · rw [su_ne (by omega), su_ne (by omega), mkS_ne (by omega), mkS_ne (by omega), mkS_ne (by omega), su_ne (by omega), su_ne (by omega), su_ne (by omega), su_ne (by omega), su_ne (by omega)]
  · rw [su_at, su_at, mkS_ne (by omega), mkS_ne (by omega), mkS_ne (by omega), su_ne (by omega), su_ne (by omega), su_ne (by omega), su_ne (by omega), su_ne (by omega)]
  · rw [su_ne (by omega), su_ne (by omega), mkS_ne (by omega), mkS_ne (by omega), mkS_ne (by omega), su_ne (by omega), su_ne (by omega), su_ne (by omega), su_ne (by omega), su_at]
  · rw [su_ne (by omega), su_ne (by omega), mkS_ne (by omega), mkS_ne (by omega), mkS_ne (by omega), su_ne (by omega), su_ne (by omega), su_ne (by omega), su_at, su_ne (by omega)]
  · rw [su_ne (by omega), su_ne (by omega), mkS_ne (by omega), mkS_ne (by omega), mkS_ne (by omega), su_at, su_at, su_at, su_ne (by omega), su_ne (by omega)]
  · rw [su_ne (by omega), su_ne (by omega), mkS_at, mkS_at, mkS_at, su_ne (by omega), su_ne (by omega), su_ne (by omega), su_ne (by omega), su_ne (by omega)]
    by_cases h1 : 1000 ≤ z ∧ z ≤ 1099 ∧ j = z - 1000
    · rw [if_pos h1, if_pos (Or.inl h1)]
    · rw [if_neg h1]
      by_cases h2 : 1000 ≤ y ∧ y ≤ 1099 ∧ j = y - 1000
      · rw [if_pos h2, if_pos (Or.inr (Or.inl h2))]
      · rw [if_neg h2]
        by_cases h3 : 1000 ≤ x ∧ x ≤ 1099 ∧ j = x - 1000
        · rw [if_pos h3, if_pos (Or.inr (Or.inr h3))]
        · rw [if_neg h3, if_neg (by rintro (q | q | q); exact h1 q; exact h2 q; exact h3 q)]
theorem adS_wf (W : WfRo σ r) (hr : σ r 0 + 1 ≤ 40 ∧ σ r 1 + 1 ≤ 200) (ht : 0 ≤ t ∧ t ≤ 25) (hx : -1 ≤ x ∧ x ≤ 1099) (hy : -1 ≤ y ∧ y ≤ 1099) (hz : -1 ≤ z ∧ z ≤ 1099) : WfRo (adS σ r t x y z) r := by
  obtain ⟨-, e0, e1, e2, e3, e4⟩ := adS_r (σ := σ) (r := r) (t := t) (x := x) (y := y) (z := z)
  obtain ⟨w0, w1, w2, w3, w4⟩ := W
  refine ⟨?_, ?_, fun p p0 p1 => ⟨?_, ?_⟩, fun i i0 i1 => ?_, fun k k0 k1 => ?_⟩
  · rw [e0, if_neg (by omega), if_pos rfl]; omega
  · rw [e0, if_pos rfl]; omega
  · rw [e1]; split; omega; exact (w2 p p0 p1).1
  · rw [e2]; split; omega; exact (w2 p p0 p1).2
  · rw [e3]; split; omega; split; omega; split; omega; exact w3 i i0 i1
  · rw [e4]; split; exact Or.inr rfl; exact w4 k k0 k1
theorem adS_rs (W : WfRo σ r) : rsC (adS σ r t x y z) r = rsC σ r ++ [(σ r 1, t, x, y, z)] := by
  obtain ⟨-, e0, e1, e2, e3, e4⟩ := adS_r (σ := σ) (r := r) (t := t) (x := x) (y := y) (z := z)
  have w0 := W.1
  unfold rsC
  rw [e0, if_neg (by omega), if_pos rfl, show (σ r 0 + 1).toNat = (σ r 0).toNat + 1 by omega, rcF_snoc]
  congr 1
  · apply rcF_ext
    intro i i0 i1
    unfold rwC
    rw [e1, if_neg (by omega), e2, if_neg (by omega), e3, if_neg (by omega), if_neg (by omega), if_neg (by omega), e3, if_neg (by omega), if_neg (by omega), if_neg (by omega), e3, if_neg (by omega), if_neg (by omega), if_neg (by omega)]
  · rw [show (0 : Int) + ((σ r 0).toNat : Int) = σ r 0 by omega]
    unfold rwC
    rw [e1, if_pos rfl, e2, if_pos rfl, e3, if_neg (by omega), if_neg (by omega), if_pos rfl, e3, if_neg (by omega), if_pos rfl, e3, if_pos rfl]
theorem adS_na (hx : -1 ≤ x ∧ x ≤ 1099) (hy : -1 ≤ y ∧ y ≤ 1099) (hz : -1 ≤ z ∧ z ≤ 1099) : naC (adS σ r t x y z) r = mkU (naC σ r) (t, x, y, z) := by
  obtain ⟨-, e0, e1, e2, e3, e4⟩ := adS_r (σ := σ) (r := r) (t := t) (x := x) (y := y) (z := z)
  funext k
  unfold naC mkU
  dsimp only
  by_cases hk : 0 ≤ k ∧ k ≤ 99
  · rw [if_pos hk, if_pos hk, e4]
    by_cases q : x = 1000 + k ∨ y = 1000 + k ∨ z = 1000 + k
    · rw [if_pos (by omega), if_pos ⟨hk.1, q⟩]
    · rw [if_neg (by omega), if_neg (fun h => q h.2)]
  · rw [if_neg hk, if_neg hk, if_neg (by omega)]
theorem rmS_r : FrR r σ (rmS σ r p) ∧ (∀ j, rmS σ r p r j = if j = 0 then σ r 0 - 1 else σ r j) ∧ (∀ c, c = r + 1 ∨ c = r + 2 → ∀ j, rmS σ r p c j = if p ≤ j ∧ j < σ r 0 - 1 then σ c (j + 1) else σ c j) ∧ (∀ j, rmS σ r p (r + 3) j = if p * 3 ≤ j ∧ j < (σ r 0 - 1) * 3 then σ (r + 3) (j + 3) else σ (r + 3) j) ∧ rmS σ r p (r + 4) = σ (r + 4) := by
  unfold rmS
  refine ⟨fun c hc => ?_, fun j => ?_, ?_, fun j => ?_, ?_⟩
  · rw [su_ne (by omega), scp_ne (by omega), scp_ne (by omega), scp_ne (by omega)]
  · rw [su_at, scp_ne (by omega), scp_ne (by omega), scp_ne (by omega)]
  · rintro c (rfl | rfl) j
    · rw [su_ne (by omega), scp_ne (by omega), scp_ne (by omega), scp_at]
      by_cases h : p ≤ j ∧ j < σ r 0 - 1
      · rw [if_pos (by omega), if_pos h]; congr 1; omega
      · rw [if_neg (by omega), if_neg h]
    · rw [su_ne (by omega), scp_ne (by omega), scp_at, scp_ne (by omega)]
      by_cases h : p ≤ j ∧ j < σ r 0 - 1
      · rw [if_pos (by omega), if_pos h]; congr 1; omega
      · rw [if_neg (by omega), if_neg h]
  · rw [su_ne (by omega), scp_at, scp_ne (by omega), scp_ne (by omega)]
    by_cases h : p * 3 ≤ j ∧ j < (σ r 0 - 1) * 3
    · rw [if_pos (by omega), if_pos h]; congr 1; omega
    · rw [if_neg (by omega), if_neg h]
  · rw [su_ne (by omega), scp_ne (by omega), scp_ne (by omega), scp_ne (by omega)]
theorem rmS_wf (W : WfRo σ r) (p0 : 0 ≤ p) (p1 : p < σ r 0) : WfRo (rmS σ r p) r := by
  obtain ⟨-, e0, e1, e3, e4⟩ := rmS_r (σ := σ) (r := r) (p := p)
  obtain ⟨w0, w1, w2, w3, w4⟩ := W
  refine ⟨?_, ?_, fun p p0 p1 => ⟨?_, ?_⟩, fun i i0 i1 => ?_, fun k k0 k1 => ?_⟩
  · rw [e0, if_pos rfl]; omega
  · rw [e0, if_neg (by omega)]; omega
  · rw [e1 _ (Or.inl rfl)]; split; exact (w2 _ (by omega) (by omega)).1; exact (w2 p p0 p1).1
  · rw [e1 _ (Or.inr rfl)]; split; exact (w2 _ (by omega) (by omega)).2; exact (w2 p p0 p1).2
  · rw [e3]; split; exact w3 _ (by omega) (by omega); exact w3 i i0 i1
  · rw [e4]; exact w4 k k0 k1
theorem rmS_rs (W : WfRo σ r) (p0 : 0 ≤ p) (p1 : p < σ r 0) : rsC (rmS σ r p) r = (rsC σ r).eraseIdx p.toNat := by
  obtain ⟨-, e0, e1, e3, e4⟩ := rmS_r (σ := σ) (r := r) (p := p)
  have w0 := W.1
  have ec : rmS σ r p r 0 = σ r 0 - 1 := by rw [e0, if_pos rfl]
  have l1 := rsC_len (σ := σ) (r := r) (by omega)
  have l2 := rsC_len (σ := rmS σ r p) (r := r) (by omega)
  apply List.ext_getElem?
  intro i
  rw [List.getElem?_eraseIdx]
  by_cases hi : (i : Int) < σ r 0 - 1
  · have g1 := rsC_get (σ := rmS σ r p) (r := r) (p := i) (by omega) (by omega)
    rw [Int.toNat_natCast] at g1
    rw [g1]
    by_cases hp : i < p.toNat
    · rw [if_pos hp]
      have g2 := rsC_get (σ := σ) (r := r) (p := i) (by omega) (by omega)
      rw [Int.toNat_natCast] at g2
      rw [g2]
      unfold rwC
      rw [e1 _ (Or.inl rfl), if_neg (by omega), e1 _ (Or.inr rfl), if_neg (by omega), e3, if_neg (by omega), e3, if_neg (by omega), e3, if_neg (by omega)]
    · rw [if_neg hp]
      have g2 := rsC_get (σ := σ) (r := r) (p := (i + 1 : Nat)) (by omega) (by omega)
      rw [Int.toNat_natCast] at g2
      rw [g2]
      unfold rwC
      rw [e1 _ (Or.inl rfl), if_pos (by omega), e1 _ (Or.inr rfl), if_pos (by omega), e3, if_pos (by omega), e3, if_pos (by omega), e3, if_pos (by omega)]
      rw [show ((i + 1 : Nat) : Int) = (i : Int) + 1 by omega, show ((i : Int) + 1) * 3 = (i : Int) * 3 + 3 by omega, show (i : Int) * 3 + 1 + 3 = (i : Int) * 3 + 3 + 1 by omega, show (i : Int) * 3 + 2 + 3 = (i : Int) * 3 + 3 + 2 by omega]
  · rw [List.getElem?_eq_none (by omega)]
    split
    · rw [List.getElem?_eq_none (by omega)]
    · rw [List.getElem?_eq_none (by omega)]
theorem rmS_na : naC (rmS σ r p) r = naC σ r := by
  obtain ⟨-, e0, e1, e3, e4⟩ := rmS_r (σ := σ) (r := r) (p := p)
  unfold naC
  rw [e4]
/-- terms melted, as far as to a place -/
def mlS (σ : St) (r : Nat) (a b k : Int) : St := fun c => if c = r + 3 then (fun j => if 0 ≤ j ∧ j < k then subT a b (σ (r + 3) j) else σ (r + 3) j) else σ c
theorem mlS_ne {a b k : Int} {c : Nat} (h : c ≠ r + 3) : mlS σ r a b k c = σ c := by unfold mlS; rw [if_neg h]
theorem mlS_at {a b k j : Int} : mlS σ r a b k (r + 3) j = if 0 ≤ j ∧ j < k then subT a b (σ (r + 3) j) else σ (r + 3) j := by unfold mlS; rw [if_pos rfl]
theorem mlS_0 {a b : Int} : mlS σ r a b 0 = σ := by
  apply st_ext (a := r + 3)
  · intro c hc; exact mlS_ne hc
  · intro j; rw [mlS_at, if_neg (by omega)]
theorem mlS_y {a b i : Int} (i0 : 0 ≤ i) (h : σ (r + 3) i = a) : su (mlS σ r a b i) (r + 3) i b = mlS σ r a b (i + 1) := by
  apply st_ext (a := r + 3)
  · intro c hc; rw [su_ne hc, mlS_ne hc, mlS_ne hc]
  · intro j
    rw [su_at, mlS_at, mlS_at]
    by_cases hj : j = i
    · subst hj
      rw [if_pos rfl, if_pos (by omega)]
      unfold subT
      rw [if_pos h]
    · rw [if_neg hj]
      by_cases h2 : 0 ≤ j ∧ j < i
      · rw [if_pos h2, if_pos (by omega)]
      · rw [if_neg h2, if_neg (by omega)]
theorem mlS_n {a b i : Int} (h : σ (r + 3) i ≠ a) : mlS σ r a b i = mlS σ r a b (i + 1) := by
  apply st_ext (a := r + 3)
  · intro c hc; rw [mlS_ne hc, mlS_ne hc]
  · intro j
    rw [mlS_at, mlS_at]
    by_cases hj : j = i
    · subst hj
      rw [if_neg (by omega)]
      split
      · unfold subT
        rw [if_neg h]
      · rfl
    · by_cases h2 : 0 ≤ j ∧ j < i
      · rw [if_pos h2, if_pos (by omega)]
      · rw [if_neg h2, if_neg (by omega)]
theorem mlS_rs {a b : Int} (W : WfRo σ r) : rsC (mlS σ r a b (σ r 0 * 3)) r = (rsC σ r).map (subW a b) := by
  have w0 := W.1
  have : ∀ (k : Nat) (p : Int), 0 ≤ p → p + k ≤ σ r 0 → rcF (mlS σ r a b (σ r 0 * 3)) r k p = (rcF σ r k p).map (subW a b) := by
    intro k
    induction k with
    | zero => intro p _ _; rfl
    | succ k ih =>
      intro p p0 pk
      rw [rcF, rcF, List.map_cons, ih (p + 1) (by omega) (by omega)]
      congr 1
      unfold rwC subW subA
      rw [mlS_ne (by omega), mlS_ne (by omega), mlS_at, if_pos (by omega), mlS_at, if_pos (by omega), mlS_at, if_pos (by omega)]
  unfold rsC
  rw [mlS_ne (by omega)]
  exact this _ 0 (by omega) (by omega)
theorem mlS_wf {a b k : Int} (W : WfRo σ r) (hb : -1 ≤ b ∧ b ≤ 1099) : WfRo (mlS σ r a b k) r := by
  obtain ⟨w0, w1, w2, w3, w4⟩ := W
  refine ⟨?_, ?_, fun p p0 p1 => ?_, fun i i0 i1 => ?_, fun k k0 k1 => ?_⟩
  · rw [mlS_ne (by omega)]; exact w0
  · rw [mlS_ne (by omega)]; exact w1
  · rw [mlS_ne (by omega), mlS_ne (by omega)]; exact w2 p p0 p1
  · rw [mlS_at]
    split
    · unfold subT
      split
      · exact hb
      · exact w3 i i0 i1
    · exact w3 i i0 i1
  · rw [mlS_ne (by omega)]; exact w4 k k0 k1
theorem mlS_na {a b k : Int} : naC (mlS σ r a b k) r = naC σ r := by
  unfold naC
  rw [mlS_ne (by omega)]
theorem mlS_fr {a b k : Int} : FrR r σ (mlS σ r a b k) := fun c h => mlS_ne (by omega)
end C52
/-- from the end: rows that are alike an earlier one go -/
def ddE (L : List Rw) : Nat → List Rw
  | 0 => L
  | p + 1 => match L[p + 1]? with
    | none => L
    | some w => if w.2 ∈ (L.take (p + 1)).map (fun v => v.2) then ddE (L.eraseIdx (p + 1)) p else ddE L p
theorem ddE_eq : ∀ (p : Nat) (L M : List Rw), L.length = p + 1 → ddE (L ++ M) p = ddF [] L ++ M := by
  intro p
  induction p with
  | zero =>
    intro L M h
    obtain ⟨w, rfl⟩ := List.length_eq_one_iff.mp h
    simp [ddE, ddF]
  | succ p ih =>
    intro L M h
    obtain ⟨K, w, rfl⟩ : ∃ K w, L = K ++ [w] := ⟨L.dropLast, L.getLast (by intro e; rw [e] at h; cases h), (List.dropLast_concat_getLast _).symm⟩
    have hK : K.length = p + 1 := by rw [List.length_append] at h; simpa using h
    rw [ddE]
    have g : (K ++ [w] ++ M)[p + 1]? = some w := by
      rw [List.append_assoc, List.getElem?_append_right (by omega), hK, Nat.sub_self]
      rfl
    have tk : (K ++ [w] ++ M).take (p + 1) = K := by rw [List.append_assoc, List.take_append_of_le_length (by omega), List.take_of_length_le (by omega)]
    rw [g]
    dsimp only
    rw [tk, ddF_append]
    have e1 : ddF (K.map (fun w => w.2) ++ []) [w] = if w.2 ∈ K.map (fun v => v.2) then [] else [w] := by
      rw [List.append_nil, ddF]
      split
      · rfl
      · rfl
    rw [e1]
    by_cases hm : w.2 ∈ K.map (fun v => v.2)
    · rw [if_pos hm, if_pos hm, List.append_nil]
      have : (K ++ [w] ++ M).eraseIdx (p + 1) = K ++ M := by
        rw [List.append_assoc, List.eraseIdx_append_of_length_le (by omega), hK, Nat.sub_self]
        rfl
      rw [this]
      exact ih K M hK
    · rw [if_neg hm, if_neg hm, List.append_assoc]
      rw [ih K ([w] ++ M) hK, List.append_assoc]
theorem pos_mem {L : List Rw} {p : Nat} {w : Rw} (h : L[p]? = some w) : 0 ≤ posF (fun v => decide (v.2 = w.2)) L 0 ∧ posF (fun v => decide (v.2 = w.2)) L 0 ≤ p ∧ (posF (fun v => decide (v.2 = w.2)) L 0 < p ↔ w.2 ∈ (L.take p).map (fun v => v.2)) := by
  have : ∀ (L : List Rw) (p : Nat) (k : Int), 0 ≤ k → L[p]? = some w → k ≤ posF (fun v => decide (v.2 = w.2)) L k ∧ posF (fun v => decide (v.2 = w.2)) L k ≤ k + p ∧ (posF (fun v => decide (v.2 = w.2)) L k < k + p ↔ w.2 ∈ (L.take p).map (fun v => v.2)) := by
    intro L
    induction L with
    | nil => intro p k _ h; simp at h
    | cons v L ih =>
      intro p k hk h
      rw [posF]
      by_cases hv : v.2 = w.2
      · rw [if_pos (by simpa using hv)]
        cases p with
        | zero => simp
        | succ p =>
          refine ⟨by omega, by omega, ?_⟩
          rw [List.take_succ_cons, List.map_cons, hv]
          constructor
          · intro _; exact List.mem_cons_self
          · intro _; omega
      · rw [if_neg (by simpa using hv)]
        cases p with
        | zero =>
          rw [List.getElem?_cons_zero] at h
          cases h
          exact absurd rfl hv
        | succ p =>
          rw [List.getElem?_cons_succ] at h
          obtain ⟨a, b, c⟩ := ih p (k + 1) (by omega) h
          refine ⟨by omega, by omega, ?_⟩
          rw [List.take_succ_cons, List.map_cons, List.mem_cons, ← c]
          constructor
          · intro q; right; omega
          · rintro (q | q)
            · exact absurd q.symm hv
            · omega
  have e := this L p 0 (by omega) h
  rw [Int.zero_add] at e
  exact e
/-- numbers in a row, looked through -/
def anyF (f : Int → Int) (v : Int) : Nat → Int → Bool
  | 0, _ => false
  | k + 1, i => if f i = v then true else anyF f v k (i + 1)
def mtL (L : List Rw) (v : Int) : Bool := L.any fun w => decide (w.2.2.1 = v ∨ w.2.2.2.1 = v ∨ w.2.2.2.2 = v)
theorem any_rows {σ : St} {r : Nat} {v : Int} : ∀ (k : Nat) (p : Int), anyF (σ (r + 3)) v (k * 3) (p * 3) = mtL (rcF σ r k p) v := by
  intro k
  induction k with
  | zero => intro p; rfl
  | succ k ih =>
    intro p
    have e := ih (p + 1)
    rw [rcF]
    unfold mtL at *
    rw [List.any_cons, ← e, show (k + 1) * 3 = k * 3 + 1 + 1 + 1 by omega, anyF, anyF, anyF, show p * 3 + 1 + 1 + 1 = (p + 1) * 3 by omega]
    unfold rwC
    dsimp only
    rw [show p * 3 + 1 + 1 = p * 3 + 2 by omega]
    by_cases h1 : σ (r + 3) (p * 3) = v
    · rw [if_pos h1, decide_eq_true (Or.inl h1), Bool.true_or]
    · rw [if_neg h1]
      by_cases h2 : σ (r + 3) (p * 3 + 1) = v
      · rw [if_pos h2, decide_eq_true (Or.inr (Or.inl h2)), Bool.true_or]
      · rw [if_neg h2]
        by_cases h3 : σ (r + 3) (p * 3 + 2) = v
        · rw [if_pos h3, decide_eq_true (Or.inr (Or.inr h3)), Bool.true_or]
        · rw [if_neg h3, decide_eq_false (by rintro (q | q | q); exact h1 q; exact h2 q; exact h3 q), Bool.false_or]
theorem any_atoms {σ : St} {r : Nat} {v : Int} : ∀ (k : Nat) (p : Int), anyF (σ (r + 2)) v (k * 3) (p * 3) = mentL (akF σ r k p) v := by
  intro k
  induction k with
  | zero => intro p; rfl
  | succ k ih =>
    intro p
    have e := ih (p + 1)
    rw [akF]
    unfold mentL at *
    rw [List.any_cons, ← e, show (k + 1) * 3 = k * 3 + 1 + 1 + 1 by omega, anyF, anyF, anyF, show p * 3 + 1 + 1 + 1 = (p + 1) * 3 by omega]
    unfold atK
    dsimp only
    rw [show p * 3 + 1 + 1 = p * 3 + 2 by omega]
    by_cases h1 : σ (r + 2) (p * 3) = v
    · rw [if_pos h1, decide_eq_true (Or.inl h1), Bool.true_or]
    · rw [if_neg h1]
      by_cases h2 : σ (r + 2) (p * 3 + 1) = v
      · rw [if_pos h2, decide_eq_true (Or.inr (Or.inl h2)), Bool.true_or]
      · rw [if_neg h2]
        by_cases h3 : σ (r + 2) (p * 3 + 2) = v
        · rw [if_pos h3, decide_eq_true (Or.inr (Or.inr h3)), Bool.true_or]
        · rw [if_neg h3, decide_eq_false (by rintro (q | q | q); exact h1 q; exact h2 q; exact h3 q), Bool.false_or]
/-- copies: rows, atoms, rules, logs -/
def cpRo (σ : St) (q r : Nat) : St := scp (scp (scp (scp (su (su σ r 0 (σ q 0)) r 1 (σ q 1)) (q + 1) 0 (r + 1) 0 40) (q + 2) 0 (r + 2) 0 40) (q + 3) 0 (r + 3) 0 120) (q + 4) 0 (r + 4) 0 100
def cpAt (σ : St) (q r : Nat) : St := scp (scp (su σ r 0 (σ q 0)) (q + 1) 0 (r + 1) 0 3) (q + 2) 0 (r + 2) 0 9
def cpRu (σ : St) (q r : Nat) : St := su (su (cpAt (cpAt (su σ r 0 (σ q 0)) (q + 1) (r + 1)) (q + 4) (r + 4)) r 3 (σ q 3)) r 4 (σ q 4)
def cpLo (σ : St) (q r : Nat) : St := scp (scp (su (su σ r 0 (σ q 0)) r 1 (σ q 1)) (q + 1) 0 (r + 1) 0 700) (q + 2) 0 (r + 2) 0 200
def apt (q r n : Nat) : Prop := q + n ≤ r ∨ r + n ≤ q
section C52b
variable {σ : St} {q r : Nat}
theorem cpRo_r (h : apt q r 5) : FrR r σ (cpRo σ q r) ∧ (∀ j, cpRo σ q r r j = if j = 1 then σ q 1 else if j = 0 then σ q 0 else σ r j) ∧ (∀ c n, c = 1 ∧ n = 40 ∨ c = 2 ∧ n = 40 ∨ c = 3 ∧ n = 120 ∨ c = 4 ∧ n = 100 → ∀ j : Int, cpRo σ q r (r + c) j = if 0 ≤ j ∧ j < n then σ (q + c) j else σ (r + c) j) := by
  unfold apt at h
  unfold cpRo
  refine ⟨fun c hc => ?_, fun j => ?_, ?_⟩
  · rw [scp_ne (by omega), scp_ne (by omega), scp_ne (by omega), scp_ne (by omega), su_ne (by omega), su_ne (by omega)]
  · rw [scp_ne (by omega), scp_ne (by omega), scp_ne (by omega), scp_ne (by omega), su_at, su_at]
  · rintro c n (⟨rfl, rfl⟩ | ⟨rfl, rfl⟩ | ⟨rfl, rfl⟩ | ⟨rfl, rfl⟩) j
    · rw [scp_ne (by omega), scp_ne (by omega), scp_ne (by omega), scp_at, su_ne (by omega), su_ne (by omega), su_ne (by omega), su_ne (by omega), Int.sub_zero, Int.add_zero, Int.zero_add]
    · rw [scp_ne (by omega), scp_ne (by omega), scp_at, scp_ne (by omega), scp_ne (by omega), su_ne (by omega), su_ne (by omega), su_ne (by omega), su_ne (by omega), Int.sub_zero, Int.add_zero, Int.zero_add]
    · rw [scp_ne (by omega), scp_at, scp_ne (by omega), scp_ne (by omega), scp_ne (by omega), scp_ne (by omega), su_ne (by omega), su_ne (by omega), su_ne (by omega), su_ne (by omega), Int.sub_zero, Int.add_zero, Int.zero_add]
    · rw [scp_at, scp_ne (by omega), scp_ne (by omega), scp_ne (by omega), scp_ne (by omega), scp_ne (by omega), scp_ne (by omega), su_ne (by omega), su_ne (by omega), su_ne (by omega), su_ne (by omega), Int.sub_zero, Int.add_zero, Int.zero_add]
theorem cpRo_v (h : apt q r 5) (W : WfRo σ q) : WfRo (cpRo σ q r) r ∧ rsC (cpRo σ q r) r = rsC σ q ∧ cpRo σ q r r 0 = σ q 0 ∧ cpRo σ q r r 1 = σ q 1 ∧ naC (cpRo σ q r) r = naC σ q := by
  obtain ⟨-, e0, e1⟩ := cpRo_r (σ := σ) h
  obtain ⟨w0, w1, w2, w3, w4⟩ := W
  have a0 : cpRo σ q r r 0 = σ q 0 := by rw [e0, if_neg (by omega), if_pos rfl]
  have a1 : cpRo σ q r r 1 = σ q 1 := by rw [e0, if_pos rfl]
  refine ⟨⟨by rw [a0]; exact w0, by rw [a1]; exact w1, fun p p0 p1 => ?_, fun i i0 i1 => ?_, fun k k0 k1 => ?_⟩, ?_, a0, a1, ?_⟩
  · rw [e1 1 40 (by omega), e1 2 40 (by omega), if_pos (by omega), if_pos (by omega)]; exact w2 p p0 p1
  · rw [e1 3 120 (by omega), if_pos (by omega)]; exact w3 i i0 i1
  · rw [e1 4 100 (by omega), if_pos (by omega)]; exact w4 k k0 k1
  · unfold rsC
    rw [a0]
    apply rcF_ext
    intro i i0 i1
    unfold rwC
    rw [e1 1 40 (by omega), if_pos (by omega), e1 2 40 (by omega), if_pos (by omega), e1 3 120 (by omega), if_pos (by omega), e1 3 120 (by omega), if_pos (by omega), e1 3 120 (by omega), if_pos (by omega)]
  · funext k
    unfold naC
    by_cases hk : 0 ≤ k ∧ k ≤ 99
    · rw [if_pos hk, if_pos hk, e1 4 100 (by omega), if_pos (by omega)]
    · rw [if_neg hk, if_neg hk]
theorem cpAt_r (h : apt q r 3) : (∀ c, c < r ∨ r + 2 < c → cpAt σ q r c = σ c) ∧ (∀ j, cpAt σ q r r j = if j = 0 then σ q 0 else σ r j) ∧ (∀ c n, c = 1 ∧ n = 3 ∨ c = 2 ∧ n = 9 → ∀ j : Int, cpAt σ q r (r + c) j = if 0 ≤ j ∧ j < n then σ (q + c) j else σ (r + c) j) := by
  unfold apt at h
  unfold cpAt
  refine ⟨fun c hc => ?_, fun j => ?_, ?_⟩
  · rw [scp_ne (by omega), scp_ne (by omega), su_ne (by omega)]
  · rw [scp_ne (by omega), scp_ne (by omega), su_at]
  · rintro c n (⟨rfl, rfl⟩ | ⟨rfl, rfl⟩) j
    · rw [scp_ne (by omega), scp_at, su_ne (by omega), su_ne (by omega), Int.sub_zero, Int.add_zero, Int.zero_add]
    · rw [scp_at, scp_ne (by omega), scp_ne (by omega), su_ne (by omega), su_ne (by omega), Int.sub_zero, Int.add_zero, Int.zero_add]
theorem cpAt_v (h : apt q r 3) (W : WfAt σ q) : WfAt (cpAt σ q r) r ∧ asC (cpAt σ q r) r = asC σ q := by
  obtain ⟨-, e0, e1⟩ := cpAt_r (σ := σ) h
  obtain ⟨w0, w1, w2⟩ := W
  have a0 : cpAt σ q r r 0 = σ q 0 := by rw [e0, if_pos rfl]
  refine ⟨⟨by rw [a0]; exact w0, fun p p0 p1 => ?_, fun i i0 i1 => ?_⟩, ?_⟩
  · rw [e1 1 3 (by omega), if_pos (by omega)]; exact w1 p p0 p1
  · rw [e1 2 9 (by omega), if_pos (by omega)]; exact w2 i i0 i1
  · unfold asC
    rw [a0]
    apply akF_ext
    intro i i0 i1
    unfold atK
    rw [e1 1 3 (by omega), if_pos (by omega), e1 2 9 (by omega), if_pos (by omega), e1 2 9 (by omega), if_pos (by omega), e1 2 9 (by omega), if_pos (by omega)]
theorem asC_c {σ τ : St} {a : Nat} (h : τ a 0 = σ a 0) (h1 : τ (a + 1) = σ (a + 1)) (h2 : τ (a + 2) = σ (a + 2)) : asC τ a = asC σ a := by
  unfold asC
  rw [h]
  apply akF_ext
  intro i _ _
  unfold atK
  rw [h1, h2]
theorem WfAt.c {σ τ : St} {a : Nat} (W : WfAt σ a) (h : τ a 0 = σ a 0) (h1 : τ (a + 1) = σ (a + 1)) (h2 : τ (a + 2) = σ (a + 2)) : WfAt τ a := by
  unfold WfAt
  rw [h, h1, h2]
  exact W
theorem cpRu_r (h : apt q r 7) : (∀ c, c < r ∨ r + 6 < c → cpRu σ q r c = σ c) := by
  unfold apt at h
  intro c hc
  unfold cpRu
  rw [su_ne (by omega), su_ne (by omega), (cpAt_r (by unfold apt; omega)).1 c (by omega), (cpAt_r (by unfold apt; omega)).1 c (by omega), su_ne (by omega)]
theorem cpRu_v (h : apt q r 7) (W : WfRu σ q) : WfRu (cpRu σ q r) r ∧ ruC (cpRu σ q r) r = ruC σ q := by
  unfold apt at h
  obtain ⟨w0, w3, w4, wa, wb⟩ := W
  have A1 := cpAt_r (σ := su σ r 0 (σ q 0)) (q := q + 1) (r := r + 1) (by unfold apt; omega)
  have A2 := cpAt_r (σ := cpAt (su σ r 0 (σ q 0)) (q + 1) (r + 1)) (q := q + 4) (r := r + 4) (by unfold apt; omega)
  have k0 : cpRu σ q r r 0 = σ q 0 := by
    unfold cpRu
    rw [su_off (by omega), su_off (by omega), A2.1 r (by omega), A1.1 r (by omega), su_eq]
  have k3 : cpRu σ q r r 3 = σ q 3 := by
    unfold cpRu
    rw [su_off (by omega), su_eq]
  have k4 : cpRu σ q r r 4 = σ q 4 := by
    unfold cpRu
    rw [su_eq]
  have e1 : ∀ c, r + 1 ≤ c → c ≤ r + 3 → cpRu σ q r c = cpAt (su σ r 0 (σ q 0)) (q + 1) (r + 1) c := by
    intro c c0 c1
    unfold cpRu
    rw [su_ne (by omega), su_ne (by omega), A2.1 c (by omega)]
  have e2 : ∀ c, r + 4 ≤ c → c ≤ r + 6 → cpRu σ q r c = cpAt (cpAt (su σ r 0 (σ q 0)) (q + 1) (r + 1)) (q + 4) (r + 4) c := by
    intro c c0 c1
    unfold cpRu
    rw [su_ne (by omega), su_ne (by omega)]
  have s1 : ∀ c, q + 1 ≤ c → c ≤ q + 6 → su σ r 0 (σ q 0) c = σ c := fun c c0 c1 => su_ne (by omega)
  have s2 : ∀ c, q + 1 ≤ c → c ≤ q + 6 → cpAt (su σ r 0 (σ q 0)) (q + 1) (r + 1) c = σ c := fun c c0 c1 => by rw [A1.1 c (by omega), s1 c c0 c1]
  obtain ⟨v1, v2⟩ := cpAt_v (σ := su σ r 0 (σ q 0)) (q := q + 1) (r := r + 1) (by unfold apt; omega) (wa.c (by rw [s1 _ (by omega) (by omega)]) (s1 _ (by omega) (by omega)) (s1 _ (by omega) (by omega)))
  obtain ⟨v3, v4⟩ := cpAt_v (σ := cpAt (su σ r 0 (σ q 0)) (q + 1) (r + 1)) (q := q + 4) (r := r + 4) (by unfold apt; omega) (wb.c (by rw [s2 _ (by omega) (by omega)]) (s2 _ (by omega) (by omega)) (s2 _ (by omega) (by omega)))
  refine ⟨⟨by rw [k0]; exact w0, by rw [k3]; exact w3, by rw [k4]; exact w4, v1.c (by rw [e1 _ (by omega) (by omega)]) (e1 _ (by omega) (by omega)) (e1 _ (by omega) (by omega)), v3.c (by rw [e2 _ (by omega) (by omega)]) (e2 _ (by omega) (by omega)) (e2 _ (by omega) (by omega))⟩, ?_⟩
  unfold ruC
  rw [k0, k3, k4, asC_c (by rw [e1 _ (by omega) (by omega)]) (e1 _ (by omega) (by omega)) (e1 _ (by omega) (by omega)), asC_c (a := r + 4) (by rw [e2 _ (by omega) (by omega)]) (e2 _ (by omega) (by omega)) (e2 _ (by omega) (by omega)), v2, v4, asC_c (by rw [s1 _ (by omega) (by omega)]) (s1 _ (by omega) (by omega)) (s1 _ (by omega) (by omega)), asC_c (a := q + 4) (by rw [s2 _ (by omega) (by omega)]) (s2 _ (by omega) (by omega)) (s2 _ (by omega) (by omega))]
theorem cpLo_r (h : apt q r 3) : (∀ c, c < r ∨ r + 2 < c → cpLo σ q r c = σ c) ∧ (∀ j, cpLo σ q r r j = if j = 1 then σ q 1 else if j = 0 then σ q 0 else σ r j) ∧ (∀ c n, c = 1 ∧ n = 700 ∨ c = 2 ∧ n = 200 → ∀ j : Int, cpLo σ q r (r + c) j = if 0 ≤ j ∧ j < n then σ (q + c) j else σ (r + c) j) := by
  unfold apt at h
  unfold cpLo
  refine ⟨fun c hc => ?_, fun j => ?_, ?_⟩
  · rw [scp_ne (by omega), scp_ne (by omega), su_ne (by omega), su_ne (by omega)]
  · rw [scp_ne (by omega), scp_ne (by omega), su_at, su_at]
  · rintro c n (⟨rfl, rfl⟩ | ⟨rfl, rfl⟩) j
    · rw [scp_ne (by omega), scp_at, su_ne (by omega), su_ne (by omega), su_ne (by omega), su_ne (by omega), Int.sub_zero, Int.add_zero, Int.zero_add]
    · rw [scp_at, scp_ne (by omega), scp_ne (by omega), su_ne (by omega), su_ne (by omega), su_ne (by omega), su_ne (by omega), Int.sub_zero, Int.add_zero, Int.zero_add]
theorem cpLo_v (h : apt q r 3) (W : WfLo σ q) : WfLo (cpLo σ q r) r ∧ cpLo σ q r r 0 = σ q 0 ∧ stC (cpLo σ q r) r = stC σ q ∧ byC (cpLo σ q r) r = byC σ q := by
  obtain ⟨-, e0, e1⟩ := cpLo_r (σ := σ) h
  obtain ⟨w0, w1, w2, w3⟩ := W
  have a0 : cpLo σ q r r 0 = σ q 0 := by rw [e0, if_neg (by omega), if_pos rfl]
  have a1 : cpLo σ q r r 1 = σ q 1 := by rw [e0, if_pos rfl]
  refine ⟨⟨by rw [a0]; exact w0, by rw [a1]; exact w1, fun i i0 i1 => ?_, fun k k0 k1 => ?_⟩, a0, ?_, ?_⟩
  · rw [e1 1 700 (by omega), if_pos (by omega)]; exact w2 i i0 i1
  · rw [e1 2 200 (by omega), if_pos (by omega)]; exact w3 k k0 k1
  · have : ∀ (k : Nat) (p : Int), 0 ≤ p → p + k ≤ 100 → skF (cpLo σ q r) r k p = skF σ q k p := by
      intro k
      induction k with
      | zero => intro p _ _; rfl
      | succ k ih =>
        intro p p0 pk
        rw [skF, skF, ih (p + 1) (by omega) (by omega)]
        rw [e1 1 700 (by omega), if_pos (by omega), e1 1 700 (by omega), if_pos (by omega), e1 1 700 (by omega), if_pos (by omega), e1 1 700 (by omega), if_pos (by omega), e1 1 700 (by omega), if_pos (by omega), e1 1 700 (by omega), if_pos (by omega), e1 1 700 (by omega), if_pos (by omega)]
    unfold stC
    rw [a1]
    exact this _ 0 (by omega) (by omega)
  · funext k
    unfold byC
    by_cases hk : 0 ≤ k ∧ k ≤ 199
    · rw [if_pos hk, if_pos hk, e1 2 200 (by omega), if_pos (by omega)]
    · rw [if_neg hk, if_neg hk]
end C52b
