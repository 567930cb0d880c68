/-! cells being made: a list of shapes and the numbers in them -/
def csz (q : Sh) : Nat := if q.1 = 2 then mNf.getD q.2.1 0 else q.2.2.1
def bH (qs : List Sh) (σ : St) : HS := (fun id => wcE (qs.getD id (9, 0, 0, [])) (σ id), qs.length, true, qs.length, (qs.map csz).sum)
def z0 : Int → Int := fun _ => 0
theorem gd_app {qs : List Sh} {q D : Sh} {id : Nat} : (qs ++ [q]).getD id D = if id < qs.length then qs.getD id D else if id = qs.length then q else D := by
  by_cases h : id < qs.length
  · rw [if_pos h]
    simp [List.getD, List.getElem?_append_left h]
  · rw [if_neg h]
    by_cases h2 : id = qs.length
    · rw [if_pos h2, h2]
      simp [List.getD]
    · rw [if_neg h2]
      have : (qs ++ [q]).length ≤ id := by rw [List.length_append, List.length_singleton]; omega
      simp [List.getD, List.getElem?_eq_none this]
theorem gd_mid {L R : List Sh} {o D : Sh} : (L ++ o :: R).getD L.length D = o := by simp [List.getD]
theorem gd_out {qs : List Sh} {D : Sh} {id : Nat} (h : qs.length ≤ id) : qs.getD id D = D := by simp [List.getD, List.getElem?_eq_none h]
theorem gd_set {L R : List Sh} {o q D : Sh} {id : Nat} (h : id ≠ L.length) : (L ++ q :: R).getD id D = (L ++ o :: R).getD id D := by
  by_cases h1 : id < L.length
  · simp [List.getD, List.getElem?_append_left h1]
  · obtain ⟨k, rfl⟩ : ∃ k, id = L.length + 1 + k := ⟨id - (L.length + 1), by omega⟩
    have e : ∀ x : Sh, (L ++ x :: R)[L.length + 1 + k]? = R[k]? := fun x => by
      rw [List.getElem?_append_right (by omega), show L.length + 1 + k - L.length = k + 1 by omega, List.getElem?_cons_succ]
    simp only [List.getD, e]
section Bh
variable {qs L R T X : List Sh} {o A q : Sh} {σ : St} {c k ty n r : Nat} {w : List (Nat × Nat)} {x : Int}
theorem Nw_g {e : mE} {f : Nat → HS → Prop} (he : e = wcE q (σ qs.length)) (hk : csz q = k) : Nw (bH qs σ) e k f = f qs.length (bH (qs ++ [q]) σ) := by
  have h : (mup (bH qs σ).1 qs.length e, qs.length + 1, true, qs.length + 1, (qs.map csz).sum + k) = bH (qs ++ [q]) σ := by
    unfold bH
    refine Prod.ext (funext fun id => ?_) ?_
    · show mup (fun id => wcE (qs.getD id (9, 0, 0, [])) (σ id)) qs.length e id = wcE ((qs ++ [q]).getD id (9, 0, 0, [])) (σ id)
      unfold mup
      rw [gd_app]
      by_cases h1 : id = qs.length
      · rw [if_pos h1, if_neg (by omega), if_pos h1, h1]
        exact he
      · rw [if_neg h1]
        by_cases h2 : id < qs.length
        · rw [if_pos h2]
        · rw [if_neg h2, if_neg h1]
          show wcE (qs.getD id (9, 0, 0, [])) (σ id) = _
          rw [gd_out (by omega)]
    · simp [hk]
  unfold Nw
  rw [if_pos (show (bH qs σ).2.2.1 = true from rfl)]
  exact congrArg (f qs.length) h
theorem mid_len : (L ++ o :: R).length = L.length + (R.length + 1) := by rw [List.length_append, List.length_cons]
theorem mid_app : (L ++ o :: R) ++ X = L ++ o :: (R ++ X) := by rw [List.append_assoc, List.cons_append]
theorem Nw_o {f : Nat → HS → Prop} (hz : σ (L.length + (R.length + 1)) = z0) : Nw (bH (L ++ o :: R) σ) (eO c (dflt c)) (mNf.getD c 0) f = f (L.length + (R.length + 1)) (bH (L ++ o :: (R ++ [(2, c, 0, [])])) σ) := by
  have e := Nw_g (qs := L ++ o :: R) (q := (2, c, 0, [])) (σ := σ) (k := mNf.getD c 0) (e := eO c (dflt c)) (f := f) (by rw [mid_len, hz]; rfl) rfl
  rw [mid_len, mid_app] at e
  exact e
theorem Nw_a {f : Nat → HS → Prop} (hz : σ (L.length + (R.length + 1)) = z0) : Nw (bH (L ++ o :: R) σ) (eA ty n (fun _ => 0)) n f = f (L.length + (R.length + 1)) (bH (L ++ o :: (R ++ [(0, ty, n, [])])) σ) := by
  have e := Nw_g (qs := L ++ o :: R) (q := (0, ty, n, [])) (σ := σ) (k := n) (e := eA ty n (fun _ => 0)) (f := f) (by rw [mid_len, hz]; rfl) rfl
  rw [mid_len, mid_app] at e
  exact e
theorem Nw_r {f : Nat → HS → Prop} (hz : σ (L.length + (R.length + 1)) = z0) : Nw (bH (L ++ o :: R) σ) (eR c n (fun _ => none)) n f = f (L.length + (R.length + 1)) (bH (L ++ o :: (R ++ [(1, c, n, [])])) σ) := by
  have e := Nw_g (qs := L ++ o :: R) (q := (1, c, n, [])) (σ := σ) (k := n) (e := eR c n (fun _ => none)) (f := f) (by rw [mid_len, hz]; rfl) rfl
  rw [mid_len, mid_app] at e
  exact e
theorem bH_mid : hget (bH (L ++ o :: R) σ) L.length = some (wcE o (σ L.length)) := by
  show (if L.length < (L ++ o :: R).length then some (wcE ((L ++ o :: R).getD L.length (9, 0, 0, [])) (σ L.length)) else none) = _
  rw [if_pos (by rw [mid_len]; omega), gd_mid]
/-- a cell in the middle gets another shape -/
theorem bH_put {e : mE} (he : e = wcE q (σ L.length)) (hk : csz q = csz o) : hput (bH (L ++ o :: R) σ) L.length e = bH (L ++ q :: R) σ := by
  unfold hput bH
  refine Prod.ext (funext fun id => ?_) ?_
  · show mup (fun id => wcE ((L ++ o :: R).getD id (9, 0, 0, [])) (σ id)) L.length e id = wcE ((L ++ q :: R).getD id (9, 0, 0, [])) (σ id)
    unfold mup
    by_cases h1 : id = L.length
    · rw [if_pos h1, h1, gd_mid]
      exact he
    · rw [if_neg h1, gd_set (o := o) h1]
  · simp [hk]
/-- a cell's numbers change -/
theorem bH_su {e : mE} {τ : St} {a : Nat} (he : e = wcE (qs.getD a (9, 0, 0, [])) (τ a)) (ht : ∀ id, id ≠ a → τ id = σ id) : hput (bH qs σ) a e = bH qs τ := by
  unfold hput bH
  refine Prod.ext (funext fun id => ?_) rfl
  show mup (fun id => wcE (qs.getD id (9, 0, 0, [])) (σ id)) a e id = wcE (qs.getD id (9, 0, 0, [])) (τ id)
  unfold mup
  by_cases h1 : id = a
  · rw [if_pos h1, h1]
    exact he
  · rw [if_neg h1, ht id h1]
theorem lk2_app : ∀ (w : List (Nat × Nat)) (j : Nat), lk2 w k = none → lk2 (w ++ [(k, r)]) j = if j = k then some r else lk2 w j := by
  intro w
  induction w with
  | nil =>
    intro j _
    show (match Nat.beq k j with | true => some r | false => none) = _
    by_cases h : j = k
    · rw [if_pos h, h, Nat.beq_refl]
    · rw [if_neg h]
      cases e : Nat.beq k j with
      | true => exact absurd (Nat.eq_of_beq_eq_true e).symm h
      | false => rfl
  | cons a w ih =>
    intro j h
    have h' : (match Nat.beq a.1 k with | true => some a.2 | false => lk2 w k) = none := h
    cases e : Nat.beq a.1 k with
    | true => rw [e] at h'; cases h'
    | false =>
      rw [e] at h'
      show (match Nat.beq a.1 j with | true => some a.2 | false => lk2 (w ++ [(k, r)]) j) = if j = k then some r else (match Nat.beq a.1 j with | true => some a.2 | false => lk2 w j)
      cases e2 : Nat.beq a.1 j with
      | true =>
        have hj := Nat.eq_of_beq_eq_true e2
        rw [if_neg (fun z => by rw [← z, ← hj, Nat.beq_refl] at e; cases e)]
      | false => exact ih j h'
theorem Pf_br {f : HS → Prop} (h1 : lk2 w k = none) (h2 : fKind c k = 2) : Pf (bH (L ++ (2, c, 0, w) :: R) σ) c L.length k (vR r) f = f (bH (L ++ (2, c, 0, w ++ [(k, r)]) :: R) σ) := by
  unfold Pf
  rw [bH_mid, wcE_O]
  dsimp only
  rw [if_pos ⟨rfl, by rw [h2]; rfl⟩, bH_put (o := (2, c, 0, w)) (q := (2, c, 0, w ++ [(k, r)])) ?_ rfl]
  rw [wcE_O]
  congr 3
  funext j
  unfold mup
  rw [lk2_app w j h1]
  by_cases hj : j = k
  · rw [if_pos hj, if_pos hj]
  · rw [if_neg hj, if_neg hj]
theorem Pf_bi {f : HS → Prop} (h1 : lk2 w k = none) (h2 : ¬ fKind c k = 2) (h3 : okV (fKind c k) (vI x) = true) : Pf (bH (L ++ (2, c, 0, w) :: R) σ) c L.length k (vI x) f = f (bH (L ++ (2, c, 0, w) :: R) (su σ L.length k x)) := by
  unfold Pf
  rw [bH_mid, wcE_O]
  dsimp only
  rw [if_pos ⟨rfl, h3⟩, bH_su (τ := su σ L.length k x) ?_ (fun id h => su_ne h)]
  rw [gd_mid, wcE_O]
  congr 3
  funext j
  unfold mup
  by_cases hj : j = k
  · subst hj
    rw [if_pos rfl, h1, if_neg h2, su_eq]
  · rw [if_neg hj, su_off (by omega)]
theorem Gf_br {f : V → Prop} (h1 : (lk2 w k).isSome = true) : Gf (bH (L ++ (2, c, 0, w) :: R) σ) c L.length k f = f (vR ((lk2 w k).getD 0)) := by
  unfold Gf
  rw [bH_mid, wcE_O]
  dsimp only
  rw [if_pos rfl]
  cases h : lk2 w k with
  | none => rw [h] at h1; cases h1
  | some r => rfl
theorem su_z {a : Nat} {i : Int} (h : σ a = z0) : su σ a i 0 = σ := by
  funext b j
  by_cases hb : b = a
  · subst hb
    rw [su_at]
    split
    · rw [h]; rfl
    · rfl
  · rw [su_ne hb]
theorem oB {m : Nat} : isObj (bH (L ++ (2, c, m, w) :: R) σ) c (vR L.length) = true := by
  show (match hget (bH (L ++ (2, c, m, w) :: R) σ) L.length with | some (.inr (.inr (c2, _))) => c2 == c | _ => false) = true
  rw [bH_mid, wcE_O]
  exact beq_self_eq_true c
theorem oBn {m : Nat} : isObj (bH (L ++ o :: (R ++ (2, c, m, w) :: T)) σ) c (vR (L.length + (R.length + 1))) = true := by
  have h := oB (L := L ++ o :: R) (R := T) (c := c) (m := m) (w := w) (σ := σ)
  rw [mid_len, mid_app] at h
  exact h
/-- a reference put into the row of them behind an object -/
theorem Sr_1 {f : HS → Prop} {i : Int} (hc : c = 3 ∨ c = 8) (i0 : 0 ≤ i) (i1 : i < (n : Int)) (hn : n < 2147483648) (hw : lk2 w i.toNat = none) (ho : isObj (bH (L ++ o :: (((1, c, n, w) :: T) ++ X)) σ) c (vR r) = true) : Sr (bH (L ++ o :: (((1, c, n, w) :: T) ++ X)) σ) (L.length + 1) i r f = f (bH (L ++ o :: (((1, c, n, w ++ [(i.toNat, r)]) :: T) ++ X)) σ) := by
  have e : ∀ y : Sh, L ++ o :: ((y :: T) ++ X) = (L ++ [o]) ++ y :: (T ++ X) := fun y => by simp
  have el : L.length + 1 = (L ++ [o]).length := by simp
  unfold Sr
  rw [e] at ho
  rw [e, e, el, bH_mid]
  show (if (c = 3 ∨ c = 8) ∧ 0 ≤ i ∧ i < (n : Int) ∧ n < 2147483648 ∧ isObj (bH (L ++ [o] ++ (1, c, n, w) :: (T ++ X)) σ) c (vR r) = true then _ else False) = _
  rw [if_pos ⟨hc, i0, i1, hn, ho⟩, bH_put (o := (1, c, n, w)) (q := (1, c, n, w ++ [(i.toNat, r)])) ?_ rfl]
  show eR c n _ = eR c n _
  congr 3
  funext j
  unfold mup
  rw [lk2_app w j hw]
theorem Sr_2 {f : HS → Prop} {i : Int} (hc : c = 3 ∨ c = 8) (i0 : 0 ≤ i) (i1 : i < (n : Int)) (hn : n < 2147483648) (hw : lk2 w i.toNat = none) (ho : isObj (bH (L ++ o :: ((A :: (1, c, n, w) :: T) ++ X)) σ) c (vR r) = true) : Sr (bH (L ++ o :: ((A :: (1, c, n, w) :: T) ++ X)) σ) (L.length + 2) i r f = f (bH (L ++ o :: ((A :: (1, c, n, w ++ [(i.toNat, r)]) :: T) ++ X)) σ) := by
  have e : ∀ y : Sh, L ++ o :: ((A :: y :: T) ++ X) = (L ++ [o, A]) ++ y :: (T ++ X) := fun y => by simp
  have el : L.length + 2 = (L ++ [o, A]).length := by simp
  unfold Sr
  rw [e] at ho
  rw [e, e, el, bH_mid]
  show (if (c = 3 ∨ c = 8) ∧ 0 ≤ i ∧ i < (n : Int) ∧ n < 2147483648 ∧ isObj (bH (L ++ [o, A] ++ (1, c, n, w) :: (T ++ X)) σ) c (vR r) = true then _ else False) = _
  rw [if_pos ⟨hc, i0, i1, hn, ho⟩, bH_put (o := (1, c, n, w)) (q := (1, c, n, w ++ [(i.toNat, r)])) ?_ rfl]
  show eR c n _ = eR c n _
  congr 3
  funext j
  unfold mup
  rw [lk2_app w j hw]
theorem Wa_b {a : Nat} {i : Int} {f : HS → Prop} (hq : qs.getD a (9, 0, 0, []) = (0, ty, n, [])) (ha : a < qs.length) (hn : n < 2147483648) (h0 : 0 ≤ i) (h1 : i < n) : Wa (bH qs σ) ty a i x f = f (bH qs (su σ a i x)) := by
  have hg : hget (bH qs σ) a = some (wcE (0, ty, n, []) (σ a)) := by
    show (if a < qs.length then some (wcE (qs.getD a (9, 0, 0, [])) (σ a)) else none) = _
    rw [if_pos ha, hq]
  unfold Wa wrA
  rw [hg, wcE_A]
  dsimp only
  rw [if_pos ⟨rfl, h0, h1, hn⟩, bH_su (τ := su σ a i x) ?_ (fun id h => su_ne h)]
  rw [hq, wcE_A]
  congr 3
  funext j
  unfold mup
  by_cases hj : j = i.toNat
  · rw [if_pos hj, show (j : Int) = i by omega, su_eq]
  · rw [if_neg hj, su_off (by omega)]
theorem La_b {a : Nat} {f : Int → Prop} (hq : qs.getD a (9, 0, 0, []) = (0, ty, n, [])) (ha : a < qs.length) (ht : ty < 3) (hn : n < 2147483648) : La (bH qs σ) a f = f n := by
  have hg : hget (bH qs σ) a = some (wcE (0, ty, n, []) (σ a)) := by
    show (if a < qs.length then some (wcE (qs.getD a (9, 0, 0, [])) (σ a)) else none) = _
    rw [if_pos ha, hq]
  unfold La
  rw [hg, wcE_A]
  dsimp only
  rw [if_pos ⟨ht, hn⟩]
end Bh
/-- the rows of numbers from a on -/
def wn (σ : St) (a len : Nat) (p : Nat → Int → Int) : St := fun id => if a ≤ id ∧ id < a + len then p (id - a) else σ id
theorem wn_out {σ : St} {a len id : Nat} {p : Nat → Int → Int} (h : id < a ∨ a + len ≤ id) : wn σ a len p id = σ id := by unfold wn; rw [if_neg (by omega)]
/-- a constructor: y, of class c, makes the cells P and the numbers p -/
def Ct (sc : Scr) (d y c : Nat) (tl : LV) (len : Nat) (P : Nat → List Sh) (p : Nat → Int → Int) : Prop := (∀ a, (P a).length = len) ∧ ∀ (L : List Sh) (σ : St) (Q : Rs → HS → Prop), (∀ id, L.length ≤ id → σ id = z0) → (Ex sc d y 0 (some (vR L.length) :: tl) [] (bH (L ++ [(2, c, 0, [])]) σ) Q ↔ Q (.inl none) (bH (L ++ P L.length) (wn σ L.length len p)))
theorem Ct.nest {sc : Scr} {d y c len : Nat} {tl : LV} {P : Nat → List Sh} {p : Nat → Int → Int} (h : Ct sc d y c tl len P p) {L R : List Sh} {o : Sh} {σ : St} {Q : Rs → HS → Prop} (hz : ∀ id, L.length + (R.length + 1) ≤ id → σ id = z0) : Ex sc d y 0 (some (vR (L.length + (R.length + 1))) :: tl) [] (bH (L ++ o :: (R ++ [(2, c, 0, [])])) σ) Q ↔ Q (.inl none) (bH (L ++ o :: (R ++ P (L.length + (R.length + 1)))) (wn σ (L.length + (R.length + 1)) len p)) := by
  have e := h.2 (L ++ o :: R) σ Q (by rw [mid_len]; exact hz)
  rw [mid_len, mid_app, mid_app] at e
  exact e
