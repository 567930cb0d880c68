/-! tokens in a row -/
def tcOk (t : Int) : Prop := (0 ≤ t ∧ t ≤ 6) ∨ (100 ≤ t ∧ t ≤ 125) ∨ (200 ≤ t ∧ t ≤ 225) ∨ (300 ≤ t ∧ t ≤ 399) ∨ t = 540 ∨ t = 541 ∨ t = 544 ∨ t = 559 ∨ t = 561 ∨ t = 563
def kdT (t : Int) : Int := if t ≤ 5 then t else if t = 6 then 15 else if t ≤ 125 then 6 else if t ≤ 225 then 7 else if t ≤ 399 then 8 else if t = 540 then 9 else if t = 541 then 10 else if t = 544 then 11 else if t = 559 then 12 else if t = 563 then 13 else 14
def vlT (t : Int) : Int := if t ≤ 99 then 0 else if t ≤ 125 then t - 100 else if t ≤ 225 then t - 200 else if t ≤ 399 then t - 300 else 0
theorem kd_iff {t : Int} (h : tcOk t) : (0 ≤ kdT t ∧ kdT t ≤ 15) ∧ (kdT t = 0 ↔ t = 0) ∧ (kdT t = 2 ↔ t = 2) ∧ (kdT t = 3 ↔ t = 3) ∧ (kdT t = 4 ↔ t = 4) ∧ (kdT t = 5 ↔ t = 5) ∧ (kdT t = 6 ↔ 100 ≤ t ∧ t ≤ 125) ∧ (kdT t = 7 ↔ 200 ≤ t ∧ t ≤ 225) ∧ (kdT t = 8 ↔ 300 ≤ t ∧ t ≤ 399) ∧ (kdT t = 9 ↔ t = 540) ∧ (kdT t = 10 ↔ t = 541) ∧ (kdT t = 11 ↔ t = 544) ∧ (kdT t = 12 ↔ t = 559) ∧ (kdT t = 13 ↔ t = 563) ∧ (kdT t = 14 ↔ t = 561) ∧ (kdT t = 15 ↔ t = 6) := by
  unfold tcOk at h
  unfold kdT
  repeat' split
  all_goals omega
theorem vl_v {t : Int} (h : tcOk t) : ((100 ≤ t ∧ t ≤ 125) → vlT t = t - 100) ∧ ((200 ≤ t ∧ t ≤ 225) → vlT t = t - 200) ∧ ((300 ≤ t ∧ t ≤ 399) → vlT t = t - 300) ∧ (0 ≤ vlT t ∧ vlT t ≤ 99) := by
  unfold tcOk at h
  unfold vlT
  repeat' split
  all_goals omega
theorem wrd_ok {f : Int → Int} {q n : Int} (h : isLt (f q) = true) : tcOk (wrdK f q n) := by
  rw [isLt_n] at h
  unfold wrdK tcOk
  split
  · split <;> omega
  · repeat' split
    all_goals omega
theorem nx_code {f : Int → Int} {n p : Int} (h1 : p ≤ n) : tcOk (nxT f n p).1 := by
  unfold nxT
  have s := spn_v (f := f) (n := n) (p := p) (q := isSp) h1
  generalize spn f n isSp p = q at *
  unfold tokA
  by_cases hq : q < n
  · rw [if_neg (by omega)]
    by_cases hl : isLt (f q) = true
    · rw [if_pos hl]
      exact wrd_ok hl
    · rw [if_neg hl]
      by_cases hd : isDg (f q) = true
      · rw [if_pos hd]
        have t := spn_v (f := f) (n := n) (p := q) (q := isDg) (by omega)
        dsimp only
        unfold numK tcOk
        split
        · rw [isDg_n] at hd
          split
          · omega
          · rename_i c1 c2
            have t1 : q < spn f n isDg q := by
              by_cases e : spn f n isDg q = q
              · have := t.2.2.2 (by omega)
                rw [e, isDg_n.mpr hd] at this
                cases this
              · omega
            have := t.2.2.1 (q + 1) (by omega) (by omega)
            rw [isDg_n] at this
            omega
        · omega
      · rw [if_neg hd]
        unfold tcOk
        split
        · dsimp only; omega
        · split
          · dsimp only; omega
          · dsimp only; omega
  · rw [if_pos hq]
    exact Or.inl ⟨by show (0 : Int) ≤ 0; decide, by show (0 : Int) ≤ 6; decide⟩
theorem nx_sp {f : Int → Int} {n p : Int} (hp : p < n) (hs : isSp (f p) = true) : nxT f n p = nxT f n (p + 1) := by
  have e : spn f n isSp p = spn f n isSp (p + 1) := by
    unfold spn
    rw [show (n - p).toNat = (n - (p + 1)).toNat + 1 by omega, spanF]
    have : isSp (chT f n p) = true := by unfold chT; rw [if_pos hp]; exact hs
    rw [if_pos this]
  unfold nxT
  rw [e]
theorem nx_ns {f : Int → Int} {n p : Int} (hp : p < n) (hs : isSp (f p) = false) : nxT f n p = tokA f n p := by
  have e : spn f n isSp p = p := by
    unfold spn
    rw [show (n - p).toNat = (n - (p + 1)).toNat + 1 by omega, spanF]
    have : isSp (chT f n p) = false := by unfold chT; rw [if_pos hp]; exact hs
    rw [if_neg (by rw [this]; simp)]
  unfold nxT
  rw [e]
theorem nx_end {f : Int → Int} {n : Int} : nxT f n n = (0, n, n) := by
  have e : spn f n isSp n = n := by
    unfold spn
    rw [Int.sub_self]
    rfl
  unfold nxT
  rw [e]
  unfold tokA
  rw [if_pos (by omega)]
/-- all tokens from a place on -/
def tkL (f : Int → Int) (n : Int) : Nat → Int → List Ps
  | 0, _ => []
  | k + 1, p => if (nxT f n p).1 = 0 then [nxT f n p] else nxT f n p :: tkL f n k (nxT f n p).2.2
theorem tkL_sp {f : Int → Int} {n p : Int} {k : Nat} (hp : p < n) (hs : isSp (f p) = true) : tkL f n (k + 1) p = tkL f n (k + 1) (p + 1) := by
  rw [tkL, tkL, nx_sp hp hs]
theorem tkL_more {f : Int → Int} {n : Int} : ∀ (k m : Nat) (p : Int), 0 ≤ p → p ≤ n → n - p < k → k ≤ m → tkL f n m p = tkL f n k p := by
  intro k
  induction k with
  | zero => intro m p p0 p1 hk; omega
  | succ k ih =>
    intro m p p0 p1 hk hm
    cases m with
    | zero => omega
    | succ m =>
      have e := tok_e (f := f) p0 p1
      rw [tkL, tkL]
      by_cases h : (nxT f n p).1 = 0
      · rw [if_pos h, if_pos h]
      · have := e.2.2.2.2.2 h
        rw [if_neg h, if_neg h, ih m _ (by omega) (by omega) (by omega) (by omega)]
theorem tkL_v {f : Int → Int} {n : Int} : ∀ (k : Nat) (p : Int), 0 ≤ p → p ≤ n → n - p < k → 1 ≤ (tkL f n k p).length ∧ ((tkL f n k p).length : Int) ≤ n - p + 1 ∧ (tkL f n k p)[0]? = some (nxT f n p) ∧ (∀ (i : Nat) (s : Ps), (tkL f n k p)[i]? = some s → tcOk s.1 ∧ (0 ≤ s.2.1 ∧ s.2.1 ≤ n) ∧ (0 ≤ s.2.2 ∧ s.2.2 ≤ n) ∧ (s.1 = 0 ↔ i + 1 = (tkL f n k p).length) ∧ (s.1 = 0 → s = (0, n, n)) ∧ (i + 1 < (tkL f n k p).length → (tkL f n k p)[i + 1]? = some (nxT f n s.2.2))) := by
  intro k
  induction k with
  | zero => intro p p0 p1 hk; omega
  | succ k ih =>
    intro p p0 p1 hk
    have e := tok_e (f := f) p0 p1
    have c := nx_code (f := f) p1
    have z : (nxT f n p).1 = 0 → nxT f n p = (0, n, n) := fun h => by
      have a := e.2.2.2.2.1.mp h
      have b : (nxT f n p).2.2 = n := by omega
      have : nxT f n p = ((nxT f n p).1, (nxT f n p).2.1, (nxT f n p).2.2) := rfl
      rw [this, h, a, b]
    rw [tkL]
    by_cases h : (nxT f n p).1 = 0
    · rw [if_pos h]
      refine ⟨Nat.le_refl _, by rw [List.length_singleton]; omega, rfl, fun i s hi => ?_⟩
      have hi0 := (List.getElem?_eq_some_iff.mp hi).1
      rw [List.length_singleton] at hi0
      obtain rfl : i = 0 := by omega
      have hs : nxT f n p = s := Option.some.inj hi
      subst hs
      exact ⟨c, by omega, by omega, ⟨fun _ => rfl, fun _ => h⟩, z, fun hl => by rw [List.length_singleton] at hl; omega⟩
    · rw [if_neg h]
      have hp := e.2.2.2.2.2 h
      obtain ⟨a1, a2, a3, a4⟩ := ih (nxT f n p).2.2 (by omega) (by omega) (by omega)
      refine ⟨by rw [List.length_cons]; omega, by rw [List.length_cons]; omega, rfl, fun i s hi => ?_⟩
      cases i with
      | zero =>
        have hs : nxT f n p = s := Option.some.inj hi
        subst hs
        refine ⟨c, by omega, by omega, ⟨fun q => absurd q h, fun q => by rw [List.length_cons] at q; omega⟩, z, fun _ => ?_⟩
        rw [List.getElem?_cons_succ]
        exact a3
      | succ i =>
        rw [List.getElem?_cons_succ] at hi
        obtain ⟨b1, b2, b3, b4, b5, b6⟩ := a4 i s hi
        refine ⟨b1, b2, b3, ?_, b5, fun hl => ?_⟩
        · rw [b4, List.length_cons]
          omega
        · rw [List.length_cons] at hl
          rw [List.getElem?_cons_succ]
          exact b6 (by omega)
