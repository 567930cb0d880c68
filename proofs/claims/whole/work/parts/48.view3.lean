/-! a hall after a row was added, or went (reference) -/
theorem rsF_snoc {σ : St} {h : Int} : ∀ (k : Nat) (n : Int), rsF σ h (k + 1) n = rsF σ h k n ++ if σ 377 (200 * h + (n + k)) = 1 then [rwR σ h (n + k)] else [] := by
  intro k
  induction k with
  | zero =>
    intro n
    rw [rsF, rsF, rsF, Int.natCast_zero, Int.add_zero, List.nil_append]
  | succ k ih =>
    intro n
    rw [rsF, ih (n + 1), rsF]
    rw [show n + 1 + (k : Int) = n + ((k + 1 : Nat) : Int) by omega]
    split
    · rw [List.cons_append]
    · rfl
theorem rsF_ext {σ τ : St} {h h' : Int} : ∀ (k : Nat) (n : Int), (∀ i, n ≤ i → i < n + k → τ 377 (200 * h' + i) = σ 377 (200 * h + i) ∧ rwR τ h' i = rwR σ h i) → rsF τ h' k n = rsF σ h k n := by
  intro k
  induction k with
  | zero => intro n _; rfl
  | succ k ih =>
    intro n H
    obtain ⟨a, b⟩ := H n (by omega) (by omega)
    rw [rsF, rsF, a, b, ih (n + 1) (fun i i0 i1 => H i (by omega) (by omega))]
/-- what add leaves -/
def AddF (σ τ : St) (h t x y z : Int) : Prop := (∀ c, c ≠ 377 → c ≠ 378 → c ≠ 379 → c ≠ 380 → c ≠ 381 → c ≠ 385 → τ c = σ c) ∧ (∀ j, τ 377 j = if j = 200 * h + σ 381 h then 1 else σ 377 j) ∧ (∀ j, τ 378 j = if j = 200 * h + σ 381 h then t else σ 378 j) ∧ (∀ j, τ 379 j = if j = 3 * (200 * h + σ 381 h) then x else if j = 3 * (200 * h + σ 381 h) + 1 then y else if j = 3 * (200 * h + σ 381 h) + 2 then z else σ 379 j) ∧ (∀ j, τ 380 j = if j = 200 * h + σ 381 h then -1 else σ 380 j) ∧ (∀ j, τ 381 j = if j = h then σ 381 h + 1 else σ 381 j) ∧
  ∀ j, τ 385 j = if (1000 ≤ x ∧ j = 100 * h + x - 1000) ∨ (2 ≤ σ 374 (26 * h + t) ∧ 1000 ≤ y ∧ j = 100 * h + y - 1000) ∨ (3 ≤ σ 374 (26 * h + t) ∧ 1000 ≤ z ∧ j = 100 * h + z - 1000) then 1 else σ 385 j
section V4
variable {σ τ : St} {h t x y z : Int}
theorem AddF.wf (A : AddF σ τ h t x y z) (W : WfM σ) (h1 : 0 ≤ h) (h2 : h ≤ 4) (hn : σ 381 h ≤ 199) (t1 : 0 ≤ t) (t2 : t ≤ 25) (hx : isTm x) (hy : isTm y) (hz : isTm z) : WfM τ := by
  obtain ⟨e, e7, e8, e9, e0, e1, e5⟩ := A
  have w := W.nxt h1 h2
  refine WfM.mk W ?_ ?_ ?_ ?_ ?_ ?_ ?_ ?_ ?_ ?_ ?_ ?_ ?_
  · rw [e 374 (by omega) (by omega) (by omega) (by omega) (by omega) (by omega)]; exact W.p4
  · rw [e 375 (by omega) (by omega) (by omega) (by omega) (by omega) (by omega)]; exact W.p5
  · intro i i0 i1; exact okU_c (W.p6 i i0 i1) (fun k _ _ => by rw [e 376 (by omega) (by omega) (by omega) (by omega) (by omega) (by omega)])
  · intro i i0 i1; rw [e7]; split; exact Or.inr rfl; exact W.p7 i i0 i1
  · intro i i0 i1; rw [e8]; split; omega; exact W.p8 i i0 i1
  · intro i i0 i1; rw [e9]; split; exact hx; split; exact hy; split; exact hz; exact W.p9 i i0 i1
  · intro i i0 i1; rw [e0]; split; omega; exact W.p0 i i0 i1
  · intro i i0 i1; rw [e1]; split; omega; exact W.p1 i i0 i1
  · rw [e 382 (by omega) (by omega) (by omega) (by omega) (by omega) (by omega)]; exact W.p2
  · rw [e 383 (by omega) (by omega) (by omega) (by omega) (by omega) (by omega)]; exact W.p3
  · intro i i0 i1; rw [e5]; split; exact Or.inr rfl; exact W.pa i i0 i1
  · exact e 386 (by omega) (by omega) (by omega) (by omega) (by omega) (by omega)
  · rw [e 373 (by omega) (by omega) (by omega) (by omega) (by omega) (by omega)]
theorem AddF.q (A : AddF σ τ h t x y z) (W : WfM σ) (h1 : 0 ≤ h) (h2 : h ≤ 4) (hn : σ 381 h ≤ 199) (hx : isTm x) (hy : isTm y) (hz : isTm z) {g : Int} (hg : g ≠ h) : HQ σ g τ g := by
  obtain ⟨e, e7, e8, e9, e0, e1, e5⟩ := A
  have w := W.nxt h1 h2
  have wx := isTm_in hx
  have wy := isTm_in hy
  have wz := isTm_in hz
  refine ⟨HQa.of (fun c a b => e c (by omega) (by omega) (by omega) (by omega) (by omega) (by omega)), ⟨fun n n0 n1 => ⟨?_, ?_⟩, fun n _ _ => ?_, ?_, fun k k0 k1 => ?_⟩, ⟨fun n n0 n1 => ?_, ?_, ?_, fun k _ _ => ?_⟩⟩
  · rw [e7, if_neg (by omega)]
  · rw [e8, if_neg (by omega)]
  · rw [e9, if_neg (by omega), if_neg (by omega), if_neg (by omega)]
  · rw [e1, if_neg hg]
  · rw [e5, if_neg (by omega)]
  · rw [e0, if_neg (by omega)]
  · rw [e 382 (by omega) (by omega) (by omega) (by omega) (by omega) (by omega)]
  · rw [e 383 (by omega) (by omega) (by omega) (by omega) (by omega) (by omega)]
  · rw [e 384 (by omega) (by omega) (by omega) (by omega) (by omega) (by omega)]
theorem AddF.a (A : AddF σ τ h t x y z) {g : Int} : HQa σ g τ g := HQa.of (fun c a b => A.1 c (by omega) (by omega) (by omega) (by omega) (by omega) (by omega))
theorem AddF.rest (A : AddF σ τ h t x y z) : RsR σ τ := RsR.of (fun c _ _ => A.1 c (by omega) (by omega) (by omega) (by omega) (by omega) (by omega)) (fun j _ => by rw [A.1 373 (by omega) (by omega) (by omega) (by omega) (by omega) (by omega)])
theorem AddF.rn (A : AddF σ τ h t x y z) (W : WfM σ) (h1 : 0 ≤ h) (h2 : h ≤ 4) (hn : σ 381 h ≤ 199) (t1 : 0 ≤ t) (t2 : t ≤ 25) (hx : isTm x) (hy : isTm y) (hz : isTm z) : rnR τ h = (rsR σ h ++ [(σ 381 h, t, nrm (σ 374 (26 * h + t)) x y z)], σ 381 h + 1, mkU (naR σ h) (t, nrm (σ 374 (26 * h + t)) x y z), stR σ h, byR σ h) := by
  obtain ⟨e, e7, e8, e9, e0, e1, e5⟩ := A
  have w := W.nxt h1 h2
  have wx := isTm_in hx
  have wy := isTm_in hy
  have wz := isTm_in hz
  have hnx : τ 381 h = σ 381 h + 1 := by rw [e1, if_pos rfl]
  have e4 : τ 374 = σ 374 := e 374 (by omega) (by omega) (by omega) (by omega) (by omega) (by omega)
  have er : rsR τ h = rsR σ h ++ [(σ 381 h, t, nrm (σ 374 (26 * h + t)) x y z)] := by
    unfold rsR
    rw [hnx, show (σ 381 h + 1).toNat = (σ 381 h).toNat + 1 by omega, rsF_snoc]
    congr 1
    · apply rsF_ext
      intro i i0 i1
      have hi : i < σ 381 h := by omega
      refine ⟨by rw [e7, if_neg (by omega)], ?_⟩
      unfold rwR
      rw [e4, e8, if_neg (by omega), e9, if_neg (by omega), if_neg (by omega), if_neg (by omega), e9, if_neg (by omega), if_neg (by omega), if_neg (by omega), e9, if_neg (by omega), if_neg (by omega), if_neg (by omega)]
    · rw [show (0 : Int) + ((σ 381 h).toNat : Int) = σ 381 h by omega, e7, if_pos rfl, if_pos rfl]
      unfold rwR
      rw [e4, e8, if_pos rfl, e9, if_pos rfl, e9, if_neg (by omega), if_pos rfl, e9, if_neg (by omega), if_neg (by omega), if_pos rfl]
  have en : naR τ h = mkU (naR σ h) (t, nrm (σ 374 (26 * h + t)) x y z) := by
    funext k
    unfold naR mkU nrm
    dsimp only
    by_cases hk : 0 ≤ k ∧ k ≤ 99
    · rw [if_pos hk, if_pos hk, e5]
      by_cases h2 : 2 ≤ σ 374 (26 * h + t)
      · rw [if_pos h2]
        by_cases h3 : 3 ≤ σ 374 (26 * h + t)
        · rw [if_pos h3]
          by_cases q : (x = 1000 + k ∨ y = 1000 + k ∨ z = 1000 + k)
          · rw [if_pos (by omega), if_pos (by omega)]
          · rw [if_neg (by omega), if_neg (by omega)]
        · rw [if_neg h3]
          by_cases q : (x = 1000 + k ∨ y = 1000 + k)
          · rw [if_pos (by omega), if_pos (by omega)]
          · rw [if_neg (by omega), if_neg (by omega)]
      · rw [if_neg h2]
        by_cases h3 : 3 ≤ σ 374 (26 * h + t)
        · omega
        · rw [if_neg h3]
          by_cases q : x = 1000 + k
          · rw [if_pos (by omega), if_pos (by omega)]
          · rw [if_neg (by omega), if_neg (by omega)]
    · rw [if_neg hk, if_neg hk]
      rw [if_neg]
      rintro ⟨k0, q⟩
      by_cases h2 : 2 ≤ σ 374 (26 * h + t)
      · rw [if_pos h2] at q
        by_cases h3 : 3 ≤ σ 374 (26 * h + t)
        · rw [if_pos h3] at q; omega
        · rw [if_neg h3] at q; omega
      · rw [if_neg h2] at q
        by_cases h3 : 3 ≤ σ 374 (26 * h + t)
        · omega
        · rw [if_neg h3] at q; omega
  have es : stR τ h = stR σ h := by
    have e3 : τ 383 = σ 383 := e 383 (by omega) (by omega) (by omega) (by omega) (by omega) (by omega)
    have e4 : τ 384 = σ 384 := e 384 (by omega) (by omega) (by omega) (by omega) (by omega) (by omega)
    have : ∀ (k : Nat) (i : Int), stF τ h k i = stF σ h k i := by
      intro k
      induction k with
      | zero => intro i; rfl
      | succ k ih => intro i; rw [stF, stF, ih, e4]
    unfold stR
    rw [e3, this]
  have eb : byR τ h = byR σ h := by
    funext n
    unfold byR
    rw [hnx]
    by_cases q : 0 ≤ n ∧ n < σ 381 h
    · rw [if_pos (by omega), if_pos q, e0, if_neg (by omega)]
    · rw [if_neg q]
      by_cases q2 : 0 ≤ n ∧ n < σ 381 h + 1
      · rw [if_pos q2, e0, if_pos (by omega)]
      · rw [if_neg q2]
  unfold rnR
  rw [er, hnx, en, es, eb]
end V4
/-- rows that are there, filtered: what rows that go leave -/
theorem rsF_filter {σ τ : St} {h : Int} {p : Rw → Bool} : ∀ (k : Nat) (n : Int), (∀ i, n ≤ i → i < n + k → rwR τ h i = rwR σ h i ∧ (τ 377 (200 * h + i) = 1 ↔ σ 377 (200 * h + i) = 1 ∧ p (rwR σ h i) = true)) → rsF τ h k n = (rsF σ h k n).filter p := by
  intro k
  induction k with
  | zero => intro n _; rfl
  | succ k ih =>
    intro n H
    obtain ⟨a, b⟩ := H n (by omega) (by omega)
    rw [rsF, rsF, a, ih (n + 1) (fun i i0 i1 => H i (by omega) (by omega))]
    by_cases q : σ 377 (200 * h + n) = 1
    · rw [if_pos q]
      by_cases hp : p (rwR σ h n) = true
      · rw [if_pos (b.mpr ⟨q, hp⟩), List.filter_cons_of_pos hp]
      · rw [if_neg (fun z => hp (b.mp z).2), List.filter_cons_of_neg hp]
    · rw [if_neg q, if_neg (fun z => q (b.mp z).1)]
