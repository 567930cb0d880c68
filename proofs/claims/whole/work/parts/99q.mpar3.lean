/-! the reference reads: what is written into rules -/
def fOk (f v : Int) : Prop := (f = 0 ∨ f = 2 → 0 ≤ v ∧ v ≤ 3) ∧ (f = 1 → 0 ≤ v ∧ v ≤ 2) ∧ (f = 27 ∨ f = 28 → isPl v) ∧ (3 ≤ f → f ≤ 26 → (f - 3) % 4 = 0 → 0 ≤ v ∧ v ≤ 25) ∧ (3 ≤ f → f ≤ 26 → (f - 3) % 4 ≠ 0 → isPl v)
theorem WfM.su6 {τ : St} (W : WfM τ) {i f v : Int} (i0 : 0 ≤ i) (i1 : i < 50) (f0 : 0 ≤ f) (f1 : f ≤ 29) (h : fOk f v) : WfM (su τ 376 (30 * i + f) v) := by
  obtain ⟨k0, k1, k2, k3, k4⟩ := h
  have ne : ∀ c, c ≠ 376 → su τ 376 (30 * i + f) v c = τ c := fun c hc => su_ne hc
  refine W.mk ?_ ?_ ?_ ?_ ?_ ?_ ?_ ?_ ?_ ?_ ?_ ?_ ?_
  case refine_3 =>
    intro i' i0' i1'
    have w := W.p6 i' i0' i1'
    obtain ⟨a, b, c, e, g, k⟩ := w
    have rd : ∀ o, 0 ≤ o → o ≤ 29 → su τ 376 (30 * i + f) v 376 (30 * i' + o) = if i' = i ∧ o = f then v else τ 376 (30 * i' + o) := fun o o0 o1 => by
      by_cases q : i' = i ∧ o = f
      · rw [if_pos q, q.1, q.2, su_eq]
      · rw [if_neg q, su_off (by omega)]
    unfold okU
    have r0 := rd 0 (by omega) (by omega)
    rw [Int.add_zero] at r0
    rw [r0, rd 1 (by omega) (by omega), rd 2 (by omega) (by omega), rd 27 (by omega) (by omega), rd 28 (by omega) (by omega)]
    refine ⟨?_, ?_, ?_, ?_, ?_, fun j j0 j1 => ?_⟩
    · split
      · rename_i q
        exact k0 (by omega)
      · exact a
    · split
      · rename_i q
        exact k1 (by omega)
      · exact b
    · split
      · rename_i q
        exact k0 (by omega)
      · exact c
    · split
      · rename_i q
        exact k2 (by omega)
      · exact e
    · split
      · rename_i q
        exact k2 (by omega)
      · exact g
    · obtain ⟨x1, x2, x3, x4⟩ := k j j0 j1
      rw [rd (3 + 4 * j) (by omega) (by omega), rd (3 + 4 * j + 1) (by omega) (by omega), rd (3 + 4 * j + 2) (by omega) (by omega), rd (3 + 4 * j + 3) (by omega) (by omega)]
      refine ⟨?_, ?_, ?_, ?_⟩
      · split
        · rename_i q
          exact k3 (by omega) (by omega) (by omega)
        · exact x1
      · split
        · rename_i q
          exact k4 (by omega) (by omega) (by omega)
        · exact x2
      · split
        · rename_i q
          exact k4 (by omega) (by omega) (by omega)
        · exact x3
      · split
        · rename_i q
          exact k4 (by omega) (by omega) (by omega)
        · exact x4
  all_goals rw [ne _ (by omega)]
  · exact W.p4
  · exact W.p5
  · exact W.p7
  · exact W.p8
  · exact W.p9
  · exact W.p0
  · exact W.p1
  · exact W.p2
  · exact W.p3
  · exact W.pa
theorem fOk_t {j v : Int} (j0 : 0 ≤ j) (j1 : j ≤ 5) (h : 0 ≤ v ∧ v ≤ 25) : fOk (3 + 4 * j) v := ⟨fun z => by omega, fun z => by omega, fun z => by omega, fun _ _ _ => h, fun _ _ z => by omega⟩
theorem fOk_p {j c v : Int} (j0 : 0 ≤ j) (j1 : j ≤ 5) (c0 : 0 ≤ c) (c1 : c ≤ 2) (h : isPl v) : fOk (3 + 4 * j + 1 + c) v := ⟨fun z => by omega, fun z => by omega, fun z => by omega, fun _ _ z => by omega, fun _ _ _ => h⟩
/-- reading an atom's side of a rule: what changes -/
def Fpb (h r s : Int) (σ τ : St) : Prop := (∀ c, c ≠ 373 → c ≠ 376 → c ≠ 387 → τ c = σ c) ∧ (∀ j, j < 15 ∨ 19 < j → j ≠ 22 → τ 373 j = σ 373 j) ∧ ∀ k, (∀ f, 0 ≤ f → f ≤ 29 → (f = 2 * s ∨ (3 + 12 * s ≤ f ∧ f < 15 + 12 * s)) → k ≠ 30 * (10 * h + r) + f) → τ 376 k = σ 376 k
section L3
variable {h r s : Int}
theorem Fpb.refl {σ : St} : Fpb h r s σ σ := ⟨fun _ _ _ _ => rfl, fun _ _ _ => rfl, fun _ _ => rfl⟩
theorem Fpb.trans {σ τ ρ : St} (h1 : Fpb h r s σ τ) (h2 : Fpb h r s τ ρ) : Fpb h r s σ ρ := ⟨fun c a b e => (h2.1 c a b e).trans (h1.1 c a b e), fun j a b => (h2.2.1 j a b).trans (h1.2.1 j a b), fun k a => (h2.2.2 k a).trans (h1.2.2 k a)⟩
theorem Fpa.pb {σ τ : St} (h1 : Fpa σ τ) : Fpb h r s σ τ := ⟨fun c a _ b => h1.1 c a b, h1.2, fun k _ => by rw [h1.1 376 (by omega) (by omega)]⟩
theorem Fpb.su_ {σ : St} {f v : Int} (f0 : 0 ≤ f) (f1 : f ≤ 29) (hf : f = 2 * s ∨ (3 + 12 * s ≤ f ∧ f < 15 + 12 * s)) : Fpb h r s σ (su σ 376 (30 * (10 * h + r) + f) v) := ⟨fun c _ a _ => su_ne a, fun j _ _ => by rw [su_ne (by omega)], fun k hk => su_off (hk f f0 f1 hf)⟩
theorem Fpb.tx {σ τ : St} (F : Fpb h r s σ τ) : τ 386 = σ 386 ∧ τ 373 14 = σ 373 14 := ⟨F.1 386 (by omega) (by omega) (by omega), F.2.1 14 (by omega) (by omega)⟩
theorem Fpb.co {σ τ : St} (F : Fpb h r s σ τ) {g : Int} : coR τ g = coR σ g := by
  unfold coR
  rw [F.1 374 (by omega) (by omega) (by omega)]
end L3
/-- an atom out of its list of places -/
theorem atL_nrm {t m : Int} {l : List Int} {f : Int → Int} (hl : (l.length : Int) = m) (m1 : 1 ≤ m) (m3 : m ≤ 3) (hf : ∀ i : Nat, i < 3 → f i = l.getD i 0) : atL t l = (t, nrm m (f 0) (f 1) (f 2)) := by
  have f0 := hf 0 (by omega)
  have f1 := hf 1 (by omega)
  have f2 := hf 2 (by omega)
  rw [show ((0 : Nat) : Int) = 0 from rfl] at f0
  rw [show ((1 : Nat) : Int) = 1 from rfl] at f1
  rw [show ((2 : Nat) : Int) = 2 from rfl] at f2
  rw [f0, f1, f2]
  unfold atL nrm
  match l, hl with
  | [], hl => simp at hl; omega
  | [a], hl =>
    simp at hl
    rw [if_neg (by omega), if_neg (by omega)]
    rfl
  | [a, b], hl =>
    simp at hl
    rw [if_pos (by omega), if_neg (by omega)]
    rfl
  | [a, b, c], hl =>
    simp at hl
    rw [if_pos (by omega), if_pos (by omega)]
    rfl
  | a :: b :: c :: e :: l, hl => simp at hl; omega
