/-! counts, entries, what a call keeps -/
theorem stp_cnt {sc : Scr} {y pc : Nat} {lv : LV} {st : List V} {hs : HS} {pc2 : Nat} {lv2 : LV} {st2 : List V} {hs2 : HS} (h : stp sc y pc lv st hs = some (.inl (pc2, lv2, st2, hs2))) :
    hs.2.2.2.1 ≤ hs2.2.2.2.1 ∧ hs.2.2.2.2 ≤ hs2.2.2.2.2 ∧ (hs2.2.2.1 = true → hs.2.2.1 = true ∧ hs2.2.1 + hs.2.2.2.1 = hs.2.1 + hs2.2.2.2.1) := by
  have same : ∀ {g : HS}, g.2 = hs.2 → hs.2.2.2.1 ≤ g.2.2.2.1 ∧ hs.2.2.2.2 ≤ g.2.2.2.2 ∧ (g.2.2.1 = true → hs.2.2.1 = true ∧ g.2.1 + hs.2.2.2.1 = hs.2.1 + g.2.2.2.1) := by
    intro g hg
    rw [hg]
    exact ⟨Nat.le_refl _, Nat.le_refl _, fun q => ⟨q, rfl⟩⟩
  have hb : ∀ {f : Int → Int → Option Int} {nx : Nat}, bin st f nx lv hs = some (.inl (pc2, lv2, st2, hs2)) → hs2.2 = hs.2 := by
    intro f nx h9
    obtain ⟨a, b, r, z, -, -, -, -, -, e⟩ := bin_spec h9
    rw [e]
  have hw : ∀ {ty a : Nat} {i z : Int} {g : HS}, wrA hs ty a i z = some g → g.2 = hs.2 := by
    intro ty a i z g hg
    obtain ⟨n, f, -, -, -, -, -, rfl⟩ := wrA_spec hg
    rfl
  cases hcd : cd y pc with
  | none => unfold stp at h; rw [hcd] at h; cases h
  | some li =>
    obtain ⟨i, x, nx⟩ := li
    unfold stp at h
    rw [hcd] at h
    cases i <;> simp only [go, reduceCtorEq] at h
    case iadd => exact same (hb h)
    case isub => exact same (hb h)
    case imul => exact same (hb h)
    case idiv => exact same (hb h)
    case irem => exact same (hb h)
    case iand => exact same (hb h)
    case ishr => exact same (hb h)
    case iushr => exact same (hb h)
    case invokevirtual =>
      unfold mcall at h
      repeat' split at h
      all_goals cases h
    case invokespecial =>
      unfold mcall at h
      repeat' split at h
      all_goals cases h
    case invokestatic =>
      unfold mcall at h
      repeat' split at h
      all_goals cases h
    case iastore =>
      split at h
      · split at h
        · rename_i h9 hq
          simp only [Option.some.injEq, Sum.inl.injEq, Prod.mk.injEq] at h
          obtain ⟨-, -, -, rfl⟩ := h
          exact same (hw hq)
        · cases h
      · cases h
    case lastore =>
      split at h
      · split at h
        · rename_i h9 hq
          simp only [Option.some.injEq, Sum.inl.injEq, Prod.mk.injEq] at h
          obtain ⟨-, -, -, rfl⟩ := h
          exact same (hw hq)
        · cases h
      · cases h
    case bastore =>
      split at h
      · split at h
        · split at h
          · rename_i h9 hq
            simp only [Option.some.injEq, Sum.inl.injEq, Prod.mk.injEq] at h
            obtain ⟨-, -, -, rfl⟩ := h
            exact same (hw hq)
          · cases h
        · cases h
      · cases h
    case new k =>
      split at h
      · rename_i hk
        simp only [Option.some.injEq, Sum.inl.injEq, Prod.mk.injEq] at h
        obtain ⟨-, -, -, rfl⟩ := h
        refine ⟨by dsimp only; omega, by dsimp only; omega, fun _ => ⟨hk, by dsimp only; omega⟩⟩
      · cases h
    case newarray k =>
      split at h
      · split at h
        · rename_i hk
          simp only [Option.some.injEq, Sum.inl.injEq, Prod.mk.injEq] at h
          obtain ⟨-, -, -, rfl⟩ := h
          refine ⟨by dsimp only; omega, by dsimp only; omega, fun _ => ⟨hk.1, by dsimp only; omega⟩⟩
        · cases h
      · cases h
    case anewarray k =>
      split at h
      · split at h
        · rename_i hk
          simp only [Option.some.injEq, Sum.inl.injEq, Prod.mk.injEq] at h
          obtain ⟨-, -, -, rfl⟩ := h
          refine ⟨by dsimp only; omega, by dsimp only; omega, fun _ => ⟨hk.1, by dsimp only; omega⟩⟩
        · cases h
      · cases h
    all_goals (repeat' split at h)
    all_goals first | (cases h; done) | (simp only [Option.some.injEq, Sum.inl.injEq, Prod.mk.injEq, reduceCtorEq, and_false] at h; done) | (simp only [Option.some.injEq, Sum.inl.injEq, Prod.mk.injEq] at h; obtain ⟨-, -, -, rfl⟩ := h; exact same rfl)
theorem stp_end {sc : Scr} {y pc : Nat} {lv : LV} {st : List V} {hs : HS} {r : Rs} {hs2 : HS} (h : stp sc y pc lv st hs = some (.inr (.inr (r, hs2)))) :
    (∃ (i : Instr) (x nx : Nat), cd y pc = some (i, x, nx) ∧ hs2 = hs ∧ ((∃ a, i = .ireturn ∧ st = [vI a] ∧ r = .inl (some (vI a)) ∧ (mRk.getD y 9 = 1 ∨ mRk.getD y 9 = 2 ∧ (a = 0 ∨ a = 1))) ∨ (∃ a, i = .areturn ∧ st = [vR a] ∧ r = .inl (some (vR a)) ∧ mRk.getD y 9 = 3) ∨ (i = .return_ ∧ st = [] ∧ r = .inl none ∧ mRk.getD y 9 = 0))) ∨
    (∃ (k nx : Nat), cd y pc = some (.athrow, k, nx) ∧ r = .inr k ∧ hs2 = (hs.1, hs.2.1, false, hs.2.2.2.1 + 1, hs.2.2.2.2 + 6) ∧ catS st ≤ 8) := by
  have hb : ∀ {f : Int → Int → Option Int} {nx : Nat}, ¬ bin st f nx lv hs = some (.inr (.inr (r, hs2))) := by
    intro f nx h9
    unfold bin at h9
    repeat' split at h9
    all_goals cases h9
  cases hcd : cd y pc with
  | none => unfold stp at h; rw [hcd] at h; cases h
  | some li =>
    obtain ⟨i, x, nx⟩ := li
    unfold stp at h
    rw [hcd] at h
    cases i <;> simp only [go, reduceCtorEq] at h
    case ireturn =>
      split at h
      · rename_i a
        split at h
        · rename_i hk
          simp only [Option.some.injEq, Sum.inr.injEq, Prod.mk.injEq] at h
          obtain ⟨rfl, rfl⟩ := h
          exact Or.inl ⟨_, _, _, rfl, rfl, Or.inl ⟨a, rfl, rfl, rfl, hk⟩⟩
        · cases h
      · cases h
    case areturn =>
      split at h
      · rename_i a
        split at h
        · rename_i hk
          simp only [Option.some.injEq, Sum.inr.injEq, Prod.mk.injEq] at h
          obtain ⟨rfl, rfl⟩ := h
          exact Or.inl ⟨_, _, _, rfl, rfl, Or.inr (Or.inl ⟨a, rfl, rfl, rfl, hk⟩)⟩
        · cases h
      · cases h
    case return_ =>
      split at h
      · split at h
        · rename_i hk
          simp only [Option.some.injEq, Sum.inr.injEq, Prod.mk.injEq] at h
          obtain ⟨rfl, rfl⟩ := h
          exact Or.inl ⟨_, _, _, rfl, rfl, Or.inr (Or.inr ⟨rfl, rfl, rfl, hk⟩)⟩
        · cases h
      · cases h
    case athrow =>
      split at h
      · rename_i hk
        simp only [Option.some.injEq, Sum.inr.injEq, Prod.mk.injEq] at h
        obtain ⟨rfl, rfl⟩ := h
        exact Or.inr ⟨_, _, rfl, rfl, rfl, hk⟩
      · cases h
    case iadd => exact absurd h hb
    case isub => exact absurd h hb
    case imul => exact absurd h hb
    case idiv => exact absurd h hb
    case irem => exact absurd h hb
    case iand => exact absurd h hb
    case ishr => exact absurd h hb
    case iushr => exact absurd h hb
    case invokevirtual =>
      unfold mcall at h
      repeat' split at h
      all_goals cases h
    case invokespecial =>
      unfold mcall at h
      repeat' split at h
      all_goals cases h
    case invokestatic =>
      unfold mcall at h
      repeat' split at h
      all_goals cases h
    all_goals (repeat' split at h)
    all_goals cases h
theorem exec_cnt {sc : Scr} : ∀ (n d y pc : Nat) (lv : LV) (st : List V) (hs : HS) (r : Rs) (hs2 : HS), exec sc n d y pc lv st hs = some (r, hs2) →
    hs.2.2.2.1 ≤ hs2.2.2.2.1 ∧ hs.2.2.2.2 ≤ hs2.2.2.2.2 ∧ (hs2.2.2.1 = true → hs.2.2.1 = true ∧ hs2.2.1 + hs.2.2.2.1 = hs.2.1 + hs2.2.2.2.1) := by
  intro n
  induction n with
  | zero => intro d y pc lv st hs r hs2 h; cases h
  | succ n ih =>
    intro d y pc lv st hs r hs2 h
    unfold exec at h
    split at h
    · cases h
    · rename_i pc3 lv3 st3 hs3 h3
      have a1 := stp_cnt h3
      have a2 := ih _ _ _ _ _ _ _ _ h
      exact ⟨by omega, by omega, fun q => ⟨(a1.2.2 (a2.2.2 q).1).1, by have b1 := a2.2.2 q; have b2 := a1.2.2 b1.1; omega⟩⟩
    · split at h
      · split at h
        · rename_i v hs3 h3
          have a1 := ih _ _ _ _ _ _ _ _ h3
          have a2 := ih _ _ _ _ _ _ _ _ h
          exact ⟨by omega, by omega, fun q => ⟨(a1.2.2 (a2.2.2 q).1).1, by have b1 := a2.2.2 q; have b2 := a1.2.2 b1.1; omega⟩⟩
        · rename_i k hs3 h3
          have a1 := ih _ _ _ _ _ _ _ _ h3
          split at h
          · split at h
            · have a2 := ih _ _ _ _ _ _ _ _ h
              exact ⟨by omega, by omega, fun q => ⟨(a1.2.2 (a2.2.2 q).1).1, by have b1 := a2.2.2 q; have b2 := a1.2.2 b1.1; omega⟩⟩
            · simp only [Option.some.injEq, Prod.mk.injEq] at h
              obtain ⟨-, rfl⟩ := h
              exact a1
          · cases h
        · cases h
      · cases h
    · rename_i r3 hs3 h3
      simp only [Option.some.injEq, Prod.mk.injEq] at h
      obtain ⟨rfl, rfl⟩ := h
      rcases stp_end h3 with ⟨i, x, nx, -, rfl, -⟩ | ⟨k, nx, -, -, rfl, -⟩
      · exact ⟨Nat.le_refl _, Nat.le_refl _, fun q => ⟨q, rfl⟩⟩
      · exact ⟨by dsimp only; omega, by dsimp only; omega, fun q => by cases q⟩
