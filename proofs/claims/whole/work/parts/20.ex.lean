/-! runs of the small machine, goal first -/
theorem exec_succ {sc : Scr} : ∀ (n d y pc : Nat) (lv : LV) (st : List V) (hs : HS) (q : Rs × HS), exec sc n d y pc lv st hs = some q → exec sc (n + 1) d y pc lv st hs = some q := by
  intro n
  induction n with
  | zero => intro d y pc lv st hs q h; cases h
  | succ n ih =>
    intro d y pc lv st hs q h
    unfold exec at h
    rw [exec]
    split at h
    · cases h
    · rename_i pc3 lv3 st3 hs3 h3
      try rw [h3]
      exact ih _ _ _ _ _ _ _ h
    · rename_i y2 as r9 nx h3
      try rw [h3]
      try dsimp only
      split at h
      · rename_i hd
        try rw [if_pos hd]
        split at h
        · rename_i v hs3 h4
          rw [ih _ _ _ _ _ _ _ h4]
          exact ih _ _ _ _ _ _ _ h
        · rename_i k hs3 h4
          rw [ih _ _ _ _ _ _ _ h4]
          try dsimp only
          split at h
          · rename_i hisv
            try rw [if_pos hisv]
            split at h
            · rename_i j pc3 hh
              try rw [hh]
              exact ih _ _ _ _ _ _ _ h
            · rename_i hh
              try rw [hh]
              exact h
          · cases h
        · cases h
      · cases h
    · rename_i r3 hs3 h3
      try rw [h3]
      exact h
theorem exec_mono {sc : Scr} {n k d y pc : Nat} {lv : LV} {st : List V} {hs : HS} {q : Rs × HS} (h : exec sc n d y pc lv st hs = some q) : exec sc (n + k) d y pc lv st hs = some q := by
  induction k with
  | zero => exact h
  | succ k ih => exact exec_succ _ _ _ _ _ _ _ _ ih
def Ex (sc : Scr) (d y pc : Nat) (lv : LV) (st : List V) (hs : HS) (Q : Rs → HS → Prop) : Prop := ∃ (n : Nat) (r : Rs) (hs2 : HS), exec sc n d y pc lv st hs = some (r, hs2) ∧ Q r hs2
theorem exec_det {sc : Scr} {n1 n2 d y pc : Nat} {lv : LV} {st : List V} {hs : HS} {q1 q2 : Rs × HS} (h1 : exec sc n1 d y pc lv st hs = some q1) (h2 : exec sc n2 d y pc lv st hs = some q2) : q1 = q2 := by
  have a := exec_mono (k := n2) h1
  have b := exec_mono (k := n1) h2
  rw [Nat.add_comm] at b
  exact Option.some.inj (a.symm.trans b)
section ExL
variable {sc : Scr} {d y pc : Nat} {lv : LV} {st : List V} {hs : HS} {Q : Rs → HS → Prop}
theorem ex_step {pc2 : Nat} {lv2 : LV} {st2 : List V} {hs2 : HS} (h : stp sc y pc lv st hs = some (.inl (pc2, lv2, st2, hs2))) : Ex sc d y pc lv st hs Q ↔ Ex sc d y pc2 lv2 st2 hs2 Q := by
  constructor
  · rintro ⟨n, r, h2, he, hq⟩
    cases n with
    | zero => cases he
    | succ n =>
      rw [exec, h] at he
      exact ⟨n, r, h2, he, hq⟩
  · rintro ⟨n, r, h2, he, hq⟩
    exact ⟨n + 1, r, h2, by rw [exec, h]; exact he, hq⟩
theorem ex_end {r : Rs} {hs2 : HS} (h : stp sc y pc lv st hs = some (.inr (.inr (r, hs2)))) : Ex sc d y pc lv st hs Q ↔ Q r hs2 := by
  constructor
  · rintro ⟨n, r, h2, he, hq⟩
    cases n with
    | zero => cases he
    | succ n =>
      rw [exec, h] at he
      cases he
      exact hq
  · intro hq
    exact ⟨1, r, hs2, by rw [exec, h], hq⟩
theorem ex_none (h : stp sc y pc lv st hs = none) : Ex sc d y pc lv st hs Q ↔ False := by
  constructor
  · rintro ⟨n, r, h2, he, hq⟩
    cases n with
    | zero => cases he
    | succ n => rw [exec, h] at he; cases he
  · exact False.elim
/-- what goes on behind a call -/
def Kc (sc : Scr) (d y pc nx : Nat) (lv : LV) (r : List V) (Q : Rs → HS → Prop) : Rs → HS → Prop := fun res hs2 => match res with
  | .inl v => Ex sc d y nx lv (v.toList ++ r) hs2 Q
  | .inr k => if isV y pc = true then (match hnd y pc k with
    | some (j, pc2) => Ex sc d y pc2 (lv.map (fun _ => none)) [] hs2 Q
    | none => Q (.inr k) hs2) else False
theorem ex_call {y2 nx : Nat} {as r : List V} (h : stp sc y pc lv st hs = some (.inr (.inl (y2, as, r, nx)))) (hd : 0 < d) : Ex sc d y pc lv st hs Q ↔ Ex sc (d - 1) y2 0 (lvIn y2 as) [] hs (Kc sc d y pc nx lv r Q) := by
  constructor
  · rintro ⟨n, r9, h2, he, hq⟩
    cases n with
    | zero => cases he
    | succ n =>
      rw [exec, h] at he
      dsimp only at he
      rw [if_pos hd] at he
      split at he
      · rename_i v hs3 h4
        exact ⟨n, _, _, h4, n, r9, h2, he, hq⟩
      · rename_i k hs3 h4
        refine ⟨n, _, _, h4, ?_⟩
        unfold Kc
        dsimp only
        by_cases hisv : isV y pc = true
        · rw [if_pos hisv] at he ⊢
          cases hh : hnd y pc k with
          | some jp =>
            rw [hh] at he
            exact ⟨n, r9, h2, he, hq⟩
          | none =>
            rw [hh] at he
            cases he
            exact hq
        · rw [if_neg hisv] at he
          cases he
      · cases he
  · rintro ⟨n, res, hs3, h4, hq⟩
    unfold Kc at hq
    cases res with
    | inl v =>
      dsimp only at hq
      obtain ⟨n2, r9, h2, he, hq⟩ := hq
      refine ⟨n + n2 + 1, r9, h2, ?_, hq⟩
      rw [exec, h]
      dsimp only
      rw [if_pos hd, exec_mono h4]
      dsimp only
      rw [Nat.add_comm]
      exact exec_mono he
    | inr k =>
      dsimp only at hq
      by_cases hisv : isV y pc = true
      case neg => rw [if_neg hisv] at hq; exact hq.elim
      rw [if_pos hisv] at hq
      cases hh : hnd y pc k with
      | some jp =>
        obtain ⟨j, pc3⟩ := jp
        rw [hh] at hq
        obtain ⟨n2, r9, h2, he, hq⟩ := hq
        refine ⟨n + n2 + 1, r9, h2, ?_, hq⟩
        rw [exec, h]
        dsimp only
        rw [if_pos hd, exec_mono h4]
        dsimp only
        rw [if_pos hisv, hh]
        dsimp only
        rw [Nat.add_comm]
        exact exec_mono he
      | none =>
        rw [hh] at hq
        refine ⟨n + 1, .inr k, hs3, ?_, hq⟩
        rw [exec, h]
        dsimp only
        rw [if_pos hd, h4]
        dsimp only
        rw [if_pos hisv, hh]
end ExL
