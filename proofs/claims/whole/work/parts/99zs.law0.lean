/-! the law's own pieces: depth does not matter, the long cell -/
theorem exec_dep {sc : Scr} : ∀ (n d y pc : Nat) (lv : LV) (st : List V) (hs : HS) (q : Rs × HS), exec sc n d y pc lv st hs = some q → exec sc n (d + 1) y pc lv st hs = some q := by
  intro n
  induction n with
  | zero => intro d y pc lv st hs q h; cases h
  | succ n ih =>
    intro d y pc lv st hs q h
    unfold exec at h
    rw [exec]
    split at h
    · cases h
    · rename_i pc3 lv3 st3 hs3 h3
      try rw [h3]
      exact ih _ _ _ _ _ _ _ h
    · rename_i y2 as r9 nx h3
      try rw [h3]
      try dsimp only
      split at h
      · rename_i hd
        rw [if_pos (Nat.succ_pos d), Nat.add_sub_cancel]
        split at h
        · rename_i v hs3 h4
          have h5 := ih _ _ _ _ _ _ _ h4
          rw [Nat.sub_add_cancel hd] at h5
          rw [h5]
          exact ih _ _ _ _ _ _ _ h
        · rename_i k hs3 h4
          have h5 := ih _ _ _ _ _ _ _ h4
          rw [Nat.sub_add_cancel hd] at h5
          rw [h5]
          try dsimp only
          split at h
          · rename_i hisv
            try rw [if_pos hisv]
            split at h
            · rename_i j pc3 hh
              try rw [hh]
              exact ih _ _ _ _ _ _ _ h
            · rename_i hh
              try rw [hh]
              exact h
          · cases h
        · cases h
      · cases h
    · rename_i r3 hs3 h3
      try rw [h3]
      exact h
theorem RnA.dep {sc : Scr} {d y pc : Nat} {lv : LV} {σ τ : St} {r : Option V} (h : RnA sc d y pc lv σ r τ) : RnA sc (d + 1) y pc lv σ r τ := by
  intro u Q
  obtain ⟨n, r1, hs1, he, e1, e2⟩ := (h u (fun r' h' => r' = .inl r ∧ h' = wH τ u)).mpr ⟨rfl, rfl⟩
  subst e1
  subst e2
  have he2 := exec_dep _ _ _ _ _ _ _ _ he
  constructor
  · rintro ⟨n2, r2, hs2, h2, hq⟩
    have e := exec_det h2 he2
    have e1 : r2 = .inl r := congrArg Prod.fst e
    have e2 : hs2 = wH τ u := congrArg Prod.snd e
    rw [← e1, ← e2]
    exact hq
  · intro hq
    exact ⟨n, _, _, he2, hq⟩
/-- a long put into its cell -/
def stU (u : Bool × Nat × Nat × Int) (x : Int) : Bool × Nat × Nat × Int := (u.1, u.2.1, u.2.2.1, x)
section L0
variable {σ : St} {u : Bool × Nat × Nat × Int}
theorem hget_l : hget (wH σ u) 404 = some (eA 2 1 (fun j => if (j : Int) = 0 then u.2.2.2 else 0)) := rfl
theorem RL_ {f : Int → Prop} : Ra (wH σ u) 2 404 0 f = f u.2.2.2 := by
  unfold Ra rdA
  rw [hget_l]
  dsimp only
  rw [if_pos ⟨rfl, by decide, by decide, by decide⟩]
  rfl
theorem WL_ {x : Int} {f : HS → Prop} : Wa (wH σ u) 2 404 0 x f = f (wH σ (stU u x)) := by
  unfold Wa wrA
  rw [hget_l]
  dsimp only
  rw [if_pos ⟨rfl, by decide, by decide, by decide⟩]
  dsimp only
  congr 1
  unfold hput wH stU
  congr 1
  funext id
  unfold mup
  by_cases h : id = 404
  · subst h
    rw [if_pos rfl]
    show (Sum.inl (2, 1, _) : mE) = .inl (2, 1, fun j : Nat => ov σ x 404 j)
    congr 3
    funext j
    unfold ov
    rw [if_pos rfl]
    by_cases hj : j = 0
    · subst hj
      rfl
    · have hj2 : ¬ (j : Int) = 0 := by omega
      rw [if_neg hj2]
      show (if j = 0 then x else if (j : Int) = 0 then u.2.2.2 else 0) = 0
      rw [if_neg hj, if_neg hj2]
  · rw [if_neg h]
    show wcE (shp id) (ov σ u.2.2.2 id) = wcE (shp id) (ov σ x id)
    unfold ov
    rw [if_neg h, if_neg h]
end L0
