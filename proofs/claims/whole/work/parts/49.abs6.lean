/-! what stays true of rows and bindings in runs -/
def okA (C : Int → Int) (a : At) : Prop := 0 ≤ a.1 ∧ a.1 ≤ 25 ∧ 1 ≤ C a.1 ∧ ∃ X Y Z, isPl X ∧ isPl Y ∧ isPl Z ∧ a.2 = nrm (C a.1) X Y Z
def okW (C : Int → Int) (w : Rw) : Prop := 0 ≤ w.2.1 ∧ w.2.1 ≤ 25 ∧ 1 ≤ C w.2.1 ∧ ∃ X Y Z, isTm X ∧ isTm Y ∧ isTm Z ∧ w.2.2 = nrm (C w.2.1) X Y Z
def okG (C : Int → Int) (g : At) : Prop := 0 ≤ g.1 ∧ g.1 ≤ 25 ∧ 1 ≤ C g.1 ∧ ∃ X Y Z, isTm X ∧ isTm Y ∧ isTm Z ∧ g.2 = nrm (C g.1) X Y Z
def okB (β : Bd) : Prop := ∀ v, β v = -1 ∨ isTm (β v)
def okRl (C : Int → Int) (r : Ru) : Prop := (0 ≤ r.1 ∧ r.1 ≤ 2) ∧ (∀ a ∈ r.2.1, okA C a) ∧ (∀ a ∈ r.2.2.1, okA C a) ∧ (1 ≤ r.2.1.length ∧ r.2.1.length ≤ 3) ∧ r.2.2.1.length ≤ 3 ∧ (r.1 = 1 → (isPl r.2.2.2.1 ∧ (2000 ≤ r.2.2.2.1 → mentL r.2.1 r.2.2.2.1 = true)) ∧ (isPl r.2.2.2.2 ∧ (2000 ≤ r.2.2.2.2 → mentL r.2.1 r.2.2.2.2 = true)))
def okS (C : Int → Int) (s : Rn) : Prop := (∀ w ∈ s.1, okW C w) ∧ srt s.1 ∧ (∀ w ∈ s.1, 0 ≤ w.1 ∧ w.1 < s.2.1) ∧ (0 ≤ s.2.1 ∧ s.2.1 ≤ 200) ∧ s.1.length ≤ 40 ∧ (∀ k, s.2.2.1 k = 0 ∨ s.2.2.1 k = 1) ∧ ∀ w ∈ s.1, ∀ k, 0 ≤ k → (w.2.2.1 = 1000 + k ∨ w.2.2.2.1 = 1000 + k ∨ w.2.2.2.2 = 1000 + k) → s.2.2.1 k = 1
theorem isTm_ne {t : Int} (h : isTm t) : t ≠ -1 ∧ 0 ≤ t ∧ t ≤ 1099 := by unfold isTm at h; omega
theorem nrm_1 {m x y z : Int} : (nrm m x y z).1 = x := rfl
theorem nrm_2 {m x y z : Int} : (nrm m x y z).2.1 = if 2 ≤ m then y else -1 := rfl
theorem nrm_3 {m x y z : Int} : (nrm m x y z).2.2 = if 3 ≤ m then z else -1 := rfl
theorem fit1_ok {β β' : Bd} {p t : Int} (hβ : okB β) (ht : isTm t ∨ p < 2000) (h : fit1 β p t = some β') : okB β' := by
  unfold fit1 at h
  split at h
  · rename_i q
    cases h
    intro v
    unfold bup
    split
    · rcases ht with ht | ht
      · exact Or.inr ht
      · omega
    · exact hβ v
  · split at h
    · cases h; exact hβ
    · cases h
theorem fit1_bound {β β' : Bd} {p t : Int} (ht : isTm t) (h : fit1 β p t = some β') : (2000 ≤ p → β' (p - 2000) ≠ -1) ∧ ∀ v, β v ≠ -1 → β' v = β v := by
  unfold fit1 at h
  split at h
  · rename_i q
    cases h
    refine ⟨fun _ => by unfold bup; rw [if_pos rfl]; exact (isTm_ne ht).1, fun v hv => ?_⟩
    unfold bup
    rw [if_neg]
    intro e
    exact hv (e ▸ q.2)
  · rename_i q
    split at h
    · cases h
      exact ⟨fun hp z => q ⟨hp, z⟩, fun v _ => rfl⟩
    · cases h
/-- rows fit atoms of a hall with terms alone -/
theorem fitA_ok {C : Int → Int} {β β' : Bd} {a : At} {w : Rw} (ha : okA C a) (hw : okW C w) (hβ : okB β) (h : fitA β a w.2 = some β') : okB β' ∧ (∀ v, β v ≠ -1 → β' v = β v) ∧ ∀ p, (p = a.2.1 ∨ p = a.2.2.1 ∨ p = a.2.2.2) → 2000 ≤ p → β' (p - 2000) ≠ -1 := by
  obtain ⟨a1, a2, a3, X, Y, Z, hX, hY, hZ, ea⟩ := ha
  obtain ⟨w1, w2, w3, X', Y', Z', hX', hY', hZ', ew⟩ := hw
  unfold fitA at h
  split at h
  · rename_i he
    rw [← he] at ew
    rw [ea, ew] at h
    cases e0 : fit1 β (nrm (C a.1) X Y Z).1 (nrm (C a.1) X' Y' Z').1 with
    | none => rw [e0] at h; cases h
    | some β0 =>
      rw [e0, Option.bind_some] at h
      have e0 : fit1 β X X' = some β0 := e0
      have k0 := fit1_ok hβ (Or.inl hX') e0
      obtain ⟨b0, c0⟩ := fit1_bound hX' e0
      by_cases m2 : 2 ≤ C a.1
      · rw [nrm_2, nrm_2, if_pos m2, if_pos m2] at h
        cases e1 : fit1 β0 Y Y' with
        | none => rw [e1] at h; cases h
        | some β1 =>
          rw [e1, Option.bind_some] at h
          have k1 := fit1_ok k0 (Or.inl hY') e1
          obtain ⟨b1, c1⟩ := fit1_bound hY' e1
          by_cases m3 : 3 ≤ C a.1
          · rw [nrm_3, nrm_3, if_pos m3, if_pos m3] at h
            have k2 := fit1_ok k1 (Or.inl hZ') h
            obtain ⟨b2, c2⟩ := fit1_bound hZ' h
            refine ⟨k2, fun v hv => ?_, ?_⟩
            · have d0 := c0 v hv
              have d1 := c1 v (by rw [d0]; exact hv)
              rw [c2 v (by rw [d1, d0]; exact hv), d1, d0]
            · rw [ea, nrm_1, nrm_2, nrm_3, if_pos m2, if_pos m3]
              rintro p (rfl | rfl | rfl) hp
              · have d1 := c1 _ (b0 hp)
                rw [c2 _ (by rw [d1]; exact b0 hp), d1]
                exact b0 hp
              · rw [c2 _ (b1 hp)]; exact b1 hp
              · exact b2 hp
          · rw [nrm_3, nrm_3, if_neg m3, if_neg m3] at h
            have h' : some β1 = some β' := by
              unfold fit1 worthB at h
              rw [if_neg (by omega), if_neg (c := (2000 : Int) ≤ -1) (by decide), if_pos rfl] at h
              exact h
            cases h'
            refine ⟨k1, fun v hv => ?_, ?_⟩
            · have d0 := c0 v hv
              rw [c1 v (by rw [d0]; exact hv), d0]
            · rw [ea, nrm_1, nrm_2, nrm_3, if_pos m2, if_neg m3]
              rintro p (rfl | rfl | rfl) hp
              · rw [c1 _ (b0 hp)]; exact b0 hp
              · exact b1 hp
              · omega
      · have m3 : ¬ 3 ≤ C a.1 := by omega
        rw [nrm_2, nrm_2, nrm_3, nrm_3, if_neg m2, if_neg m2, if_neg m3, if_neg m3] at h
        have f1 : ∀ γ : Bd, fit1 γ (-1) (-1) = some γ := fun γ => by
          unfold fit1 worthB
          rw [if_neg (by omega), if_neg (c := (2000 : Int) ≤ -1) (by decide), if_pos rfl]
        rw [f1, Option.bind_some, f1] at h
        cases h
        refine ⟨k0, c0, ?_⟩
        rw [ea, nrm_1, nrm_2, nrm_3, if_neg m2, if_neg m3]
        rintro p (rfl | rfl | rfl) hp
        · exact b0 hp
        · omega
        · omega
  · cases h
theorem bindA_ok {C : Int → Int} {R : List Rw} (hR : ∀ w ∈ R, okW C w) : ∀ (as : List At) (β : Bd) (z : List Rw × Bd), (∀ a ∈ as, okA C a) → okB β → z ∈ hitsL R as β → okB z.2 ∧ (∀ v, β v ≠ -1 → z.2 v = β v) ∧ ∀ p, 2000 ≤ p → mentL as p = true → z.2 (p - 2000) ≠ -1 := by
  intro as
  induction as with
  | nil =>
    intro β z _ hβ hz
    rw [hitsL, List.mem_singleton] at hz
    subst hz
    exact ⟨hβ, fun _ _ => rfl, fun p _ h => by cases h⟩
  | cons a as ih =>
    intro β z ha hβ hz
    rw [hitsL_cons, subL, List.mem_flatMap] at hz
    obtain ⟨w, hw, hz⟩ := hz
    cases hf : fitA β a w.2 with
    | none => rw [hf] at hz; cases hz
    | some β' =>
      rw [hf] at hz
      obtain ⟨z', hz', rfl⟩ := List.mem_map.mp hz
      obtain ⟨k1, k2, k3⟩ := fitA_ok (ha a List.mem_cons_self) (hR w hw) hβ hf
      obtain ⟨i1, i2, i3⟩ := ih β' z' (fun b hb => ha b (List.mem_cons_of_mem _ hb)) k1 hz'
      refine ⟨i1, fun v hv => ?_, fun p hp hm => ?_⟩
      · have := k2 v hv
        show z'.2 v = β v
        rw [i2 v (by rw [this]; exact hv), this]
      · unfold mentL at hm
        rw [List.any_cons, Bool.or_eq_true] at hm
        rcases hm with hm | hm
        · have q := of_decide_eq_true hm
          have := k3 p (by omega) hp
          show z'.2 (p - 2000) ≠ -1
          rw [i2 _ this]
          exact this
        · exact i3 p hp hm
theorem leF_range {f : Int → Int} : ∀ (n : Nat) (k : Int), k ≤ leF f n k ∧ leF f n k ≤ k + n := by
  intro n
  induction n with
  | zero => intro k; rw [leF]; omega
  | succ n ih =>
    intro k
    rw [leF]
    split
    · omega
    · have := ih (k + 1)
      omega
theorem nameA_ok {U : Int → Int} : ∀ (ps : List Int) (k : Int) (β β' : Bd), okB β → 0 ≤ k → nameA U ps k β = some β' → okB β' ∧ (∀ v, β v ≠ -1 → β' v = β v) ∧ ∀ p ∈ ps, 2000 ≤ p → β' (p - 2000) ≠ -1 := by
  intro ps
  induction ps with
  | nil =>
    intro k β β' hβ _ h
    rw [nameA] at h
    cases h
    exact ⟨hβ, fun _ _ => rfl, fun p hp => by cases hp⟩
  | cons p ps ih =>
    intro k β β' hβ hk h
    rw [nameA] at h
    split at h
    · rename_i q
      split at h
      · cases h
      · rename_i q2
        have lr := leF_range (f := U) (100 - k).toNat k
        have hb : okB (bup β (p - 2000) (1000 + leF U (100 - k).toNat k)) := by
          intro v
          unfold bup
          split
          · right; unfold isTm; omega
          · exact hβ v
        obtain ⟨i1, i2, i3⟩ := ih _ _ β' hb (by omega) h
        have hne : bup β (p - 2000) (1000 + leF U (100 - k).toNat k) (p - 2000) ≠ -1 := by
          unfold bup
          rw [if_pos rfl]
          omega
        refine ⟨i1, fun v hv => ?_, fun x hx hx2 => ?_⟩
        · have e : bup β (p - 2000) (1000 + leF U (100 - k).toNat k) v = β v := by
            unfold bup
            rw [if_neg]
            intro e
            exact hv (e ▸ q.2)
          rw [i2 v (by rw [e]; exact hv), e]
        · rcases List.mem_cons.mp hx with rfl | hx
          · rw [i2 _ hne]; exact hne
          · exact i3 x hx hx2
    · rename_i q
      obtain ⟨i1, i2, i3⟩ := ih _ _ β' hβ hk h
      refine ⟨i1, i2, fun x hx hx2 => ?_⟩
      rcases List.mem_cons.mp hx with rfl | hx
      · have hne : β (x - 2000) ≠ -1 := fun z => q ⟨hx2, z⟩
        rw [i2 _ hne]
        exact hne
      · exact i3 x hx hx2
theorem worth_ok {β : Bd} {p : Int} (hβ : okB β) (hp : isPl p) (hb : 2000 ≤ p → β (p - 2000) ≠ -1) : isTm (worthB β p) := by
  unfold worthB
  split
  · rename_i q
    exact (hβ _).resolve_left (hb q)
  · unfold isPl at hp
    unfold isTm
    omega
theorem grA_ok {C : Int → Int} {β : Bd} {a : At} (ha : okA C a) (hβ : okB β) (hb : ∀ p, (p = a.2.1 ∨ p = a.2.2.1 ∨ p = a.2.2.2) → 2000 ≤ p → β (p - 2000) ≠ -1) : okG C (grA β a) := by
  obtain ⟨a1, a2, a3, X, Y, Z, hX, hY, hZ, ea⟩ := ha
  rw [ea, nrm_1, nrm_2, nrm_3] at hb
  have tX := worth_ok hβ hX (fun q => hb X (Or.inl rfl) q)
  have neg : worthB β (-1) = -1 := by unfold worthB; rw [if_neg (by decide)]
  have t0 : isTm 0 := by unfold isTm; omega
  refine ⟨a1, a2, a3, worthB β X, if 2 ≤ C a.1 then worthB β Y else 0, if 3 ≤ C a.1 then worthB β Z else 0, tX, ?_, ?_, ?_⟩
  · split
    · rename_i q
      exact worth_ok hβ hY (fun z => hb Y (Or.inr (Or.inl (by rw [if_pos q]))) z)
    · exact t0
  · split
    · rename_i q
      exact worth_ok hβ hZ (fun z => hb Z (Or.inr (Or.inr (by rw [if_pos q]))) z)
    · exact t0
  · show (worthB β a.2.1, worthB β a.2.2.1, worthB β a.2.2.2) = _
    rw [ea, nrm_1, nrm_2, nrm_3]
    unfold nrm
    show _ = (worthB β X, if 2 ≤ C a.1 then (if 2 ≤ C a.1 then worthB β Y else 0) else -1, if 3 ≤ C a.1 then (if 3 ≤ C a.1 then worthB β Z else 0) else -1)
    by_cases m2 : 2 ≤ C a.1
    · by_cases m3 : 3 ≤ C a.1
      · simp only [m2, m3, if_true]
      · simp only [m2, m3, if_true, if_false, neg]
    · have m3 : ¬ 3 ≤ C a.1 := by omega
      simp only [m2, m3, if_false, neg]
theorem planF_mem {L : List Rw} : ∀ (gs P : List At) (g : At), g ∈ planF L gs P → g ∈ P ∨ g ∈ gs := by
  intro gs
  induction gs with
  | nil => intro P g h; exact Or.inl h
  | cons x gs ih =>
    intro P g h
    rw [planF] at h
    split at h
    · rcases ih _ g h with q | q
      · rcases List.mem_append.mp q with q | q
        · exact Or.inl q
        · exact Or.inr (by rw [List.mem_singleton.mp q]; exact List.mem_cons_self)
      · exact Or.inr (List.mem_cons_of_mem _ q)
    · rcases ih _ g h with q | q
      · exact Or.inl q
      · exact Or.inr (List.mem_cons_of_mem _ q)
theorem mks_ge {k : Int} : ∀ (P : List At) (U : Int → Int), (∀ k, U k = 0 ∨ U k = 1) → (∀ k, mksU U P k = 0 ∨ mksU U P k = 1) ∧ (U k = 1 → mksU U P k = 1) ∧ ∀ g ∈ P, 0 ≤ k → (g.2.1 = 1000 + k ∨ g.2.2.1 = 1000 + k ∨ g.2.2.2 = 1000 + k) → mksU U P k = 1 := by
  intro P
  induction P with
  | nil => intro U hU; exact ⟨hU, id, fun g hg => by cases hg⟩
  | cons g P ih =>
    intro U hU
    have h1 : ∀ k, mkU U g k = 0 ∨ mkU U g k = 1 := fun k => by
      unfold mkU
      split
      · exact Or.inr rfl
      · exact hU k
    obtain ⟨a, b, c⟩ := ih (mkU U g) h1
    refine ⟨a, fun h => b ?_, fun x hx k0 hk => ?_⟩
    · unfold mkU
      split
      · rfl
      · exact h
    · rcases List.mem_cons.mp hx with rfl | hx
      · apply b
        unfold mkU
        rw [if_pos ⟨k0, hk⟩]
      · exact c x hx k0 hk
theorem addL_memW : ∀ (P : List At) (L : List Rw) (n : Int) (w : Rw), w ∈ addL L n P → w ∈ L ∨ w.2 ∈ P ∧ n ≤ w.1 := by
  intro P
  induction P with
  | nil => intro L n w h; exact Or.inl h
  | cons p P ih =>
    intro L n w h
    rw [addL] at h
    rcases ih _ _ w h with q | ⟨q, q2⟩
    · rcases List.mem_append.mp q with q | q
      · exact Or.inl q
      · rw [List.mem_singleton.mp q]
        exact Or.inr ⟨List.mem_cons_self, Int.le_refl _⟩
    · exact Or.inr ⟨List.mem_cons_of_mem _ q, by omega⟩
theorem sub_ok {C : Int → Int} {a b : Int} {w : Rw} (ha : a ≠ -1) (hb : isTm b) (hw : okW C w) : okW C (subW a b w) := by
  obtain ⟨w1, w2, w3, X, Y, Z, hX, hY, hZ, e⟩ := hw
  have st : ∀ t, isTm t → isTm (subT a b t) := fun t ht => by
    unfold subT
    split
    · exact hb
    · exact ht
  have sn : subT a b (-1) = -1 := by unfold subT; rw [if_neg (fun z => ha z.symm)]
  refine ⟨w1, w2, w3, subT a b X, subT a b Y, subT a b Z, st X hX, st Y hY, st Z hZ, ?_⟩
  show (subT a b w.2.2.1, subT a b w.2.2.2.1, subT a b w.2.2.2.2) = nrm (C w.2.1) _ _ _
  rw [e, nrm_1, nrm_2, nrm_3]
  unfold nrm
  by_cases m2 : 2 ≤ C w.2.1
  · by_cases m3 : 3 ≤ C w.2.1
    · simp only [m2, m3, if_true]
    · simp only [m2, m3, if_true, if_false, sn]
  · have m3 : ¬ 3 ≤ C w.2.1 := by omega
    simp only [m2, m3, if_false, sn]
/-- a step keeps it -/
theorem makeA_ok {C : Int → Int} {ri : Int} {r : Ru} {q : List Rw} {β : Bd} {s : Rn} (hr : okRl C r) (hs : okS C s) (hβ : okB β) : okS C (makeA ri r q β s).1 := by
  obtain ⟨s1, s2, s3, s4, s5, s6, s7⟩ := hs
  unfold makeA
  cases hn : nameA s.2.2.1 (plcL r.2.2.1) 0 β with
  | none => exact ⟨s1, s2, s3, s4, s5, s6, s7⟩
  | some β' =>
    dsimp only
    split
    · exact ⟨s1, s2, s3, s4, s5, s6, s7⟩
    · rename_i hroom
      obtain ⟨n1, n2, n3⟩ := nameA_ok _ _ _ _ hβ (by omega) hn
      have hg : ∀ g ∈ planF s.1 (r.2.2.1.map (grA β')) [], okG C g := by
        intro g hg
        rcases planF_mem _ _ _ hg with z | z
        · cases z
        · obtain ⟨a, ha, rfl⟩ := List.mem_map.mp z
          refine grA_ok (hr.2.2.1 a ha) n1 (fun p hp hp2 => n3 p ?_ hp2)
          unfold plcL
          rw [List.mem_flatMap]
          refine ⟨a, ha, ?_⟩
          rcases hp with rfl | rfl | rfl <;> simp
      generalize planF s.1 (r.2.2.1.map (grA β')) [] = P at *
      obtain ⟨t1, t2⟩ := srt_add P s.1 s.2.1 s2 (fun w hw => (s3 w hw).2)
      refine ⟨fun w hw => ?_, t1, fun w hw => ⟨?_, t2 w hw⟩, ⟨by dsimp only; omega, by dsimp only; omega⟩, by dsimp only; rw [addL_len]; omega, ?_, fun w hw k k0 hk => ?_⟩
      · rcases addL_memW P s.1 s.2.1 w hw with z | ⟨z, _⟩
        · exact s1 w z
        · exact hg _ z
      · rcases addL_memW P s.1 s.2.1 w hw with z | ⟨_, z⟩
        · exact (s3 w z).1
        · omega
      · exact (mks_ge (k := 0) P s.2.2.1 s6).1
      · obtain ⟨_, m2, m3⟩ := mks_ge (k := k) P s.2.2.1 s6
        rcases addL_memW P s.1 s.2.1 w hw with z | ⟨z, _⟩
        · exact m2 (s7 w z k k0 hk)
        · exact m3 w.2 z k0 hk
theorem meltA_ok {C : Int → Int} {ri : Int} {r : Ru} {q : List Rw} {β : Bd} {s : Rn} (hs : okS C s) (ha : isTm (worthB β r.2.2.2.1)) (hb : isTm (worthB β r.2.2.2.2)) (hu : ∀ k, 0 ≤ k → (worthB β r.2.2.2.1 = 1000 + k ∨ worthB β r.2.2.2.2 = 1000 + k) → s.2.2.1 k = 1) : okS C (meltA ri r q β s).1 := by
  obtain ⟨s1, s2, s3, s4, s5, s6, s7⟩ := hs
  unfold meltA
  dsimp only
  split
  · exact ⟨s1, s2, s3, s4, s5, s6, s7⟩
  · have na := (isTm_ne ha).1
    have nb := (isTm_ne hb).1
    have hbe : isTm (if worthB β r.2.2.2.2 < worthB β r.2.2.2.1 then worthB β r.2.2.2.2 else worthB β r.2.2.2.1) := by split; exact hb; exact ha
    have hwe : (if worthB β r.2.2.2.1 < worthB β r.2.2.2.2 then worthB β r.2.2.2.2 else worthB β r.2.2.2.1) ≠ -1 := by split; exact nb; exact na
    have hk2 : ∀ k, 0 ≤ k → (if worthB β r.2.2.2.2 < worthB β r.2.2.2.1 then worthB β r.2.2.2.2 else worthB β r.2.2.2.1) = 1000 + k → s.2.2.1 k = 1 := by
      intro k k0 e
      split at e
      · exact hu k k0 (Or.inr e)
      · exact hu k k0 (Or.inl e)
    generalize (if worthB β r.2.2.2.2 < worthB β r.2.2.2.1 then worthB β r.2.2.2.2 else worthB β r.2.2.2.1) = bb at *
    generalize (if worthB β r.2.2.2.1 < worthB β r.2.2.2.2 then worthB β r.2.2.2.2 else worthB β r.2.2.2.1) = aa at *
    have mem : ∀ w ∈ meltL s.1 aa bb, ∃ v ∈ s.1, w = subW aa bb v := by
      intro w hw
      obtain ⟨v, hv, e⟩ := List.mem_map.mp (ddF_sub _ _ _ hw)
      exact ⟨v, hv, e.symm⟩
    refine ⟨fun w hw => ?_, srt_dd (srt_map (fun _ => rfl) s2), fun w hw => ?_, s4, ?_, s6, fun w hw k k0 hk => ?_⟩
    · obtain ⟨v, hv, rfl⟩ := mem w hw
      exact sub_ok hwe hbe (s1 v hv)
    · obtain ⟨v, hv, rfl⟩ := mem w hw
      exact s3 v hv
    · have := ddF_len (s.1.map (subW aa bb)) []
      rw [List.length_map] at this
      exact Nat.le_trans this s5
    · obtain ⟨v, hv, rfl⟩ := mem w hw
      have st : ∀ t, subT aa bb t = 1000 + k → t = 1000 + k ∨ bb = 1000 + k := fun t h => by
        unfold subT at h
        split at h
        · exact Or.inr h
        · exact Or.inl h
      have hk' : subT aa bb v.2.2.1 = 1000 + k ∨ subT aa bb v.2.2.2.1 = 1000 + k ∨ subT aa bb v.2.2.2.2 = 1000 + k := hk
      rcases hk' with h | h | h
      · rcases st _ h with z | z
        · exact s7 v hv k k0 (Or.inl z)
        · exact hk2 k k0 z
      · rcases st _ h with z | z
        · exact s7 v hv k k0 (Or.inr (Or.inl z))
        · exact hk2 k k0 z
      · rcases st _ h with z | z
        · exact s7 v hv k k0 (Or.inr (Or.inr z))
        · exact hk2 k k0 z
def usB (U : Int → Int) (β : Bd) : Prop := ∀ v k, 0 ≤ k → β v = 1000 + k → U k = 1
theorem fit1_us {U : Int → Int} {β β' : Bd} {p t : Int} (hβ : usB U β) (ht : ∀ k, 0 ≤ k → t = 1000 + k → U k = 1) (h : fit1 β p t = some β') : usB U β' := by
  unfold fit1 at h
  split at h
  · cases h
    intro v k k0 e
    unfold bup at e
    split at e
    · exact ht k k0 e
    · exact hβ v k k0 e
  · split at h
    · cases h; exact hβ
    · cases h
theorem fitA_us {U : Int → Int} {β β' : Bd} {a w : At} (hβ : usB U β) (ht : ∀ k, 0 ≤ k → (w.2.1 = 1000 + k ∨ w.2.2.1 = 1000 + k ∨ w.2.2.2 = 1000 + k) → U k = 1) (h : fitA β a w = some β') : usB U β' := by
  unfold fitA at h
  split at h
  · cases e0 : fit1 β a.2.1 w.2.1 with
    | none => rw [e0] at h; cases h
    | some β0 =>
      rw [e0, Option.bind_some] at h
      have k0 := fit1_us hβ (fun k q e => ht k q (Or.inl e)) e0
      cases e1 : fit1 β0 a.2.2.1 w.2.2.1 with
      | none => rw [e1] at h; cases h
      | some β1 =>
        rw [e1, Option.bind_some] at h
        have k1 := fit1_us k0 (fun k q e => ht k q (Or.inr (Or.inl e))) e1
        exact fit1_us k1 (fun k q e => ht k q (Or.inr (Or.inr e))) h
  · cases h
theorem hits_us {U : Int → Int} {R : List Rw} (hR : ∀ w ∈ R, ∀ k, 0 ≤ k → (w.2.2.1 = 1000 + k ∨ w.2.2.2.1 = 1000 + k ∨ w.2.2.2.2 = 1000 + k) → U k = 1) : ∀ (as : List At) (β : Bd) (z : List Rw × Bd), usB U β → z ∈ hitsL R as β → usB U z.2 := by
  intro as
  induction as with
  | nil =>
    intro β z hβ hz
    rw [hitsL, List.mem_singleton] at hz
    subst hz
    exact hβ
  | cons a as ih =>
    intro β z hβ hz
    rw [hitsL_cons, subL, List.mem_flatMap] at hz
    obtain ⟨w, hw, hz⟩ := hz
    cases hf : fitA β a w.2 with
    | none => rw [hf] at hz; cases hz
    | some β' =>
      rw [hf] at hz
      obtain ⟨z', hz', rfl⟩ := List.mem_map.mp hz
      exact ih β' z' (fitA_us hβ (hR w hw) hf) hz'
theorem okB_0 : okB bd0 := fun _ => Or.inl rfl
theorem usB_0 {U : Int → Int} : usB U bd0 := fun v k k0 e => by unfold bd0 at e; omega
theorem worth_us {U : Int → Int} {β : Bd} {p k : Int} (hβ : usB U β) (hp : isPl p) (k0 : 0 ≤ k) (e : worthB β p = 1000 + k) : U k = 1 := by
  unfold worthB at e
  split at e
  · exact hβ _ k k0 e
  · unfold isPl at hp
    omega
theorem stepA_ok {C : Int → Int} {ri : Int} {r : Ru} {q : List Rw} {β : Bd} {s : Rn} (hr : okRl C r) (hs : okS C s) (hq : (q, β) ∈ hitsL s.1 r.2.1 bd0) : okS C (stepA ri r q s).1 := by
  obtain ⟨b1, b2, b3⟩ := bindA_ok hs.1 r.2.1 bd0 (q, β) hr.2.1 okB_0 hq
  have b4 := hits_us (U := s.2.2.1) hs.2.2.2.2.2.2 r.2.1 bd0 (q, β) usB_0 hq
  have eb : bindA r.2.1 q bd0 = β := hits_bind r.2.1 bd0 (q, β) hq
  unfold stepA
  dsimp only
  rw [eb]
  split
  · exact makeA_ok hr hs b1
  · split
    · rename_i h0 h1
      obtain ⟨⟨p1, p2⟩, p3, p4⟩ := hr.2.2.2.2.2 h1
      refine meltA_ok hs (worth_ok b1 p1 (fun z => b3 _ z (p2 z))) (worth_ok b1 p3 (fun z => b3 _ z (p4 z))) (fun k k0 e => ?_)
      rcases e with e | e
      · exact worth_us b4 p1 k0 e
      · exact worth_us b4 p3 k0 e
    · exact hs
theorem pick_mem {rs : List Ru} {L : List Rw} {turn : Nat} : ∀ (m k i : Nat) (r : Ru) (q : List Rw), pickF rs L turn m k = some (i, r, q) → rs[i]? = some r ∧ openL r L = some q := by
  intro m
  induction m with
  | zero => intro k i r q h; cases h
  | succ m ih =>
    intro k i r q h
    rw [pickF] at h
    split at h
    · cases h
    · rename_i r' hr
      split at h
      · exact ih _ _ _ _ h
      · rename_i q' hq
        cases h
        exact ⟨hr, hq⟩
theorem runF_ok {C : Int → Int} {rs : List Ru} {most : Nat} (hr : ∀ r ∈ rs, okRl C r) : ∀ (f turn : Nat) (s : Rn), okS C s → okS C (runF rs most f turn s).1 := by
  intro f
  induction f with
  | zero => intro turn s hs; exact hs
  | succ f ih =>
    intro turn s hs
    rw [runF]
    split
    · exact hs
    · rename_i i r q hp
      split
      · exact hs
      · obtain ⟨h1, h2⟩ := pick_mem _ _ _ _ _ hp
        obtain ⟨β, hβ, _⟩ := openL_mem h2
        have k := stepA_ok (ri := i) (hr r (List.mem_of_getElem? h1)) hs hβ
        dsimp only
        split
        · exact ih _ _ k
        · exact k
/-- rows and atoms of one hall -/
theorem ok_fitT {C : Int → Int} {a : At} {w : Rw} (ha : okA C a) (hw : okW C w) : a.1 = w.2.1 → (2000 ≤ a.2.1 → w.2.2.1 ≠ -1) ∧ (2000 ≤ a.2.2.1 → w.2.2.2.1 ≠ -1) ∧ (2000 ≤ a.2.2.2 → w.2.2.2.2 ≠ -1) := by
  intro he
  obtain ⟨a1, a2, a3, X, Y, Z, hX, hY, hZ, ea⟩ := ha
  obtain ⟨w1, w2, w3, X', Y', Z', hX', hY', hZ', ew⟩ := hw
  rw [← he] at ew
  rw [ea, ew]
  simp only [nrm_1, nrm_2, nrm_3]
  have := (isTm_ne hX').1
  have := (isTm_ne hY').1
  have := (isTm_ne hZ').1
  refine ⟨fun _ => by assumption, ?_, ?_⟩
  · split
    · intro _; assumption
    · intro h; omega
  · split
    · intro _; assumption
    · intro h; omega
