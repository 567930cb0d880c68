/-! next hit: the class's finder goes through frames -/
def KF : Nat → Nat
  | 0 => 0
  | l + 1 => 40 * KF l + 2
def muF : List Fr → Nat
  | [] => 0
  | f :: fs => f.2.2.1.length * KF f.2.2.2.length + 1 + muF fs
def LvF (σ : St) (as : List At) (L : List Rw) (lim : Nat) : Nat → List Fr → Prop
  | _, [] => True
  | N, (pre, β, q, bs) :: fs => fs.length < as.length ∧ pre.length = fs.length ∧ bs = as.drop fs.length ∧ -1 ≤ σ 104 fs.length ∧ σ 104 fs.length ≤ 40 ∧ q = (L.take lim).drop (σ 104 fs.length + 1).toNat ∧ (∀ (j : Nat) (w : Rw), pre[j]? = some w → 0 ≤ σ 104 j ∧ σ 104 j < lim ∧ L[(σ 104 j).toNat]? = some w) ∧ ∃ k : Nat, k ≤ N ∧ σ 105 fs.length = (k : Int) ∧ bF σ k = β ∧ LvF σ as L lim k fs
theorem LvF.mono {σ τ : St} {as : List At} {L : List Rw} {lim : Nat} : ∀ (fs : List Fr) (N N' : Nat), LvF σ as L lim N fs → N ≤ N' → (∀ k, k ≤ N → bF τ k = bF σ k) → (∀ j : Nat, j < fs.length → τ 104 j = σ 104 j ∧ τ 105 j = σ 105 j) → LvF τ as L lim N' fs := by
  intro fs
  induction fs with
  | nil => intro N N' _ _ _ _; trivial
  | cons f fs ih =>
    intro N N' H hN hb hc
    obtain ⟨pre, β, q, bs⟩ := f
    obtain ⟨h1, h2, h3, h4, h5, h6, h7, k, k1, k2, k3, k4⟩ := H
    have c0 := hc fs.length (by rw [List.length_cons]; omega)
    refine ⟨h1, h2, h3, by rw [c0.1]; exact h4, by rw [c0.1]; exact h5, by rw [c0.1]; exact h6, fun j w hj => ?_, k, by omega, by rw [c0.2]; exact k2, by rw [hb k k1]; exact k3, ?_⟩
    · have hj1 := (List.getElem?_eq_some_iff.mp hj).1
      rw [(hc j (by rw [List.length_cons]; omega)).1]
      exact h7 j w hj
    · exact ih k k k4 (Nat.le_refl _) (fun i hi => hb i (by omega)) (fun j hj => hc j (by rw [List.length_cons]; omega))
/-- only the search changes -/
def FnG (σ τ : St) : Prop := (∀ c, c < 101 ∨ 105 < c → τ c = σ c) ∧ ∀ j, j ≠ 2 → j ≠ 6 → τ 101 j = σ 101 j
theorem FnG.refl {σ : St} : FnG σ σ := ⟨fun _ _ => rfl, fun _ _ _ => rfl⟩
theorem FnG.trans {σ τ ρ : St} (h1 : FnG σ τ) (h2 : FnG τ ρ) : FnG σ ρ := ⟨fun c a => (h2.1 c a).trans (h1.1 c a), fun j a b => (h2.2 j a b).trans (h1.2 j a b)⟩
theorem FnF.g {σ τ : St} (h : FnF σ τ) : FnG σ τ := ⟨fun c hc => h.1 c (by omega) (by omega) (by omega), fun j a _ => h.2 j a⟩
theorem FnG.su4 {σ : St} {i x : Int} : FnG σ (su σ 104 i x) := ⟨fun c hc => su_ne (by omega), fun j _ _ => by rw [su_ne (by omega)]⟩
theorem FnG.su5 {σ : St} {i x : Int} : FnG σ (su σ 105 i x) := ⟨fun c hc => su_ne (by omega), fun j _ _ => by rw [su_ne (by omega)]⟩
theorem FnG.su6 {σ : St} {x : Int} : FnG σ (su σ 101 6 x) := ⟨fun c hc => su_ne (by omega), fun j _ h => su_off h⟩
theorem FnG.at_ {σ τ : St} {a : Nat} (F : FnG σ τ) (o : oAt a) : τ a = σ a ∧ τ (a + 1) = σ (a + 1) ∧ τ (a + 2) = σ (a + 2) := by
  have h := oAt_far o
  exact ⟨F.1 _ (by omega), F.1 _ (by omega), F.1 _ (by omega)⟩
theorem FnG.ro {σ τ : St} {r : Nat} (F : FnG σ τ) (o : oRo r) : ∀ c, r ≤ c → c ≤ r + 4 → τ c = σ c := by
  have h := oRo_far o
  exact fun c c0 c1 => F.1 _ (by omega)
theorem FnG.as_ {σ τ : St} {a : Nat} (F : FnG σ τ) (o : oAt a) : asC τ a = asC σ a := asC_c (by rw [(F.at_ o).1]) (F.at_ o).2.1 (F.at_ o).2.2
theorem FnG.rs {σ τ : St} {r : Nat} (F : FnG σ τ) (o : oRo r) : rsC τ r = rsC σ r := rsC_c (fun c c0 c1 => F.ro o c c0 (by omega))
theorem FnG.wa {σ τ : St} {a : Nat} (F : FnG σ τ) (o : oAt a) (W : WfAt σ a) : WfAt τ a := W.c (by rw [(F.at_ o).1]) (F.at_ o).2.1 (F.at_ o).2.2
theorem FnG.wr {σ τ : St} {r : Nat} (F : FnG σ τ) (o : oRo r) (W : WfRo σ r) : WfRo τ r := W.c (F.ro o)
theorem TrF.c {σ τ : St} {n : Nat} (T : TrF σ n) (h1 : τ 101 2 = σ 101 2) (h2 : τ 102 = σ 102) (h3 : τ 103 = σ 103) : TrF τ n := by
  unfold TrF
  rw [h1, h2, h3]
  exact T
theorem bF_c {σ τ : St} (h2 : τ 102 = σ 102) (h3 : τ 103 = σ 103) (k : Nat) : bF τ k = bF σ k := by
  unfold bF
  rw [h2, h3]
theorem drop_cons {L : List Rw} {k : Nat} {w : Rw} {q : List Rw} (h : L.drop k = w :: q) : L[k]? = some w ∧ L.drop (k + 1) = q := by
  have h1 : (L.drop k)[0]? = some w := by rw [h]; rfl
  rw [List.getElem?_drop, Nat.add_zero] at h1
  refine ⟨h1, ?_⟩
  have h2 : (L.drop k).drop 1 = q := by rw [h]; rfl
  rw [List.drop_drop] at h2
  exact h2
section F3
variable {sc : Scr}
/-- what next leaves at a hit -/
def HitAt (as : List At) (L : List Rw) (lim : Nat) (pre : List Rw) (β : Bd) (rest : Hts) (τ : St) : Prop := ∃ n fs, TrF τ n ∧ bF τ n = β ∧ LvF τ as L lim n fs ∧ fs.length = as.length ∧ remF (L.take lim) fs = rest ∧ τ 101 6 = (as.length : Int) ∧ pre.length = as.length ∧ ∀ (j : Nat) (w : Rw), pre[j]? = some w → 0 ≤ τ 104 j ∧ τ 104 j < lim ∧ L[(τ 104 j).toNat]? = some w
set_option maxHeartbeats 1000000 in
theorem l_next {a r d lim : Nat} (oa : oAt a) (or : oRo r) (hd : 4 ≤ d) : ∀ (μ : Nat) (σ : St) (n : Nat) (fs : List Fr) (t : Int), muF fs ≤ μ → 0 ≤ t → t + μ ≤ 1000000 → WfAt σ a → WfRo σ r → TrF σ n → LvF σ (asC σ a) (rsC σ r) lim n fs → σ 101 7 = (lim : Int) → lim ≤ (rsC σ r).length → σ 101 6 = (fs.length : Int) - 1 → (∀ b ∈ asC σ a, ∀ w ∈ rsC σ r, fitT b w.2) →
    (remF ((rsC σ r).take lim) fs = [] ∧ ∃ τ, FnG σ τ ∧ ∀ (u : Bool × Nat × Nat × Int) (Q : Rs → HS → Prop), Ex sc d 99 23 [some (vR 101), some (vR a), some (vR r), some (vI t)] [] (wH σ u) Q ↔ Q (.inl (some (vI (0)))) (wH τ u)) ∨
    (∃ pre β rest τ, remF ((rsC σ r).take lim) fs = (pre, β) :: rest ∧ FnG σ τ ∧ HitAt (asC σ a) (rsC σ r) lim pre β rest τ ∧ ∀ (u : Bool × Nat × Nat × Int) (Q : Rs → HS → Prop), Ex sc d 99 23 [some (vR 101), some (vR a), some (vR r), some (vI t)] [] (wH σ u) Q ↔ Q (.inl (some (vI (1)))) (wH τ u)) := by
  intro μ
  induction μ with
  | zero =>
    intro σ n fs t hμ t0 tμ Wa Wr T hL hlim hl hdep hT
    cases fs with
    | nil =>
      rw [List.length_nil] at hdep
      refine Or.inl ⟨rfl, σ, FnG.refl, fun u Q => ?_⟩
      rw [x99_23]
      by_cases ht : t < 1000000
      · simp (disch := first | assumption | omega | exact notL_I | exact notL_N | exact notL_R | exact catS_le (Nat.le_of_ble_eq_true rfl) | exact ooRo (by assumption) | exact ooAt (by assumption) | exact ooRu (by assumption) | exact ooLo (by assumption) | exact ooHa (by assumption) | exact ooLe (by assumption) | exact ooFn | exact ooAn | exact ooPa | exact ooTo | exact ooWa | exact ooCh | rfl) only [x99_0, x99_1, x99_4, x99_5, x99_8, x99_11, x99_12, x99_13, x99_16, x99_17, x99_18, x99_21, x99_22, x99_24, x99_26, x99_29, x99_30, x99_33, x99_36, x99_37, x99_38, x99_41, x99_42, x99_45, x99_46, x99_49, x99_50, x99_53, x99_54, x99_57, x99_58, x99_59, x99_60, x99_61, x99_62, x99_63, x99_66, x99_67, x99_70, x99_71, x99_72, x99_75, x99_78, x99_79I, x99_79, x99_80, x99_83, x99_84, x99_85, x99_88, x99_91, x99_92, x99_93, x99_94, x99_97, x99_98, x99_99, x99_102, x99_103, x99_106, x99_107, x99_110, x99_113, x99_114I, x99_114, x99_115, x99_118, x99_119, x99_120, x99_123, x99_124, x99_127, x99_128, x99_131, x99_134, x99_135, x99_136, x99_137, x99_140, x99_141, x99_144, x99_145, x99_146, x99_147, x99_150, x99_151, x99_154, x99_155, x99_158, x99_159, x99_162, x99_165, x99_166, gFn_depth, hdep, if_pos, if_neg, ↓reduceIte, not_true_eq_false, not_false_eq_true]
      · simp (disch := first | assumption | omega | exact notL_I | exact notL_N | exact notL_R | exact catS_le (Nat.le_of_ble_eq_true rfl) | exact ooRo (by assumption) | exact ooAt (by assumption) | exact ooRu (by assumption) | exact ooLo (by assumption) | exact ooHa (by assumption) | exact ooLe (by assumption) | exact ooFn | exact ooAn | exact ooPa | exact ooTo | exact ooWa | exact ooCh | rfl) only [x99_0, x99_1, x99_4, x99_5, x99_8, x99_11, x99_12, x99_13, x99_16, x99_17, x99_18, x99_21, x99_22, x99_24, x99_26, x99_29, x99_30, x99_33, x99_36, x99_37, x99_38, x99_41, x99_42, x99_45, x99_46, x99_49, x99_50, x99_53, x99_54, x99_57, x99_58, x99_59, x99_60, x99_61, x99_62, x99_63, x99_66, x99_67, x99_70, x99_71, x99_72, x99_75, x99_78, x99_79I, x99_79, x99_80, x99_83, x99_84, x99_85, x99_88, x99_91, x99_92, x99_93, x99_94, x99_97, x99_98, x99_99, x99_102, x99_103, x99_106, x99_107, x99_110, x99_113, x99_114I, x99_114, x99_115, x99_118, x99_119, x99_120, x99_123, x99_124, x99_127, x99_128, x99_131, x99_134, x99_135, x99_136, x99_137, x99_140, x99_141, x99_144, x99_145, x99_146, x99_147, x99_150, x99_151, x99_154, x99_155, x99_158, x99_159, x99_162, x99_165, x99_166, gFn_depth, hdep, if_pos, if_neg, ↓reduceIte, not_true_eq_false, not_false_eq_true]
    | cons f fs =>
      unfold muF at hμ
      omega
  | succ μ ih =>
    intro σ n fs t hμ t0 tμ Wa Wr T hL hlim hl hdep hT
    cases fs with
    | nil =>
      rw [List.length_nil] at hdep
      refine Or.inl ⟨rfl, σ, FnG.refl, fun u Q => ?_⟩
      rw [x99_23]
      simp (disch := first | assumption | omega | exact notL_I | exact notL_N | exact notL_R | exact catS_le (Nat.le_of_ble_eq_true rfl) | exact ooRo (by assumption) | exact ooAt (by assumption) | exact ooRu (by assumption) | exact ooLo (by assumption) | exact ooHa (by assumption) | exact ooLe (by assumption) | exact ooFn | exact ooAn | exact ooPa | exact ooTo | exact ooWa | exact ooCh | rfl) only [x99_0, x99_1, x99_4, x99_5, x99_8, x99_11, x99_12, x99_13, x99_16, x99_17, x99_18, x99_21, x99_22, x99_24, x99_26, x99_29, x99_30, x99_33, x99_36, x99_37, x99_38, x99_41, x99_42, x99_45, x99_46, x99_49, x99_50, x99_53, x99_54, x99_57, x99_58, x99_59, x99_60, x99_61, x99_62, x99_63, x99_66, x99_67, x99_70, x99_71, x99_72, x99_75, x99_78, x99_79I, x99_79, x99_80, x99_83, x99_84, x99_85, x99_88, x99_91, x99_92, x99_93, x99_94, x99_97, x99_98, x99_99, x99_102, x99_103, x99_106, x99_107, x99_110, x99_113, x99_114I, x99_114, x99_115, x99_118, x99_119, x99_120, x99_123, x99_124, x99_127, x99_128, x99_131, x99_134, x99_135, x99_136, x99_137, x99_140, x99_141, x99_144, x99_145, x99_146, x99_147, x99_150, x99_151, x99_154, x99_155, x99_158, x99_159, x99_162, x99_165, x99_166, gFn_depth, hdep, if_pos, if_neg, ↓reduceIte, not_true_eq_false, not_false_eq_true]
    | cons f fs =>
      obtain ⟨pre, β, q, bs⟩ := f
      obtain ⟨h1, h2, h3, h4, h5, h6, h7, k, k1, k2, k3, k4⟩ := hL
      have na : a ≠ 101 := by have := oAt_far oa; omega
      have wa := Wa.1
      have wr := Wr.1
      have la := asC_len (σ := σ) (r := a) wa.1
      have lr := rsC_len (σ := σ) (r := r) wr.1
      have hdep' : σ 101 6 = (fs.length : Int) := by rw [hdep, List.length_cons]; omega
      have hfl : (fs.length : Int) ≤ 2 := by omega
      -- undo
      obtain ⟨τ0, F0, T0, K0, r0⟩ := s_undo (sc := sc) (d := d - 1) k1 T
      have e4 : τ0 104 = σ 104 := F0.1 104 (by omega) (by omega) (by omega)
      have e5 : τ0 105 = σ 105 := F0.1 105 (by omega) (by omega) (by omega)
      have e6 : τ0 101 6 = (fs.length : Int) := by rw [F0.2 6 (by omega)]; exact hdep'
      have e7 : τ0 101 7 = (lim : Int) := by rw [F0.2 7 (by omega)]; exact hlim
      have tk : τ0 101 2 = (k : Int) := T0.1
      -- chosen
      have F1 : FnG σ (su τ0 104 fs.length (σ 104 fs.length + 1)) := F0.g.trans FnG.su4
      have T1 : TrF (su τ0 104 fs.length (σ 104 fs.length + 1)) k := T0.c (by rw [su_ne (by omega)]) (su_ne (by omega)) (su_ne (by omega))
      have K1 : ∀ i, i ≤ k → bF (su τ0 104 fs.length (σ 104 fs.length + 1)) i = bF σ i := fun i hi => (bF_c (su_ne (by omega)) (su_ne (by omega)) i).trans (K0 i hi)
      have L1 : ∀ j : Nat, j < fs.length → su τ0 104 fs.length (σ 104 fs.length + 1) 104 j = σ 104 j ∧ su τ0 104 fs.length (σ 104 fs.length + 1) 105 j = σ 105 j := fun j hj => ⟨by rw [su_off (by omega), e4], by rw [su_ne (by omega), e5]⟩
      have c1 : su τ0 104 fs.length (σ 104 fs.length + 1) 104 fs.length = σ 104 fs.length + 1 := su_eq
      have m1 : su τ0 104 fs.length (σ 104 fs.length + 1) 105 fs.length = (k : Int) := by rw [su_ne (by omega), e5]; exact k2
      have d1 : su τ0 104 fs.length (σ 104 fs.length + 1) 101 6 = (fs.length : Int) := by rw [su_ne (by omega)]; exact e6
      have l1 : su τ0 104 fs.length (σ 104 fs.length + 1) 101 7 = (lim : Int) := by rw [su_ne (by omega)]; exact e7
      have s1 : su τ0 104 fs.length (σ 104 fs.length + 1) 101 2 = (k : Int) := T1.1
      have g4 : τ0 104 fs.length = σ 104 fs.length := by rw [e4]
      generalize hτ1 : su τ0 104 fs.length (σ 104 fs.length + 1) = τ1 at F1 T1 K1 L1 c1 m1 d1 l1 s1
      have Lf : LvF τ1 (asC σ a) (rsC σ r) lim k fs := LvF.mono fs k k k4 (Nat.le_refl _) K1 L1
      have a1 := F1.as_ oa
      have rr1 := F1.rs or
      have aa0 : τ1 a 0 = σ a 0 := by rw [(F1.at_ oa).1]
      cases q with
      | nil =>
        -- no more rows: go back
        have hc : (lim : Int) ≤ σ 104 fs.length + 1 := by
          have := congrArg List.length h6
          rw [List.length_nil, List.length_drop, List.length_take] at this
          omega
        have F2 : FnG σ (su τ1 101 6 ((fs.length : Int) - 1)) := F1.trans FnG.su6
        have Lf2 : LvF (su τ1 101 6 ((fs.length : Int) - 1)) (asC σ a) (rsC σ r) lim k fs := LvF.mono fs k k Lf (Nat.le_refl _) (fun i _ => bF_c (su_ne (by omega)) (su_ne (by omega)) i) (fun j _ => ⟨by rw [su_ne (by omega)], by rw [su_ne (by omega)]⟩)
        have hμ2 : muF fs ≤ μ := by
          unfold muF at hμ
          omega
        have ihh := ih (su τ1 101 6 ((fs.length : Int) - 1)) k fs (t + 1) hμ2 (by omega) (by omega) (F2.wa oa Wa) (F2.wr or Wr) (T1.c (by rw [su_off (by omega)]) (su_ne (by omega)) (su_ne (by omega))) (by rw [F2.as_ oa, F2.rs or]; exact Lf2) (by rw [su_off (by omega)]; exact l1) (by rw [F2.rs or]; exact hl) (by rw [su_eq]) (by rw [F2.as_ oa, F2.rs or]; exact hT)
        rw [F2.as_ oa, F2.rs or] at ihh
        rw [h3] at *
        have hb : ∃ b bs', (asC σ a).drop fs.length = b :: bs' := by
          cases hz : (asC σ a).drop fs.length with
          | nil =>
            have := congrArg List.length hz
            rw [List.length_drop, List.length_nil] at this
            omega
          | cons b bs' => exact ⟨b, bs', rfl⟩
        obtain ⟨b, bs', hb⟩ := hb
        rw [hb, remF_pop]
        have step : ∀ (u : Bool × Nat × Nat × Int) (Q : Rs → HS → Prop), Ex sc d 99 23 [some (vR 101), some (vR a), some (vR r), some (vI t)] [] (wH σ u) Q ↔ Ex sc d 99 23 [some (vR 101), some (vR a), some (vR r), some (vI (t + 1))] [] (wH (su τ1 101 6 ((fs.length : Int) - 1)) u) Q := by
          intro u Q
          rw [x99_23]
          simp (disch := first | assumption | omega | exact notL_I | exact notL_N | exact notL_R | exact catS_le (Nat.le_of_ble_eq_true rfl) | exact ooRo (by assumption) | exact ooAt (by assumption) | exact ooRu (by assumption) | exact ooLo (by assumption) | exact ooHa (by assumption) | exact ooLe (by assumption) | exact ooFn | exact ooAn | exact ooPa | exact ooTo | exact ooWa | exact ooCh | rfl) only [x99_0, x99_1, x99_4, x99_5, x99_8, x99_11, x99_12, x99_13, x99_16, x99_17, x99_18, x99_21, x99_22, x99_24, x99_26, x99_29, x99_30, x99_33, x99_36, x99_37, x99_38, x99_41, x99_42, x99_45, x99_46, x99_49, x99_50, x99_53, x99_54, x99_57, x99_58, x99_59, x99_60, x99_61, x99_62, x99_63, x99_66, x99_67, x99_70, x99_71, x99_72, x99_75, x99_78, x99_79I, x99_79, x99_80, x99_83, x99_84, x99_85, x99_88, x99_91, x99_92, x99_93, x99_94, x99_97, x99_98, x99_99, x99_102, x99_103, x99_106, x99_107, x99_110, x99_113, x99_114I, x99_114, x99_115, x99_118, x99_119, x99_120, x99_123, x99_124, x99_127, x99_128, x99_131, x99_134, x99_135, x99_136, x99_137, x99_140, x99_141, x99_144, x99_145, x99_146, x99_147, x99_150, x99_151, x99_154, x99_155, x99_158, x99_159, x99_162, x99_165, x99_166, gFn_depth, gFn_mark, gFn_chosen, gFn_limit, RFn_mark, RFn_chosen, WFn_chosen, hdep', k2, r0 u, Kc_none, e6, e7, g4, hτ1, d1, c1, l1, pFn_depth, if_pos, if_neg, ↓reduceIte, not_true_eq_false, not_false_eq_true]
        rcases ihh with ⟨z1, τ, z2, z3⟩ | ⟨pre2, β2, rest2, τ, z1, z2, z3, z4⟩
        · exact Or.inl ⟨z1, τ, F2.trans z2, fun u Q => (step u Q).trans (z3 u Q)⟩
        · exact Or.inr ⟨pre2, β2, rest2, τ, z1, F2.trans z2, z3, fun u Q => (step u Q).trans (z4 u Q)⟩
      | cons w q =>
        obtain ⟨g1, g2⟩ := drop_cons h6.symm
        have hc : (σ 104 fs.length + 1).toNat < lim ∧ (σ 104 fs.length + 1).toNat < (rsC σ r).length := by
          have := (List.getElem?_eq_some_iff.mp g1).1
          rw [List.length_take] at this
          omega
        have g1' : (rsC σ r)[(σ 104 fs.length + 1).toNat]? = some w := by
          rw [List.getElem?_take] at g1
          rw [if_pos hc.1] at g1
          exact g1
        have hw : rwC σ r (σ 104 fs.length + 1) = w := by
          have := rsC_get (σ := σ) (r := r) (p := σ 104 fs.length + 1) (by omega) (by omega)
          rw [g1'] at this
          exact (Option.some.inj this).symm
        have hwm : w ∈ rsC σ r := List.mem_of_getElem? g1'
        have hbs : ∃ bs', bs = atK σ a fs.length :: bs' ∧ bs' = (asC σ a).drop (fs.length + 1) := by
          have := asC_get (σ := σ) (r := a) (p := fs.length) (by omega) (by omega)
          rw [Int.toNat_natCast] at this
          obtain ⟨hlt, he⟩ := List.getElem?_eq_some_iff.mp this
          refine ⟨_, ?_, rfl⟩
          rw [h3, List.drop_eq_getElem_cons hlt, he]
        obtain ⟨bs', hb1, hb2⟩ := hbs
        have ham : atK σ a fs.length ∈ asC σ a := by
          have := asC_get (σ := σ) (r := a) (p := fs.length) (by omega) (by omega)
          exact List.mem_of_getElem? this
        have ea : atK τ1 a fs.length = atK σ a fs.length := by unfold atK; rw [(F1.at_ oa).2.1, (F1.at_ oa).2.2]
        have ew : rwC τ1 r (σ 104 fs.length + 1) = w := by
          rw [← hw]
          unfold rwC
          rw [F1.ro or (r + 1) (by omega) (by omega), F1.ro or (r + 2) (by omega) (by omega), F1.ro or (r + 3) (by omega) (by omega)]
        obtain ⟨τ2, n2, F2, T2, le2, K2, hh⟩ := s_fitsC (sc := sc) (d := d - 1) (σ := τ1) (i := fs.length) (p := σ 104 fs.length + 1) oa or (F1.wa oa Wa) (F1.wr or Wr) (by omega) (by omega) (by omega) (by omega) (by rw [ea, ew]; exact hT _ ham _ hwm) T1 (by omega)
        rw [ea, ew, K1 k (Nat.le_refl _), k3] at hh
        have F12 := F1.trans F2.g
        have b4 : τ2 104 = τ1 104 := F2.1 104 (by omega) (by omega) (by omega)
        have b5 : τ2 105 = τ1 105 := F2.1 105 (by omega) (by omega) (by omega)
        have b6 : τ2 101 6 = (fs.length : Int) := by rw [F2.2 6 (by omega)]; exact d1
        have b7 : τ2 101 7 = (lim : Int) := by rw [F2.2 7 (by omega)]; exact l1
        have ba0 : τ2 a 0 = σ a 0 := by rw [(F12.at_ oa).1]
        have Lfr : ∀ N, k ≤ N → LvF τ2 (asC σ a) (rsC σ r) lim N ((pre, β, q, bs) :: fs) := by
          intro N hN
          refine ⟨h1, h2, h3, by rw [b4, c1]; omega, by rw [b4, c1]; omega, ?_, fun j v hj => ?_, k, hN, by rw [b5]; exact m1, ?_, ?_⟩
          · rw [b4, c1, ← g2]
            congr 1
            omega
          · have hj1 := (List.getElem?_eq_some_iff.mp hj).1
            rw [b4, (L1 j (by omega)).1]
            exact h7 j v hj
          · rw [K2 k (Nat.le_refl _), K1 k (Nat.le_refl _)]
            exact k3
          · exact LvF.mono fs k k Lf (Nat.le_refl _) (fun i hi => K2 i hi) (fun j hj => ⟨by rw [b4], by rw [b5]⟩)
        rcases hh with ⟨β', f1, f2, f3⟩ | ⟨f1, f2, f3⟩
        · cases bs' with
          | nil =>
            -- a hit
            have hm : (asC σ a).length = fs.length + 1 := by
              have := congrArg List.length hb2
              rw [List.length_nil, List.length_drop] at this
              omega
            rw [hb1, remF_hit f1]
            refine Or.inr ⟨pre ++ [w], β', _, su τ2 101 6 ((fs.length : Int) + 1), rfl, F12.trans FnG.su6, ?_, fun u Q => ?_⟩
            · refine ⟨n2, (pre, β, q, bs) :: fs, T2.c (by rw [su_off (by omega)]) (su_ne (by omega)) (su_ne (by omega)), ?_, ?_, by rw [List.length_cons, hm], by rw [hb1], by rw [su_eq, hm]; omega, by rw [List.length_append, h2, hm]; rfl, fun j v hj => ?_⟩
              · rw [bF_c (su_ne (by omega)) (su_ne (by omega))]; exact f2
              · exact LvF.mono _ n2 n2 (Lfr n2 le2) (Nat.le_refl _) (fun i _ => bF_c (su_ne (by omega)) (su_ne (by omega)) i) (fun j _ => ⟨by rw [su_ne (by omega)], by rw [su_ne (by omega)]⟩)
              · rw [su_ne (by omega), b4]
                by_cases hj2 : j < pre.length
                · rw [List.getElem?_append_left hj2] at hj
                  rw [(L1 j (by omega)).1]
                  exact h7 j v hj
                · rw [List.getElem?_append_right (by omega)] at hj
                  have hj3 : j - pre.length < 1 := (List.getElem?_eq_some_iff.mp hj).1
                  have hj4 : j = fs.length := by omega
                  rw [show j - pre.length = 0 by omega] at hj
                  cases hj
                  rw [hj4, c1]
                  exact ⟨by omega, by omega, g1'⟩
            · rw [x99_23]
              simp (disch := first | assumption | omega | exact notL_I | exact notL_N | exact notL_R | exact catS_le (Nat.le_of_ble_eq_true rfl) | exact ooRo (by assumption) | exact ooAt (by assumption) | exact ooRu (by assumption) | exact ooLo (by assumption) | exact ooHa (by assumption) | exact ooLe (by assumption) | exact ooFn | exact ooAn | exact ooPa | exact ooTo | exact ooWa | exact ooCh | rfl) only [x99_0, x99_1, x99_4, x99_5, x99_8, x99_11, x99_12, x99_13, x99_16, x99_17, x99_18, x99_21, x99_22, x99_24, x99_26, x99_29, x99_30, x99_33, x99_36, x99_37, x99_38, x99_41, x99_42, x99_45, x99_46, x99_49, x99_50, x99_53, x99_54, x99_57, x99_58, x99_59, x99_60, x99_61, x99_62, x99_63, x99_66, x99_67, x99_70, x99_71, x99_72, x99_75, x99_78, x99_79I, x99_79, x99_80, x99_83, x99_84, x99_85, x99_88, x99_91, x99_92, x99_93, x99_94, x99_97, x99_98, x99_99, x99_102, x99_103, x99_106, x99_107, x99_110, x99_113, x99_114I, x99_114, x99_115, x99_118, x99_119, x99_120, x99_123, x99_124, x99_127, x99_128, x99_131, x99_134, x99_135, x99_136, x99_137, x99_140, x99_141, x99_144, x99_145, x99_146, x99_147, x99_150, x99_151, x99_154, x99_155, x99_158, x99_159, x99_162, x99_165, x99_166, gFn_depth, gFn_mark, gFn_chosen, gFn_limit, RFn_mark, RFn_chosen, WFn_chosen, gAt_count, hdep', k2, r0 u, Kc_none, Kc_some, e6, e7, g4, hτ1, d1, c1, l1, f3 u, b6, pFn_depth, su_eq, su_ne, ba0, if_pos, if_neg, ↓reduceIte, not_true_eq_false, not_false_eq_true]
          | cons b2 bs2 =>
            -- one level deeper
            have hm : fs.length + 1 < (asC σ a).length := by
              have := congrArg List.length hb2
              rw [List.length_cons, List.length_drop] at this
              omega
            rw [hb1, remF_push f1]
            have n2l := T2.2.1.le26
            generalize hτ3 : su (su (su τ2 101 6 ((fs.length : Int) + 1)) 104 ((fs.length : Int) + 1) (-1)) 105 ((fs.length : Int) + 1) (n2 : Int) = τ3
            have F3 : FnG σ τ3 := by rw [← hτ3]; exact F12.trans (FnG.su6.trans (FnG.su4.trans FnG.su5))
            have T3 : TrF τ3 n2 := by
              rw [← hτ3]
              exact T2.c (by rw [su_ne (by omega), su_ne (by omega), su_off (by omega)]) (by rw [su_ne (by omega), su_ne (by omega), su_ne (by omega)]) (by rw [su_ne (by omega), su_ne (by omega), su_ne (by omega)])
            have K3 : ∀ i, bF τ3 i = bF τ2 i := fun i => by
              rw [← hτ3]
              exact bF_c (by rw [su_ne (by omega), su_ne (by omega), su_ne (by omega)]) (by rw [su_ne (by omega), su_ne (by omega), su_ne (by omega)]) i
            have j4 : ∀ j : Nat, j < fs.length + 1 → τ3 104 j = τ2 104 j ∧ τ3 105 j = τ2 105 j := fun j hj => by
              rw [← hτ3]
              exact ⟨by rw [su_ne (by omega), su_off (by omega), su_ne (by omega)], by rw [su_off (by omega), su_ne (by omega), su_ne (by omega)]⟩
            have t4 : τ3 104 ((fs.length + 1 : Nat) : Int) = -1 := by rw [← hτ3, su_ne (by omega), show ((fs.length + 1 : Nat) : Int) = (fs.length : Int) + 1 by omega, su_eq]
            have t5 : τ3 105 ((fs.length + 1 : Nat) : Int) = (n2 : Int) := by rw [← hτ3, show ((fs.length + 1 : Nat) : Int) = (fs.length : Int) + 1 by omega, su_eq]
            have t6 : τ3 101 6 = (fs.length : Int) + 1 := by rw [← hτ3, su_ne (by omega), su_ne (by omega), su_eq]
            have t7 : τ3 101 7 = (lim : Int) := by rw [← hτ3, su_ne (by omega), su_ne (by omega), su_off (by omega)]; exact b7
            have Lf3 : LvF τ3 (asC σ a) (rsC σ r) lim n2 ((pre ++ [w], β', (rsC σ r).take lim, b2 :: bs2) :: (pre, β, q, bs) :: fs) := by
              refine ⟨by rw [List.length_cons]; omega, by rw [List.length_append, h2, List.length_cons]; rfl, hb2, ?_, ?_, ?_, fun j v hj => ?_, n2, Nat.le_refl _, ?_, ?_, ?_⟩
              · rw [List.length_cons, t4]; omega
              · rw [List.length_cons, t4]; omega
              · rw [List.length_cons, t4]; rfl
              · by_cases hj2 : j < pre.length
                · rw [List.getElem?_append_left hj2] at hj
                  rw [(j4 j (by omega)).1, b4, (L1 j (by omega)).1]
                  exact h7 j v hj
                · rw [List.getElem?_append_right (by omega)] at hj
                  have hj3 : j - pre.length < 1 := (List.getElem?_eq_some_iff.mp hj).1
                  have hj4 : j = fs.length := by omega
                  rw [show j - pre.length = 0 by omega] at hj
                  cases hj
                  rw [(j4 j (by omega)).1, b4, hj4, c1]
                  exact ⟨by omega, by omega, g1'⟩
              · rw [List.length_cons]; exact t5
              · rw [K3]; exact f2
              · exact LvF.mono _ n2 n2 (Lfr n2 le2) (Nat.le_refl _) (fun i _ => K3 i) (fun j hj => j4 j (by rw [List.length_cons] at hj; exact hj))
            have hμ2 : muF ((pre ++ [w], β', (rsC σ r).take lim, b2 :: bs2) :: (pre, β, q, bs) :: fs) ≤ μ := by
              have hlt : ((rsC σ r).take lim).length ≤ 40 := by rw [List.length_take]; omega
              have hmul := Nat.mul_le_mul_right (KF (b2 :: bs2).length) hlt
              rw [hb1] at hμ ⊢
              unfold muF at hμ ⊢
              unfold muF
              dsimp only at hμ hmul ⊢
              rw [List.length_cons (a := w), Nat.succ_mul] at hμ
              have hk : KF (atK σ a fs.length :: b2 :: bs2).length = 40 * KF (b2 :: bs2).length + 2 := rfl
              omega
            have ihh := ih τ3 n2 _ (t + 1) hμ2 (by omega) (by omega) (F3.wa oa Wa) (F3.wr or Wr) T3 (by rw [F3.as_ oa, F3.rs or]; exact Lf3) t7 (by rw [F3.rs or]; exact hl) (by rw [t6, List.length_cons, List.length_cons]; omega) (by rw [F3.as_ oa, F3.rs or]; exact hT)
            rw [F3.as_ oa, F3.rs or, hb1] at ihh
            have step : ∀ (u : Bool × Nat × Nat × Int) (Q : Rs → HS → Prop), Ex sc d 99 23 [some (vR 101), some (vR a), some (vR r), some (vI t)] [] (wH σ u) Q ↔ Ex sc d 99 23 [some (vR 101), some (vR a), some (vR r), some (vI (t + 1))] [] (wH τ3 u) Q := by
              intro u Q
              have n2s : τ2 101 2 = (n2 : Int) := T2.1
              rw [x99_23]
              simp (disch := first | assumption | omega | exact notL_I | exact notL_N | exact notL_R | exact catS_le (Nat.le_of_ble_eq_true rfl) | exact ooRo (by assumption) | exact ooAt (by assumption) | exact ooRu (by assumption) | exact ooLo (by assumption) | exact ooHa (by assumption) | exact ooLe (by assumption) | exact ooFn | exact ooAn | exact ooPa | exact ooTo | exact ooWa | exact ooCh | rfl) only [x99_0, x99_1, x99_4, x99_5, x99_8, x99_11, x99_12, x99_13, x99_16, x99_17, x99_18, x99_21, x99_22, x99_24, x99_26, x99_29, x99_30, x99_33, x99_36, x99_37, x99_38, x99_41, x99_42, x99_45, x99_46, x99_49, x99_50, x99_53, x99_54, x99_57, x99_58, x99_59, x99_60, x99_61, x99_62, x99_63, x99_66, x99_67, x99_70, x99_71, x99_72, x99_75, x99_78, x99_79I, x99_79, x99_80, x99_83, x99_84, x99_85, x99_88, x99_91, x99_92, x99_93, x99_94, x99_97, x99_98, x99_99, x99_102, x99_103, x99_106, x99_107, x99_110, x99_113, x99_114I, x99_114, x99_115, x99_118, x99_119, x99_120, x99_123, x99_124, x99_127, x99_128, x99_131, x99_134, x99_135, x99_136, x99_137, x99_140, x99_141, x99_144, x99_145, x99_146, x99_147, x99_150, x99_151, x99_154, x99_155, x99_158, x99_159, x99_162, x99_165, x99_166, gFn_depth, gFn_mark, gFn_chosen, gFn_limit, gFn_trailSize, RFn_mark, RFn_chosen, WFn_chosen, WFn_mark, gAt_count, hdep', k2, r0 u, Kc_none, Kc_some, e6, e7, g4, hτ1, d1, c1, l1, f3 u, b6, pFn_depth, su_eq, su_ne, su_off, ba0, n2s, hτ3, if_pos, if_neg, ↓reduceIte, not_true_eq_false, not_false_eq_true]
            rcases ihh with ⟨z1, τ, z2, z3⟩ | ⟨pre2, βz, rest2, τ, z1, z2, z3, z4⟩
            · exact Or.inl ⟨z1, τ, F3.trans z2, fun u Q => (step u Q).trans (z3 u Q)⟩
            · exact Or.inr ⟨pre2, βz, rest2, τ, z1, F3.trans z2, z3, fun u Q => (step u Q).trans (z4 u Q)⟩
        · -- does not fit
          subst f2
          have hμ2 : muF ((pre, β, q, bs) :: fs) ≤ μ := by
            rw [hb1] at hμ ⊢
            unfold muF at hμ ⊢
            dsimp only at hμ ⊢
            rw [List.length_cons (a := w), Nat.succ_mul] at hμ
            have hk : KF (atK σ a fs.length :: bs').length = 40 * KF bs'.length + 2 := rfl
            omega
          have ihh := ih τ2 n2 ((pre, β, q, bs) :: fs) (t + 1) hμ2 (by omega) (by omega) (F12.wa oa Wa) (F12.wr or Wr) T2 (by rw [F12.as_ oa, F12.rs or]; exact Lfr n2 (Nat.le_refl _)) b7 (by rw [F12.rs or]; exact hl) (by rw [b6, List.length_cons]; omega) (by rw [F12.as_ oa, F12.rs or]; exact hT)
          rw [F12.as_ oa, F12.rs or, hb1] at ihh
          rw [hb1, remF_none f1]
          have step : ∀ (u : Bool × Nat × Nat × Int) (Q : Rs → HS → Prop), Ex sc d 99 23 [some (vR 101), some (vR a), some (vR r), some (vI t)] [] (wH σ u) Q ↔ Ex sc d 99 23 [some (vR 101), some (vR a), some (vR r), some (vI (t + 1))] [] (wH τ2 u) Q := by
            intro u Q
            rw [x99_23]
            simp (disch := first | assumption | omega | exact notL_I | exact notL_N | exact notL_R | exact catS_le (Nat.le_of_ble_eq_true rfl) | exact ooRo (by assumption) | exact ooAt (by assumption) | exact ooRu (by assumption) | exact ooLo (by assumption) | exact ooHa (by assumption) | exact ooLe (by assumption) | exact ooFn | exact ooAn | exact ooPa | exact ooTo | exact ooWa | exact ooCh | rfl) only [x99_0, x99_1, x99_4, x99_5, x99_8, x99_11, x99_12, x99_13, x99_16, x99_17, x99_18, x99_21, x99_22, x99_24, x99_26, x99_29, x99_30, x99_33, x99_36, x99_37, x99_38, x99_41, x99_42, x99_45, x99_46, x99_49, x99_50, x99_53, x99_54, x99_57, x99_58, x99_59, x99_60, x99_61, x99_62, x99_63, x99_66, x99_67, x99_70, x99_71, x99_72, x99_75, x99_78, x99_79I, x99_79, x99_80, x99_83, x99_84, x99_85, x99_88, x99_91, x99_92, x99_93, x99_94, x99_97, x99_98, x99_99, x99_102, x99_103, x99_106, x99_107, x99_110, x99_113, x99_114I, x99_114, x99_115, x99_118, x99_119, x99_120, x99_123, x99_124, x99_127, x99_128, x99_131, x99_134, x99_135, x99_136, x99_137, x99_140, x99_141, x99_144, x99_145, x99_146, x99_147, x99_150, x99_151, x99_154, x99_155, x99_158, x99_159, x99_162, x99_165, x99_166, gFn_depth, gFn_mark, gFn_chosen, gFn_limit, RFn_mark, RFn_chosen, WFn_chosen, gAt_count, hdep', k2, r0 u, Kc_none, Kc_some, e6, e7, g4, hτ1, d1, c1, l1, f3 u, if_pos, if_neg, ↓reduceIte, not_true_eq_false, not_false_eq_true]
          rcases ihh with ⟨z1, τ, z2, z3⟩ | ⟨pre2, βz, rest2, τ, z1, z2, z3, z4⟩
          · exact Or.inl ⟨z1, τ, F12.trans z2, fun u Q => (step u Q).trans (z3 u Q)⟩
          · exact Or.inr ⟨pre2, βz, rest2, τ, z1, F12.trans z2, z3, fun u Q => (step u Q).trans (z4 u Q)⟩
end F3
