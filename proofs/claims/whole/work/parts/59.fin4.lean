/-! begin, next, countAll, isFulfilled of the class's finder -/
theorem LvF.len {σ : St} {as : List At} {L : List Rw} {lim : Nat} : ∀ (fs : List Fr) (N : Nat), LvF σ as L lim N fs → L.length ≤ 40 → as.length ≤ 3 → muF fs ≤ fs.length * 131281 := by
  intro fs
  induction fs with
  | nil => intro N _ _ _; exact Nat.le_refl _
  | cons f fs ih =>
    intro N H hL ha
    obtain ⟨pre, β, q, bs⟩ := f
    obtain ⟨h1, h2, h3, h4, h5, h6, h7, k, k1, k2, k3, k4⟩ := H
    have i1 := ih k k4 hL ha
    have q1 : q.length ≤ 40 := by rw [h6, List.length_drop, List.length_take]; omega
    have b1 : bs.length ≤ 3 := by rw [h3, List.length_drop]; omega
    have kf : KF bs.length ≤ 3282 := by
      rcases (show bs.length = 0 ∨ bs.length = 1 ∨ bs.length = 2 ∨ bs.length = 3 by omega) with e | e | e | e <;> rw [e] <;> decide
    have m1 := Nat.mul_le_mul q1 kf
    unfold muF
    rw [List.length_cons, Nat.succ_mul]
    dsimp only
    omega
/-- a search under way: the hits that are left -/
def Sch (as : List At) (L : List Rw) (lim : Nat) (σ : St) (H : Hts) : Prop := ∃ n fs, TrF σ n ∧ LvF σ as L lim n fs ∧ σ 101 7 = (lim : Int) ∧ lim ≤ L.length ∧ remF (L.take lim) fs = H ∧ ((σ 101 6 < as.length ∧ σ 101 6 = (fs.length : Int) - 1) ∨ ((as.length : Int) ≤ σ 101 6 ∧ σ 101 6 ≤ 3 ∧ fs.length = as.length))
theorem HitAt.sch {as : List At} {L : List Rw} {lim : Nat} {pre : List Rw} {β : Bd} {rest : Hts} {τ : St} (h : HitAt as L lim pre β rest τ) (h7 : τ 101 7 = (lim : Int)) (hl : lim ≤ L.length) (h3 : as.length ≤ 3) : Sch as L lim τ rest := by
  obtain ⟨n, fs, a1, a2, a3, a4, a5, a6, a7, a8⟩ := h
  exact ⟨n, fs, a1, a3, h7, hl, a5, Or.inr ⟨by omega, by omega, a4⟩⟩
theorem Sch.c {as : List At} {L : List Rw} {lim : Nat} {σ τ : St} {H : Hts} (h : Sch as L lim σ H) (e1 : ∀ j, j = 2 ∨ j = 6 ∨ j = 7 → τ 101 j = σ 101 j) (e2 : ∀ c, 102 ≤ c → c ≤ 105 → τ c = σ c) : Sch as L lim τ H := by
  obtain ⟨n, fs, a1, a2, a3, a4, a5, a6⟩ := h
  refine ⟨n, fs, a1.c (e1 2 (by omega)) (e2 102 (by omega) (by omega)) (e2 103 (by omega) (by omega)), LvF.mono fs n n a2 (Nat.le_refl _) (fun k _ => bF_c (e2 102 (by omega) (by omega)) (e2 103 (by omega) (by omega)) k) (fun j _ => ⟨by rw [e2 104 (by omega) (by omega)], by rw [e2 105 (by omega) (by omega)]⟩), by rw [e1 7 (by omega)]; exact a3, a4, a5, by rw [e1 6 (by omega)]; exact a6⟩
section F4
variable {sc : Scr}
theorem s_next {a r d lim : Nat} {σ : St} {H : Hts} (oa : oAt a) (or : oRo r) (hd : 4 ≤ d) (Wa : WfAt σ a) (Wr : WfRo σ r) (ha : 1 ≤ σ a 0) (hS : Sch (asC σ a) (rsC σ r) lim σ H) (hT : ∀ b ∈ asC σ a, ∀ w ∈ rsC σ r, fitT b w.2) :
    (H = [] ∧ ∃ τ, FnG σ τ ∧ RnA sc d 99 0 [some (vR 101), some (vR a), some (vR r), none] σ (some (vI 0)) τ) ∨
    (∃ pre β rest τ, H = (pre, β) :: rest ∧ FnG σ τ ∧ HitAt (asC σ a) (rsC σ r) lim pre β rest τ ∧ RnA sc d 99 0 [some (vR 101), some (vR a), some (vR r), none] σ (some (vI 1)) τ) := by
  obtain ⟨n, fs, T, hL, h7, hl, hr, hdep⟩ := hS
  have na : a ≠ 101 := by have := oAt_far oa; omega
  have wa := Wa.1
  have wr := Wr.1
  have la := asC_len (σ := σ) (r := a) wa.1
  have lr := rsC_len (σ := σ) (r := r) wr.1
  have hmu := LvF.len fs n hL (by omega) (by omega)
  rcases hdep with ⟨d1, d2⟩ | ⟨d1, d1b, d2⟩
  · have fl3 : fs.length ≤ 3 := by omega
    have hmu2 : muF fs ≤ 1000000 := by have := Nat.mul_le_mul_right 131281 fl3; omega
    have en : ∀ (u : Bool × Nat × Nat × Int) (Q : Rs → HS → Prop), Ex sc d 99 0 [some (vR 101), some (vR a), some (vR r), none] [] (wH σ u) Q ↔ Ex sc d 99 23 [some (vR 101), some (vR a), some (vR r), some (vI 0)] [] (wH σ u) Q := by
      intro u Q
      simp (disch := first | assumption | omega | exact notL_I | exact notL_N | exact notL_R | exact catS_le (Nat.le_of_ble_eq_true rfl) | exact ooRo (by assumption) | exact ooAt (by assumption) | exact ooRu (by assumption) | exact ooLo (by assumption) | exact ooHa (by assumption) | exact ooLe (by assumption) | exact ooFn | exact ooAn | exact ooPa | exact ooTo | exact ooWa | exact ooCh | rfl) only [x99_0, x99_1, x99_4, x99_5, x99_8, x99_11, x99_12, x99_13, x99_16, x99_17, x99_18, x99_21, x99_22, x99_24, x99_26, x99_29, x99_30, x99_33, x99_36, x99_37, x99_38, x99_41, x99_42, x99_45, x99_46, x99_49, x99_50, x99_53, x99_54, x99_57, x99_58, x99_59, x99_60, x99_61, x99_62, x99_63, x99_66, x99_67, x99_70, x99_71, x99_72, x99_75, x99_78, x99_79I, x99_79, x99_80, x99_83, x99_84, x99_85, x99_88, x99_91, x99_92, x99_93, x99_94, x99_97, x99_98, x99_99, x99_102, x99_103, x99_106, x99_107, x99_110, x99_113, x99_114I, x99_114, x99_115, x99_118, x99_119, x99_120, x99_123, x99_124, x99_127, x99_128, x99_131, x99_134, x99_135, x99_136, x99_137, x99_140, x99_141, x99_144, x99_145, x99_146, x99_147, x99_150, x99_151, x99_154, x99_155, x99_158, x99_159, x99_162, x99_165, x99_166, gFn_depth, gAt_count, if_pos, if_neg, ↓reduceIte, not_true_eq_false, not_false_eq_true]
    rcases l_next (sc := sc) (d := d) oa or hd 1000000 σ n fs 0 hmu2 (by omega) (by omega) Wa Wr T hL h7 hl d2 hT with ⟨z1, τ, z2, z3⟩ | ⟨pre, β, rest, τ, z1, z2, z3, z4⟩
    · exact Or.inl ⟨hr.symm.trans z1, τ, z2, fun u Q => (en u Q).trans (z3 u Q)⟩
    · exact Or.inr ⟨pre, β, rest, τ, hr.symm.trans z1, z2, z3, fun u Q => (en u Q).trans (z4 u Q)⟩
  · have fl3 : fs.length ≤ 3 := by omega
    have hmu2 : muF fs ≤ 1000000 := by have := Nat.mul_le_mul_right 131281 fl3; omega
    have F : FnG σ (su σ 101 6 (σ a 0 - 1)) := FnG.su6
    have en : ∀ (u : Bool × Nat × Nat × Int) (Q : Rs → HS → Prop), Ex sc d 99 0 [some (vR 101), some (vR a), some (vR r), none] [] (wH σ u) Q ↔ Ex sc d 99 23 [some (vR 101), some (vR a), some (vR r), some (vI 0)] [] (wH (su σ 101 6 (σ a 0 - 1)) u) Q := by
      intro u Q
      simp (disch := first | assumption | omega | exact notL_I | exact notL_N | exact notL_R | exact catS_le (Nat.le_of_ble_eq_true rfl) | exact ooRo (by assumption) | exact ooAt (by assumption) | exact ooRu (by assumption) | exact ooLo (by assumption) | exact ooHa (by assumption) | exact ooLe (by assumption) | exact ooFn | exact ooAn | exact ooPa | exact ooTo | exact ooWa | exact ooCh | rfl) only [x99_0, x99_1, x99_4, x99_5, x99_8, x99_11, x99_12, x99_13, x99_16, x99_17, x99_18, x99_21, x99_22, x99_24, x99_26, x99_29, x99_30, x99_33, x99_36, x99_37, x99_38, x99_41, x99_42, x99_45, x99_46, x99_49, x99_50, x99_53, x99_54, x99_57, x99_58, x99_59, x99_60, x99_61, x99_62, x99_63, x99_66, x99_67, x99_70, x99_71, x99_72, x99_75, x99_78, x99_79I, x99_79, x99_80, x99_83, x99_84, x99_85, x99_88, x99_91, x99_92, x99_93, x99_94, x99_97, x99_98, x99_99, x99_102, x99_103, x99_106, x99_107, x99_110, x99_113, x99_114I, x99_114, x99_115, x99_118, x99_119, x99_120, x99_123, x99_124, x99_127, x99_128, x99_131, x99_134, x99_135, x99_136, x99_137, x99_140, x99_141, x99_144, x99_145, x99_146, x99_147, x99_150, x99_151, x99_154, x99_155, x99_158, x99_159, x99_162, x99_165, x99_166, gFn_depth, gAt_count, pFn_depth, if_pos, if_neg, ↓reduceIte, not_true_eq_false, not_false_eq_true]
    have key := l_next (sc := sc) (d := d) oa or hd 1000000 (su σ 101 6 (σ a 0 - 1)) n fs 0 hmu2 (by omega) (by omega) (F.wa oa Wa) (F.wr or Wr) (T.c (su_off (by omega)) (su_ne (by omega)) (su_ne (by omega))) (by rw [F.as_ oa, F.rs or]; exact LvF.mono fs n n hL (Nat.le_refl _) (fun i _ => bF_c (su_ne (by omega)) (su_ne (by omega)) i) (fun j _ => ⟨by rw [su_ne (by omega)], by rw [su_ne (by omega)]⟩)) (by rw [su_off (by omega)]; exact h7) (by rw [F.rs or]; exact hl) (by rw [su_eq]; omega) (by rw [F.as_ oa, F.rs or]; exact hT)
    rw [F.as_ oa, F.rs or] at key
    rcases key with ⟨z1, τ, z2, z3⟩ | ⟨pre, β, rest, τ, z1, z2, z3, z4⟩
    · exact Or.inl ⟨hr.symm.trans z1, τ, F.trans z2, fun u Q => (en u Q).trans (z3 u Q)⟩
    · exact Or.inr ⟨pre, β, rest, τ, hr.symm.trans z1, F.trans z2, z3, fun u Q => (en u Q).trans (z4 u Q)⟩
/-- only the finder changes -/
def FnH (σ τ : St) : Prop := ∀ c, c < 101 ∨ 106 < c → τ c = σ c
theorem FnH.refl {σ : St} : FnH σ σ := fun _ _ => rfl
theorem FnH.trans {σ τ ρ : St} (h1 : FnH σ τ) (h2 : FnH τ ρ) : FnH σ ρ := fun c a => (h2 c a).trans (h1 c a)
theorem FnG.h {σ τ : St} (h : FnG σ τ) : FnH σ τ := fun c hc => h.1 c (by omega)
theorem FnF.h {σ τ : St} (h : FnF σ τ) : FnH σ τ := h.g.h
theorem FnH.at_ {σ τ : St} {a : Nat} (F : FnH σ τ) (o : oAt a) : τ a = σ a ∧ τ (a + 1) = σ (a + 1) ∧ τ (a + 2) = σ (a + 2) := by
  have h := oAt_far o
  exact ⟨F _ (by omega), F _ (by omega), F _ (by omega)⟩
theorem FnH.ro {σ τ : St} {r : Nat} (F : FnH σ τ) (o : oRo r) : ∀ c, r ≤ c → c ≤ r + 4 → τ c = σ c := by
  have h := oRo_far o
  exact fun c c0 c1 => F _ (by omega)
theorem FnH.as_ {σ τ : St} {a : Nat} (F : FnH σ τ) (o : oAt a) : asC τ a = asC σ a := asC_c (by rw [(F.at_ o).1]) (F.at_ o).2.1 (F.at_ o).2.2
theorem FnH.rs {σ τ : St} {r : Nat} (F : FnH σ τ) (o : oRo r) : rsC τ r = rsC σ r := rsC_c (fun c c0 c1 => F.ro o c c0 (by omega))
theorem FnH.wa {σ τ : St} {a : Nat} (F : FnH σ τ) (o : oAt a) (W : WfAt σ a) : WfAt τ a := W.c (by rw [(F.at_ o).1]) (F.at_ o).2.1 (F.at_ o).2.2
theorem FnH.wr {σ τ : St} {r : Nat} (F : FnH σ τ) (o : oRo r) (W : WfRo σ r) : WfRo τ r := W.c (F.ro o)
/-- the search begins -/
def bgS (σ : St) (r : Nat) : St := su (su (su (su (su (fl σ 102 0 26 (-1)) 101 2 0) 101 6 0) 104 0 (-1)) 105 0 0) 101 7 (σ r 0)
theorem s_begin {d r : Nat} {σ : St} (or : oRo r) (hd : 2 ≤ d) : RnA sc d 97 0 [some (vR 101), some (vR r)] σ none (bgS σ r) := by
  intro u Q
  have h := oRo_far or
  have n1 : r ≠ 101 := by omega
  have n2 : r ≠ 102 := by omega
  have n4 : r ≠ 104 := by omega
  have n5 : r ≠ 105 := by omega
  unfold bgS
  simp (disch := first | assumption | omega | exact notL_I | exact notL_N | exact notL_R | exact catS_le (Nat.le_of_ble_eq_true rfl) | exact ooRo (by assumption) | exact ooAt (by assumption) | exact ooRu (by assumption) | exact ooLo (by assumption) | exact ooHa (by assumption) | exact ooLe (by assumption) | exact ooFn | exact ooAn | exact ooPa | exact ooTo | exact ooWa | exact ooCh | rfl) only [x97_0, x97_1, x97_4, x97_5, x97_6, x97_9, x97_10, x97_13, x97_14, x97_15, x97_16, x97_17, x97_20, x97_21, x97_22, x97_23, x97_24, x97_25, x97_28, x97_31, s_unbind, Kc_none, pFn_depth, pFn_limit, gFn_chosen, gFn_mark, WFn_chosen, WFn_mark, gRo_count, su_ne, fl_ne]
theorem bgS_v {a r : Nat} {σ : St} (oa : oAt a) (or : oRo r) (Wa : WfAt σ a) (Wr : WfRo σ r) (ha : 1 ≤ σ a 0) : FnG σ (su (bgS σ r) 101 7 (σ 101 7)) ∧ FnH σ (bgS σ r) ∧ Sch (asC σ a) (rsC σ r) (rsC σ r).length (bgS σ r) (hitsL (rsC σ r) (asC σ a) bd0) := by
  have wa := Wa.1
  have wr := Wr.1
  have la := asC_len (σ := σ) (r := a) wa.1
  have lr := rsC_len (σ := σ) (r := r) wr.1
  obtain ⟨u1, u2, u3⟩ := unbind_v (σ := σ)
  have e2 : bgS σ r 102 = su (fl σ 102 0 26 (-1)) 101 2 0 102 := by unfold bgS; rw [su_ne (by omega), su_ne (by omega), su_ne (by omega), su_ne (by omega)]
  have e3 : bgS σ r 103 = su (fl σ 102 0 26 (-1)) 101 2 0 103 := by unfold bgS; rw [su_ne (by omega), su_ne (by omega), su_ne (by omega), su_ne (by omega)]
  have eT : bgS σ r 101 2 = su (fl σ 102 0 26 (-1)) 101 2 0 101 2 := by unfold bgS; rw [su_off (by omega), su_ne (by omega), su_ne (by omega), su_off (by omega)]
  have e6 : bgS σ r 101 6 = 0 := by unfold bgS; rw [su_off (by omega), su_ne (by omega), su_ne (by omega), su_eq]
  have e7 : bgS σ r 101 7 = σ r 0 := by unfold bgS; rw [su_eq]
  have e4 : bgS σ r 104 0 = -1 := by unfold bgS; rw [su_ne (by omega), su_ne (by omega), su_eq]
  have e5 : bgS σ r 105 0 = 0 := by unfold bgS; rw [su_ne (by omega), su_eq]
  have eo : ∀ c, c < 101 ∨ 105 < c → bgS σ r c = σ c := fun c hc => by unfold bgS; rw [su_ne (by omega), su_ne (by omega), su_ne (by omega), su_ne (by omega), su_ne (by omega), fl_ne (by omega)]
  have e1 : ∀ j, j ≠ 2 → j ≠ 6 → j ≠ 7 → bgS σ r 101 j = σ 101 j := fun j a b c => by unfold bgS; rw [su_off c, su_ne (by omega), su_ne (by omega), su_off b, su_off a, fl_ne (by omega)]
  refine ⟨⟨fun c hc => by rw [su_ne (by omega)]; exact eo c hc, fun j a b => ?_⟩, fun c hc => eo c (by omega), 0, [([], bd0, rsC σ r, asC σ a)], u2.c eT e2 e3, ?_, by rw [e7]; omega, Nat.le_refl _, ?_, Or.inl ⟨by rw [e6]; omega, by rw [e6]; rfl⟩⟩
  · by_cases h : j = 7
    · subst h
      rw [su_eq]
    · rw [su_off h]
      exact e1 j a b h
  · refine ⟨by rw [List.length_nil]; omega, rfl, rfl, by rw [List.length_nil]; show -1 ≤ bgS σ r 104 0; omega, by rw [List.length_nil]; show bgS σ r 104 0 ≤ 40; omega, ?_, fun j w hj => by simp at hj, 0, Nat.le_refl _, by rw [List.length_nil]; exact e5, bT_nil, trivial⟩
    show rsC σ r = ((rsC σ r).take (rsC σ r).length).drop (bgS σ r 104 0 + 1).toNat
    rw [e4, List.take_length]
    rfl
  · rw [List.take_length]
    cases hz : asC σ a with
    | nil =>
      rw [hz, List.length_nil] at la
      omega
    | cons b bs =>
      rw [remF, remF, List.append_nil, hitsL_cons]
      rw [show (fun z : List Rw × Bd => (([] : List Rw) ++ z.1, z.2)) = id from rfl, List.map_id]
theorem l_countC {a r d lim : Nat} (oa : oAt a) (or : oRo r) (hd : 5 ≤ d) : ∀ (H : Hts) (σ : St) (f n : Int), WfAt σ a → WfRo σ r → 1 ≤ σ a 0 → Sch (asC σ a) (rsC σ r) lim σ H → (∀ b ∈ asC σ a, ∀ w ∈ rsC σ r, fitT b w.2) → 0 ≤ n → n + H.length ≤ 64000 → ∃ τ, FnG σ τ ∧ ∀ (u : Bool × Nat × Nat × Int) (Q : Rs → HS → Prop), Ex sc d 133 10 [some (vR 101), some (vR a), some (vR r), some (vI f), some (vI n)] [] (wH σ u) Q ↔ Q (.inl (some (vI (f + H.length)))) (wH τ u) := by
  intro H
  induction H with
  | nil =>
    intro σ f n Wa Wr ha hS hT n0 nH
    rw [List.length_nil] at nH
    rcases s_next (sc := sc) (d := d - 1) oa or (by omega) Wa Wr ha hS hT with ⟨_, τ, z2, z3⟩ | ⟨pre, β, rest, τ, z1, _⟩
    · by_cases hn : n < 64000
      · refine ⟨τ, z2, fun u Q => ?_⟩
        rw [x133_10, List.length_nil, Int.natCast_zero, Int.add_zero]
        simp (disch := first | assumption | omega | exact notL_I | exact notL_N | exact notL_R | exact catS_le (Nat.le_of_ble_eq_true rfl) | exact ooRo (by assumption) | exact ooAt (by assumption) | exact ooRu (by assumption) | exact ooLo (by assumption) | exact ooHa (by assumption) | exact ooLe (by assumption) | exact ooFn | exact ooAn | exact ooPa | exact ooTo | exact ooWa | exact ooCh | rfl) only [x133_0, x133_1, x133_2, x133_5, x133_6, x133_7, x133_8, x133_12, x133_14, x133_17, x133_18, x133_19, x133_20, x133_23, x133_26, x133_29, x133_32, x133_35, x133_36, z3 u, Kc_some, if_pos, if_neg, ↓reduceIte, not_true_eq_false, not_false_eq_true]
      · refine ⟨σ, FnG.refl, fun u Q => ?_⟩
        rw [x133_10, List.length_nil, Int.natCast_zero, Int.add_zero]
        simp (disch := first | assumption | omega | exact notL_I | exact notL_N | exact notL_R | exact catS_le (Nat.le_of_ble_eq_true rfl) | exact ooRo (by assumption) | exact ooAt (by assumption) | exact ooRu (by assumption) | exact ooLo (by assumption) | exact ooHa (by assumption) | exact ooLe (by assumption) | exact ooFn | exact ooAn | exact ooPa | exact ooTo | exact ooWa | exact ooCh | rfl) only [x133_0, x133_1, x133_2, x133_5, x133_6, x133_7, x133_8, x133_12, x133_14, x133_17, x133_18, x133_19, x133_20, x133_23, x133_26, x133_29, x133_32, x133_35, x133_36, if_pos, if_neg, ↓reduceIte, not_true_eq_false, not_false_eq_true]
    · cases z1
  | cons z H ih =>
    intro σ f n Wa Wr ha hS hT n0 nH
    rw [List.length_cons] at nH
    have h7 : σ 101 7 = (lim : Int) := by obtain ⟨_, _, _, _, q, _⟩ := hS; exact q
    have hl : lim ≤ (rsC σ r).length := by obtain ⟨_, _, _, _, _, q, _⟩ := hS; exact q
    have wa := Wa.1
    have la := asC_len (σ := σ) (r := a) wa.1
    rcases s_next (sc := sc) (d := d - 1) oa or (by omega) Wa Wr ha hS hT with ⟨z1, _⟩ | ⟨pre, β, rest, τ, z1, z2, z3, z4⟩
    · cases z1
    · cases z1
      obtain ⟨ρ, q1, q2⟩ := ih τ (f + 1) (n + 1) (z2.wa oa Wa) (z2.wr or Wr) (by rw [(z2.at_ oa).1]; exact ha) (by rw [z2.as_ oa, z2.rs or]; exact z3.sch (by rw [z2.2 7 (by omega) (by omega)]; exact h7) hl (by omega)) (by rw [z2.as_ oa, z2.rs or]; exact hT) (by omega) (by omega)
      refine ⟨ρ, z2.trans q1, fun u Q => ?_⟩
      have q3 := q2 u Q
      rw [x133_10, List.length_cons]
      rw [show f + ((H.length + 1 : Nat) : Int) = f + 1 + (H.length : Int) by omega]
      simp (disch := first | assumption | omega | exact notL_I | exact notL_N | exact notL_R | exact catS_le (Nat.le_of_ble_eq_true rfl) | exact ooRo (by assumption) | exact ooAt (by assumption) | exact ooRu (by assumption) | exact ooLo (by assumption) | exact ooHa (by assumption) | exact ooLe (by assumption) | exact ooFn | exact ooAn | exact ooPa | exact ooTo | exact ooWa | exact ooCh | rfl) only [x133_0, x133_1, x133_2, x133_5, x133_6, x133_7, x133_8, x133_12, x133_14, x133_17, x133_18, x133_19, x133_20, x133_23, x133_26, x133_29, x133_32, x133_35, x133_36, z4 u, Kc_some, if_pos, if_neg, ↓reduceIte, not_true_eq_false, not_false_eq_true]
      exact q3
theorem s_countC {a r d : Nat} {σ : St} (oa : oAt a) (or : oRo r) (hd : 5 ≤ d) (Wa : WfAt σ a) (Wr : WfRo σ r) (ha : 1 ≤ σ a 0) (hT : ∀ b ∈ asC σ a, ∀ w ∈ rsC σ r, fitT b w.2) : ∃ τ, FnH σ τ ∧ RnA sc d 133 0 [some (vR 101), some (vR a), some (vR r), none, none] σ (some (vI ((hitsL (rsC σ r) (asC σ a) bd0).length))) τ := by
  have wa := Wa.1
  have wr := Wr.1
  have la := asC_len (σ := σ) (r := a) wa.1
  have lr := rsC_len (σ := σ) (r := r) wr.1
  obtain ⟨-, F, S⟩ := bgS_v oa or Wa Wr ha
  have hc : (hitsL (rsC σ r) (asC σ a) bd0).length ≤ 64000 := by
    have h1 := hits_len (R := rsC σ r) (asC σ a) bd0
    have h2 : (rsC σ r).length ^ (asC σ a).length ≤ 40 ^ (asC σ a).length := Nat.pow_le_pow_left (by omega) _
    have h3 : 40 ^ (asC σ a).length ≤ 40 ^ 3 := Nat.pow_le_pow_right (by omega) (by omega)
    have h4 : (40 : Nat) ^ 3 = 64000 := by decide
    omega
  obtain ⟨τ, q1, q2⟩ := l_countC (sc := sc) (d := d) oa or hd _ (bgS σ r) 0 0 (F.wa oa Wa) (F.wr or Wr) (by rw [(F.at_ oa).1]; exact ha) (by rw [F.as_ oa, F.rs or]; exact S) (by rw [F.as_ oa, F.rs or]; exact hT) (by omega) (by omega)
  refine ⟨τ, F.trans q1.h, fun u Q => ?_⟩
  have q3 := q2 u Q
  rw [Int.zero_add] at q3
  have bg := s_begin (sc := sc) (d := d - 1) (σ := σ) or (by omega)
  refine Iff.trans ?_ q3
  simp (disch := first | assumption | omega | exact notL_I | exact notL_N | exact notL_R | exact catS_le (Nat.le_of_ble_eq_true rfl) | exact ooRo (by assumption) | exact ooAt (by assumption) | exact ooRu (by assumption) | exact ooLo (by assumption) | exact ooHa (by assumption) | exact ooLe (by assumption) | exact ooFn | exact ooAn | exact ooPa | exact ooTo | exact ooWa | exact ooCh | rfl) only [x133_0, x133_1, x133_2, x133_5, x133_6, x133_7, x133_8, x133_12, x133_14, x133_17, x133_18, x133_19, x133_20, x133_23, x133_26, x133_29, x133_32, x133_35, x133_36, bg u, Kc_none]
theorem oRu_far {a : Nat} (o : oRu a) : a + 6 < 101 ∨ 106 < a := by
  have h1 := oAt_far o.ahead
  have h2 := oAt_far o.behind
  by_cases h : a = 100
  · subst h
    have h3 := congrArg (fun q => (q.1, q.2.1)) o.2.1
    exact absurd h3 (by decide)
  · by_cases h' : a + 6 < 101 ∨ 106 < a
    · exact h'
    · exfalso
      have h3 := congrArg (fun q => (q.1, q.2.1)) o.2.1
      rcases (show a = 95 ∨ a = 96 ∨ a = 97 ∨ a = 98 ∨ a = 99 ∨ a = 101 ∨ a = 102 ∨ a = 103 ∨ a = 104 ∨ a = 105 ∨ a = 106 by omega) with rfl | rfl | rfl | rfl | rfl | rfl | rfl | rfl | rfl | rfl | rfl <;> exact absurd h3 (by decide)
theorem s_isFulC {a r d n : Nat} {σ : St} (o : oRu a) (or : oRo r) (hd : 7 ≤ d) (Wu : WfRu σ a) (Wr : WfRo σ r) (T : TrF σ n) (hT : ∀ b ∈ asC σ (a + 4), ∀ w ∈ rsC σ r, fitT b w.2) :
    ∃ τ, FnF σ τ ∧ TrF τ n ∧ (∀ k, k ≤ n → bF τ k = bF σ k) ∧ RnA sc d 104 0 [some (vR 101), some (vR a), some (vR r)] σ (some (vI (bI (fulfL (ruC σ a) (rsC σ r) (bF σ n))))) τ := by
  obtain ⟨w0, w3, w4, wa, wb⟩ := Wu
  have ob := o.behind
  have wb0 := wb.1
  unfold fulfL ruC
  dsimp only
  by_cases e0 : σ a 0 = 0
  · rw [if_pos e0]
    obtain ⟨τ, h1, h2, h3, h4⟩ := s_canStand (sc := sc) ob or (σ (a + 4) 0).toNat (d - 1) 0 σ n wb Wr T (by omega) (by omega) (by omega) hT
    refine ⟨τ, h1, h2, h3, fun u Q => ?_⟩
    have h5 : ∀ Q, _ := h4 u
    show _ ↔ Q (.inl (some (vI (bI (standsL (rsC σ r) (asC σ (a + 4)) (bF σ n)))))) _
    cases hb : standsL (rsC σ r) (asC σ (a + 4)) (bF σ n) with
    | true =>
      have hb' : standsL (rsC σ r) (akF σ (a + 4) (σ (a + 4) 0).toNat 0) (bF σ n) = true := hb
      rw [hb', bI_t] at h5
      simp (disch := first | assumption | omega | exact notL_I | exact notL_N | exact notL_R | exact catS_le (Nat.le_of_ble_eq_true rfl) | exact ooRo (by assumption) | exact ooAt (by assumption) | exact ooRu (by assumption) | exact ooLo (by assumption) | exact ooHa (by assumption) | exact ooLe (by assumption) | exact ooFn | exact ooAn | exact ooPa | exact ooTo | exact ooWa | exact ooCh | rfl) only [x104_0, x104_1, x104_4, x104_7, x104_8, x104_9, x104_12, x104_13, x104_14, x104_17, x104_18, x104_19, x104_22, x104_23, x104_26, x104_27, x104_28, x104_31, x104_34, x104_35, x104_36, x104_39, x104_42, x104_45, x104_46, x104_49, x104_50, gRu_kind, gRu_behind, e0, h5, Kc_some, bI_t, if_pos, if_neg, ↓reduceIte, not_true_eq_false, not_false_eq_true]
    | false =>
      have hb' : standsL (rsC σ r) (akF σ (a + 4) (σ (a + 4) 0).toNat 0) (bF σ n) = false := hb
      rw [hb', bI_f] at h5
      simp (disch := first | assumption | omega | exact notL_I | exact notL_N | exact notL_R | exact catS_le (Nat.le_of_ble_eq_true rfl) | exact ooRo (by assumption) | exact ooAt (by assumption) | exact ooRu (by assumption) | exact ooLo (by assumption) | exact ooHa (by assumption) | exact ooLe (by assumption) | exact ooFn | exact ooAn | exact ooPa | exact ooTo | exact ooWa | exact ooCh | rfl) only [x104_0, x104_1, x104_4, x104_7, x104_8, x104_9, x104_12, x104_13, x104_14, x104_17, x104_18, x104_19, x104_22, x104_23, x104_26, x104_27, x104_28, x104_31, x104_34, x104_35, x104_36, x104_39, x104_42, x104_45, x104_46, x104_49, x104_50, gRu_kind, gRu_behind, e0, h5, Kc_some, bI_f, if_pos, if_neg, ↓reduceIte, not_true_eq_false, not_false_eq_true]
  · rw [if_neg e0]
    by_cases e1 : σ a 0 = 1
    · rw [if_pos e1, T.worth w3.1 w3.2, T.worth w4.1 w4.2]
      have i3 := T.worth_in w3.1 w3.2
      have i4 := T.worth_in w4.1 w4.2
      refine ⟨σ, FnF.refl, T, fun _ _ => rfl, fun u Q => ?_⟩
      by_cases e2 : worthB (σ 102) (σ a 3) = worthB (σ 102) (σ a 4)
      · rw [decide_eq_true e2, bI_t]
        simp (disch := first | assumption | omega | exact notL_I | exact notL_N | exact notL_R | exact catS_le (Nat.le_of_ble_eq_true rfl) | exact ooRo (by assumption) | exact ooAt (by assumption) | exact ooRu (by assumption) | exact ooLo (by assumption) | exact ooHa (by assumption) | exact ooLe (by assumption) | exact ooFn | exact ooAn | exact ooPa | exact ooTo | exact ooWa | exact ooCh | rfl) only [x104_0, x104_1, x104_4, x104_7, x104_8, x104_9, x104_12, x104_13, x104_14, x104_17, x104_18, x104_19, x104_22, x104_23, x104_26, x104_27, x104_28, x104_31, x104_34, x104_35, x104_36, x104_39, x104_42, x104_45, x104_46, x104_49, x104_50, gRu_kind, gRu_left, gRu_right, e1, s_termOf, Kc_some, if_pos, if_neg, ↓reduceIte, not_true_eq_false, not_false_eq_true]
      · rw [decide_eq_false e2, bI_f]
        simp (disch := first | assumption | omega | exact notL_I | exact notL_N | exact notL_R | exact catS_le (Nat.le_of_ble_eq_true rfl) | exact ooRo (by assumption) | exact ooAt (by assumption) | exact ooRu (by assumption) | exact ooLo (by assumption) | exact ooHa (by assumption) | exact ooLe (by assumption) | exact ooFn | exact ooAn | exact ooPa | exact ooTo | exact ooWa | exact ooCh | rfl) only [x104_0, x104_1, x104_4, x104_7, x104_8, x104_9, x104_12, x104_13, x104_14, x104_17, x104_18, x104_19, x104_22, x104_23, x104_26, x104_27, x104_28, x104_31, x104_34, x104_35, x104_36, x104_39, x104_42, x104_45, x104_46, x104_49, x104_50, gRu_kind, gRu_left, gRu_right, e1, s_termOf, Kc_some, if_pos, if_neg, ↓reduceIte, not_true_eq_false, not_false_eq_true]
    · rw [if_neg e1]
      refine ⟨σ, FnF.refl, T, fun _ _ => rfl, fun u Q => ?_⟩
      have e2 : σ a 0 = 2 := by omega
      simp (disch := first | assumption | omega | exact notL_I | exact notL_N | exact notL_R | exact catS_le (Nat.le_of_ble_eq_true rfl) | exact ooRo (by assumption) | exact ooAt (by assumption) | exact ooRu (by assumption) | exact ooLo (by assumption) | exact ooHa (by assumption) | exact ooLe (by assumption) | exact ooFn | exact ooAn | exact ooPa | exact ooTo | exact ooWa | exact ooCh | rfl) only [x104_0, x104_1, x104_4, x104_7, x104_8, x104_9, x104_12, x104_13, x104_14, x104_17, x104_18, x104_19, x104_22, x104_23, x104_26, x104_27, x104_28, x104_31, x104_34, x104_35, x104_36, x104_39, x104_42, x104_45, x104_46, x104_49, x104_50, gRu_kind, e2, bI_f, if_pos, if_neg, ↓reduceIte, not_true_eq_false, not_false_eq_true]
end F4
