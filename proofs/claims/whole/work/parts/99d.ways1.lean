/-! ways of the class -/
def rkC (σ : St) : Int → Int := fun i => if 0 ≤ i ∧ i < 78 then σ 118 i else 0
def WyC (σ : St) (s : Wy) : Prop := rkC σ = s.1 ∧ σ 117 1 = bI s.2.1 ∧ σ 117 2 = bI s.2.2
/-- ranks are from 0 up to a bound -/
def rkB (σ : St) (B : Int) : Prop := ∀ i, 0 ≤ i → i < 78 → 0 ≤ σ 118 i ∧ σ 118 i ≤ B
/-- only the ways change -/
def FwC (σ τ : St) : Prop := ∀ c, c ≠ 117 → c ≠ 118 → τ c = σ c
theorem FwC.refl {σ : St} : FwC σ σ := fun _ _ _ => rfl
theorem FwC.trans {σ τ ρ : St} (h1 : FwC σ τ) (h2 : FwC τ ρ) : FwC σ ρ := fun c a b => (h2 c a b).trans (h1 c a b)
theorem rkC_in {σ : St} {i : Int} (h0 : 0 ≤ i) (h1 : i < 78) : rkC σ i = σ 118 i := by unfold rkC; rw [if_pos ⟨h0, h1⟩]
section G1
variable {sc : Scr}
theorem s_rankOf {σ : St} {d : Nat} {u : Bool × Nat × Nat × Int} {Q : Rs → HS → Prop} {t c : Int} (t0 : 0 ≤ t) (t1 : t ≤ 25) (c0 : 0 ≤ c) (c1 : c ≤ 2) : Ex sc d 166 0 [some (vR 117), some (vI t), some (vI c)] [] (wH σ u) Q ↔ Q (.inl (some (vI (σ 118 (t * 3 + c))))) (wH σ u) := by
  simp (disch := first | assumption | omega | exact notL_I | exact notL_N | exact notL_R | exact catS_le (Nat.le_of_ble_eq_true rfl) | exact Nat.le_of_ble_eq_true rfl | exact ooRo (by assumption) | exact ooAt (by assumption) | exact ooRu (by assumption) | exact ooLo (by assumption) | exact ooHa (by assumption) | exact ooLe (by assumption) | exact ooFn | exact ooAn | exact ooPa | exact ooTo | exact ooWa | exact ooCh | rfl) only [x166_0, x166_1, x166_4, x166_5, x166_7, x166_10, x166_11, x166_14, x166_15, x166_16, x166_19, x166_20, x166_21, x166_22, x166_25, x166_26, x166_27, x166_28, x166_29, x166_30, x166_31, gWa_ranks, RWa_ranks, if_pos, if_neg, ↓reduceIte, not_true_eq_false, not_false_eq_true]
theorem s_raise {σ : St} {d : Nat} {t c v B : Int} {s : Wy} (hd : 1 ≤ d) (t0 : 0 ≤ t) (t1 : t ≤ 25) (c0 : 0 ≤ c) (c1 : c ≤ 2) (v0 : 0 ≤ v) (v1 : v ≤ B) (B1 : B ≤ 100000) (hb : rkB σ B) (H : WyC σ s) :
    ∃ τ, FwC σ τ ∧ rkB τ B ∧ WyC τ (raiF (3 * t + c) v s) ∧ RnA sc d 168 0 [some (vR 117), some (vI t), some (vI c), some (vI v)] σ none τ := by
  have e3 : t * 3 + c = 3 * t + c := by omega
  have bi := hb (3 * t + c) (by omega) (by omega)
  have rk := fun u Q => s_rankOf (sc := sc) (σ := σ) (d := d - 1) (u := u) (Q := Q) t0 t1 c0 c1
  rw [e3] at rk
  obtain ⟨h1, h2, h3⟩ := H
  have er : s.1 (3 * t + c) = σ 118 (3 * t + c) := by rw [← h1]; exact rkC_in (by omega) (by omega)
  unfold raiF
  rw [er]
  by_cases hv : v ≤ σ 118 (3 * t + c)
  · rw [if_pos hv]
    refine ⟨σ, FwC.refl, hb, ⟨h1, h2, h3⟩, fun u Q => ?_⟩
    simp (disch := first | assumption | omega | exact notL_I | exact notL_N | exact notL_R | exact catS_le (Nat.le_of_ble_eq_true rfl) | exact Nat.le_of_ble_eq_true rfl | exact ooRo (by assumption) | exact ooAt (by assumption) | exact ooRu (by assumption) | exact ooLo (by assumption) | exact ooHa (by assumption) | exact ooLe (by assumption) | exact ooFn | exact ooAn | exact ooPa | exact ooTo | exact ooWa | exact ooCh | rfl) only [x168_0, x168_1, x168_2, x168_3, x168_6, x168_7, x168_10, x168_11, x168_12, x168_13, x168_16, x168_17, x168_20, x168_21, x168_22, x168_25, x168_26, x168_27, x168_28, x168_29, x168_30, x168_31, x168_32, x168_33, x168_34, x168_37, x168_38, x168_40, x168_43, x168_44, x168_45, x168_48, rk, Kc_some, if_pos, if_neg, ↓reduceIte, not_true_eq_false, not_false_eq_true]
  · rw [if_neg hv]
    have kb : ∀ τ : St, (∀ i, τ 118 i = if i = 3 * t + c then v else σ 118 i) → rkC τ = bup s.1 (3 * t + c) v ∧ rkB τ B := by
      intro τ hτ
      constructor
      · funext i
        unfold rkC bup
        by_cases hi : i = 3 * t + c
        · subst hi
          rw [if_pos (by omega), if_pos rfl, hτ, if_pos rfl]
        · rw [if_neg hi, ← h1]
          unfold rkC
          rw [hτ, if_neg hi]
      · intro i i0 i1
        rw [hτ]
        split
        · omega
        · exact hb i i0 i1
    by_cases h18 : 18 ≤ v
    · refine ⟨su (su (su σ 118 (3 * t + c) v) 117 1 1) 117 2 1, fun c a b => by rw [su_ne a, su_ne a, su_ne b], (kb _ (fun i => by rw [su_ne (by omega), su_ne (by omega), su_at])).2, ⟨(kb _ (fun i => by rw [su_ne (by omega), su_ne (by omega), su_at])).1, by rw [su_off (by omega), su_eq]; rfl, by rw [su_eq]; dsimp only; rw [decide_eq_true h18, Bool.or_true]; rfl⟩, fun u Q => ?_⟩
      simp (disch := first | assumption | omega | exact notL_I | exact notL_N | exact notL_R | exact catS_le (Nat.le_of_ble_eq_true rfl) | exact Nat.le_of_ble_eq_true rfl | exact ooRo (by assumption) | exact ooAt (by assumption) | exact ooRu (by assumption) | exact ooLo (by assumption) | exact ooHa (by assumption) | exact ooLe (by assumption) | exact ooFn | exact ooAn | exact ooPa | exact ooTo | exact ooWa | exact ooCh | rfl) only [x168_0, x168_1, x168_2, x168_3, x168_6, x168_7, x168_10, x168_11, x168_12, x168_13, x168_16, x168_17, x168_20, x168_21, x168_22, x168_25, x168_26, x168_27, x168_28, x168_29, x168_30, x168_31, x168_32, x168_33, x168_34, x168_37, x168_38, x168_40, x168_43, x168_44, x168_45, x168_48, rk, gWa_ranks, WWa_ranks, pWa_raised, pWa_ringed, e3, Kc_some, if_pos, if_neg, ↓reduceIte, not_true_eq_false, not_false_eq_true]
    · refine ⟨su (su σ 118 (3 * t + c) v) 117 1 1, fun c a b => by rw [su_ne a, su_ne b], (kb _ (fun i => by rw [su_ne (by omega), su_at])).2, ⟨(kb _ (fun i => by rw [su_ne (by omega), su_at])).1, by rw [su_eq]; rfl, by rw [su_off (by omega), su_ne (by omega)]; dsimp only; rw [decide_eq_false h18, Bool.or_false]; exact h3⟩, fun u Q => ?_⟩
      simp (disch := first | assumption | omega | exact notL_I | exact notL_N | exact notL_R | exact catS_le (Nat.le_of_ble_eq_true rfl) | exact Nat.le_of_ble_eq_true rfl | exact ooRo (by assumption) | exact ooAt (by assumption) | exact ooRu (by assumption) | exact ooLo (by assumption) | exact ooHa (by assumption) | exact ooLe (by assumption) | exact ooFn | exact ooAn | exact ooPa | exact ooTo | exact ooWa | exact ooCh | rfl) only [x168_0, x168_1, x168_2, x168_3, x168_6, x168_7, x168_10, x168_11, x168_12, x168_13, x168_16, x168_17, x168_20, x168_21, x168_22, x168_25, x168_26, x168_27, x168_28, x168_29, x168_30, x168_31, x168_32, x168_33, x168_34, x168_37, x168_38, x168_40, x168_43, x168_44, x168_45, x168_48, rk, gWa_ranks, WWa_ranks, pWa_raised, e3, Kc_some, if_pos, if_neg, ↓reduceIte, not_true_eq_false, not_false_eq_true]
theorem s_isNewC {σ : St} {d a : Nat} {u : Bool × Nat × Nat × Int} {Q : Rs → HS → Prop} {p : Int} (hd : 1 ≤ d) (o : oRu a) (W : WfRu σ a) (hp : inR p) : Ex sc d 169 0 [some (vR a), some (vI p)] [] (wH σ u) Q ↔ Q (.inl (some (vI (if 2000 ≤ p ∧ mentL (asC σ (a + 1)) p = false then 1 else 0)))) (wH σ u) := by
  have oa := o.ahead
  have me := fun u Q => s_mentA (sc := sc) (σ := σ) (d := d - 1) (u := u) (Q := Q) (a := a + 1) (v := p) o.ahead hp W.2.2.2.1
  obtain ⟨p0, p1⟩ := hp
  by_cases h : 2000 ≤ p
  · cases hm : mentL (asC σ (a + 1)) p with
    | true =>
      rw [hm, bI_t] at me
      rw [if_neg (by simp)]
      simp (disch := first | assumption | omega | exact notL_I | exact notL_N | exact notL_R | exact catS_le (Nat.le_of_ble_eq_true rfl) | exact Nat.le_of_ble_eq_true rfl | exact ooRo (by assumption) | exact ooAt (by assumption) | exact ooRu (by assumption) | exact ooLo (by assumption) | exact ooHa (by assumption) | exact ooLe (by assumption) | exact ooFn | exact ooAn | exact ooPa | exact ooTo | exact ooWa | exact ooCh | rfl) only [x169_0, x169_1, x169_4, x169_7, x169_8, x169_11, x169_12, x169_15, x169_18, x169_19, x169_22, x169_23, gRu_ahead, me, Kc_some, if_pos, if_neg, ↓reduceIte, not_true_eq_false, not_false_eq_true]
    | false =>
      rw [hm, bI_f] at me
      rw [if_pos ⟨h, rfl⟩]
      simp (disch := first | assumption | omega | exact notL_I | exact notL_N | exact notL_R | exact catS_le (Nat.le_of_ble_eq_true rfl) | exact Nat.le_of_ble_eq_true rfl | exact ooRo (by assumption) | exact ooAt (by assumption) | exact ooRu (by assumption) | exact ooLo (by assumption) | exact ooHa (by assumption) | exact ooLe (by assumption) | exact ooFn | exact ooAn | exact ooPa | exact ooTo | exact ooWa | exact ooCh | rfl) only [x169_0, x169_1, x169_4, x169_7, x169_8, x169_11, x169_12, x169_15, x169_18, x169_19, x169_22, x169_23, gRu_ahead, me, Kc_some, if_pos, if_neg, ↓reduceIte, not_true_eq_false, not_false_eq_true]
  · rw [if_neg (fun z => h z.1)]
    simp (disch := first | assumption | omega | exact notL_I | exact notL_N | exact notL_R | exact catS_le (Nat.le_of_ble_eq_true rfl) | exact Nat.le_of_ble_eq_true rfl | exact ooRo (by assumption) | exact ooAt (by assumption) | exact ooRu (by assumption) | exact ooLo (by assumption) | exact ooHa (by assumption) | exact ooLe (by assumption) | exact ooFn | exact ooAn | exact ooPa | exact ooTo | exact ooWa | exact ooCh | rfl) only [x169_0, x169_1, x169_4, x169_7, x169_8, x169_11, x169_12, x169_15, x169_18, x169_19, x169_22, x169_23, if_pos, if_neg, ↓reduceIte, not_true_eq_false, not_false_eq_true]
/-- rules lie apart from the ways -/
theorem oRu_w {a : Nat} (o : oRu a) : a + 6 < 117 ∨ 118 < a := by
  have h := o.2.1
  by_cases c : a + 6 < 117 ∨ 118 < a
  · exact c
  · exfalso
    rcases (show a = 111 ∨ a = 112 ∨ a = 113 ∨ a = 114 ∨ a = 115 ∨ a = 116 ∨ a = 117 ∨ a = 118 by omega) with rfl | rfl | rfl | rfl | rfl | rfl | rfl | rfl <;> cases h
theorem FwC.ru {σ τ : St} {a : Nat} (F : FwC σ τ) (o : oRu a) : ∀ c, a ≤ c → c ≤ a + 6 → τ c = σ c := fun c c0 c1 => by
  have := oRu_w o
  exact F c (by omega) (by omega)
theorem pl_at {σ : St} {a : Nat} {i c : Int} (i0 : 0 ≤ i) (i1 : i < σ a 0) (c0 : 0 ≤ c) (c1 : c ≤ 2) : plN (atK σ a i) c.toNat = σ (a + 2) (i * 3 + c) := by
  unfold plN atK
  rcases (show c = 0 ∨ c = 1 ∨ c = 2 by omega) with rfl | rfl | rfl
  · rw [Int.add_zero]; rfl
  · rfl
  · rfl
/-- a way to a place -/
theorem l_fwC {a d : Nat} {v k B i : Int} {c : Int} {σ : St} {s : Wy} (hd : 2 ≤ d) (o : oRu a) (W : WfRu σ a) (i0 : 0 ≤ i) (i1 : i < σ (a + 4) 0) (c0 : 0 ≤ c) (c1 : c ≤ 2) (hv : inR v) (k0 : 0 ≤ k) (k1 : k + 1 ≤ B) (B1 : B ≤ 100000) (hb : rkB σ B) (H : WyC σ s) :
    ∃ τ, FwC σ τ ∧ rkB τ B ∧ WyC τ (fwC (ruC σ a) v k (atK σ (a + 4) i) s c.toNat) ∧ ∀ (u : Bool × Nat × Nat × Int) (Q : Rs → HS → Prop) (l6 : Option V), Ex sc d 167 18 [some (vR 117), some (vR a), some (vI v), some (vI k), some (vI i), some (vI c), l6] [] (wH σ u) Q ↔ Ex sc d 167 18 [some (vR 117), some (vR a), some (vI v), some (vI k), some (vI i), some (vI (c + 1)), some (vI (σ (a + 6) (i * 3 + c)))] [] (wH τ u) Q := by
  have ob := o.behind
  have w := W.2.2.2.2.1
  have wp := W.2.2.2.2.2.2 (i * 3 + c) (by omega) (by omega)
  have wt := W.2.2.2.2.2.1 i i0 (by omega)
  have pa := fun u Q => s_placeAt (sc := sc) (σ := σ) (d := d - 1) (u := u) (Q := Q) (a := a + 4) (p := i) (c := c) ob ⟨by omega, by omega⟩ ⟨by omega, by omega⟩ W.2.2.2.2
  have cc : 0 ≤ i ∧ i < σ (a + 4) 0 ∧ 0 ≤ c ∧ c < 3 := by omega
  simp only [if_pos cc] at pa
  have ep : plN (atK σ (a + 4) i) c.toNat = σ (a + 6) (i * 3 + c) := pl_at i0 i1 c0 c1
  have et : (atK σ (a + 4) i).1 = σ (a + 5) i := rfl
  have ec : ((c.toNat : Nat) : Int) = c := by omega
  have ea : (ruC σ a).2.1 = asC σ (a + 1) := rfl
  have a6 : a + 4 + 2 = a + 6 := rfl
  have a5 : a + 4 + 1 = a + 5 := rfl
  rw [a6] at pa wp
  rw [a5] at wt
  unfold fwC
  rw [ep, et, ec, ea]
  obtain ⟨v0, v1⟩ := hv
  have isn := fun u Q => s_isNewC (sc := sc) (σ := σ) (d := d - 1) (u := u) (Q := Q) (p := σ (a + 6) (i * 3 + c)) (by omega) o W ⟨by omega, by omega⟩
  by_cases h1 : σ (a + 6) (i * 3 + c) = v
  · rw [if_pos h1]
    obtain ⟨τ, y1, y2, y3, y4⟩ := s_raise (sc := sc) (σ := σ) (d := d - 1) (t := σ (a + 5) i) (c := c) (v := k) (B := B) (by omega) wt.1 wt.2 c0 c1 k0 (by omega) B1 hb H
    refine ⟨τ, y1, y2, y3, fun u Q l6 => ?_⟩
    rw [x167_18]
    simp (disch := first | assumption | omega | exact notL_I | exact notL_N | exact notL_R | exact catS_le (Nat.le_of_ble_eq_true rfl) | exact Nat.le_of_ble_eq_true rfl | exact ooRo (by assumption) | exact ooAt (by assumption) | exact ooRu (by assumption) | exact ooLo (by assumption) | exact ooHa (by assumption) | exact ooLe (by assumption) | exact ooFn | exact ooAn | exact ooPa | exact ooTo | exact ooWa | exact ooCh | rfl) only [x167_0, x167_1, x167_5, x167_6, x167_9, x167_12, x167_15, x167_16, x167_20, x167_21, x167_24, x167_25, x167_28, x167_30, x167_32, x167_35, x167_37, x167_39, x167_40, x167_43, x167_44, x167_45, x167_48, x167_51, x167_53, x167_54, x167_56, x167_57, x167_60, x167_63, x167_64, x167_66, x167_69, x167_72, x167_73, x167_74, x167_77, x167_80, x167_82, x167_83, x167_85, x167_86, x167_87, x167_88, x167_91, x167_94, x167_100, x167_103, gRu_behind, gAt_table ob, RAt_table ob, pa, y4 u, h1, a5, Kc_some, Kc_none, if_pos, if_neg, ↓reduceIte, not_true_eq_false, not_false_eq_true]
  · rw [if_neg h1]
    by_cases h2 : 2000 ≤ σ (a + 6) (i * 3 + c) ∧ mentL (asC σ (a + 1)) (σ (a + 6) (i * 3 + c)) = false
    · rw [if_pos h2]
      simp only [if_pos h2] at isn
      obtain ⟨τ, y1, y2, y3, y4⟩ := s_raise (sc := sc) (σ := σ) (d := d - 1) (t := σ (a + 5) i) (c := c) (v := k + 1) (B := B) (by omega) wt.1 wt.2 c0 c1 (by omega) k1 B1 hb H
      refine ⟨τ, y1, y2, y3, fun u Q l6 => ?_⟩
      rw [x167_18]
      simp (disch := first | assumption | omega | exact notL_I | exact notL_N | exact notL_R | exact catS_le (Nat.le_of_ble_eq_true rfl) | exact Nat.le_of_ble_eq_true rfl | exact ooRo (by assumption) | exact ooAt (by assumption) | exact ooRu (by assumption) | exact ooLo (by assumption) | exact ooHa (by assumption) | exact ooLe (by assumption) | exact ooFn | exact ooAn | exact ooPa | exact ooTo | exact ooWa | exact ooCh | rfl) only [x167_0, x167_1, x167_5, x167_6, x167_9, x167_12, x167_15, x167_16, x167_20, x167_21, x167_24, x167_25, x167_28, x167_30, x167_32, x167_35, x167_37, x167_39, x167_40, x167_43, x167_44, x167_45, x167_48, x167_51, x167_53, x167_54, x167_56, x167_57, x167_60, x167_63, x167_64, x167_66, x167_69, x167_72, x167_73, x167_74, x167_77, x167_80, x167_82, x167_83, x167_85, x167_86, x167_87, x167_88, x167_91, x167_94, x167_100, x167_103, gRu_behind, gAt_table ob, RAt_table ob, pa, isn, y4 u, a5, Kc_some, Kc_none, if_pos, if_neg, ↓reduceIte, not_true_eq_false, not_false_eq_true]
    · rw [if_neg h2]
      simp only [if_neg h2] at isn
      refine ⟨σ, FwC.refl, hb, H, fun u Q l6 => ?_⟩
      rw [x167_18]
      simp (disch := first | assumption | omega | exact notL_I | exact notL_N | exact notL_R | exact catS_le (Nat.le_of_ble_eq_true rfl) | exact Nat.le_of_ble_eq_true rfl | exact ooRo (by assumption) | exact ooAt (by assumption) | exact ooRu (by assumption) | exact ooLo (by assumption) | exact ooHa (by assumption) | exact ooLe (by assumption) | exact ooFn | exact ooAn | exact ooPa | exact ooTo | exact ooWa | exact ooCh | rfl) only [x167_0, x167_1, x167_5, x167_6, x167_9, x167_12, x167_15, x167_16, x167_20, x167_21, x167_24, x167_25, x167_28, x167_30, x167_32, x167_35, x167_37, x167_39, x167_40, x167_43, x167_44, x167_45, x167_48, x167_51, x167_53, x167_54, x167_56, x167_57, x167_60, x167_63, x167_64, x167_66, x167_69, x167_72, x167_73, x167_74, x167_77, x167_80, x167_82, x167_83, x167_85, x167_86, x167_87, x167_88, x167_91, x167_94, x167_100, x167_103, gRu_behind, pa, isn, Kc_some, Kc_none, if_pos, if_neg, ↓reduceIte, not_true_eq_false, not_false_eq_true]
end G1
