/-! questions to the reference: all hits -/
/-- what asking may change -/
def Fq (σ τ : St) : Prop := (∀ c, c ≠ 373 → c ≠ 389 → c ≠ 390 → c ≠ 392 → c ≠ 398 → τ c = σ c) ∧ ∀ j, j ≠ 30 → j ≠ 42 → τ 373 j = σ 373 j
theorem Fq.refl {σ : St} : Fq σ σ := ⟨fun _ _ _ _ _ _ => rfl, fun _ _ _ => rfl⟩
theorem Fq.trans {σ τ ρ : St} (h1 : Fq σ τ) (h2 : Fq τ ρ) : Fq σ ρ := ⟨fun c a b e f g => (h2.1 c a b e f g).trans (h1.1 c a b e f g), fun j a b => (h2.2 j a b).trans (h1.2 j a b)⟩
theorem AnI.c {A l : List Int} {τ τ' : St} (H : AnI A l τ) (e2 : τ' 373 42 = τ 373 42) (e3 : τ' 373 43 = τ 373 43) (e8 : τ' 398 = τ 398) (e9 : τ' 399 = τ 399) : AnI A l τ' := by
  unfold AnI
  rw [e2, e3, e8, e9]
  exact H
section P8
variable {sc : Scr}
theorem s_askH {σ : St} {A : List Int} {d : Nat} (W : WfM σ) (hc0 : atC σ 3 0 0 (σ 376 900)) (hb : cB (σ 389) = bd0) (hg : gdB (σ 389)) (hA : AnI A [] σ) (a1 : 1 ≤ A.length) (a3 : A.length ≤ 3) (h2 : σ 376 900 ≤ 2) (h40 : (rsR σ 3).length ≤ 40) (hok : ∀ w ∈ rsR σ 3, okW (coR σ 3) w) (hoA : ∀ a ∈ atsF σ 3 0 0 (σ 376 900).toNat 0, okA (coR σ 3) a) (hm : ∀ v ∈ A, mentL (atsF σ 3 0 0 (σ 376 900).toNat 0) (2000 + v) = true) (hd : 6 ≤ d) :
    ∃ τ, Fq σ τ ∧ AnI A (ansL A (hitsL (rsR σ 3) (atsF σ 3 0 0 (σ 376 900).toNat 0) bd0)) τ ∧ RnA sc d 228 0 [some (vR 373), some (vI 3), some (vI 0), some (vI 0), some (vI 2), none] σ none τ := by
  have wr := W.rul (h := 3) (r := 0) (by omega) (by omega) (by omega) (by omega)
  have e900 : (30 : Int) * (10 * 3 + 0) = 900 := by decide
  rw [e900] at wr
  have hH : (hitsL (rsR σ 3) (atsF σ 3 0 0 (σ 376 900).toNat 0) bd0).length ≤ 1600 := by
    have x1 := hits_len (R := rsR σ 3) (atsF σ 3 0 0 (σ 376 900).toNat 0) bd0
    have xl : (atsF σ 3 0 0 (σ 376 900).toNat 0).length = (σ 376 900).toNat := by
      have : ∀ (k : Nat) (i : Int), (atsF σ 3 0 0 k i).length = k := by
        intro k
        induction k with
        | zero => intro i; rfl
        | succ k ih => intro i; rw [atsF, List.length_cons, ih]
      exact this _ _
    have x2 : (rsR σ 3).length ^ (atsF σ 3 0 0 (σ 376 900).toNat 0).length ≤ 40 ^ (atsF σ 3 0 0 (σ 376 900).toNat 0).length := Nat.pow_le_pow_left h40 _
    have x3 : 40 ^ (atsF σ 3 0 0 (σ 376 900).toNat 0).length ≤ 40 ^ 2 := Nat.pow_le_pow_right (by omega) (by omega)
    have x4 : (40 : Nat) ^ 2 = 1600 := by decide
    omega
  obtain ⟨τ, ⟨t1, t2, -⟩, t3, t4⟩ := s_hits2 (sc := sc) (mode := 2) (h := 3) (r := 0) (by omega) (by omega) (by omega) (by omega) W hc0 (I := fun D τ => Fq σ τ ∧ AnI A (ansL A D) τ ∧ ∀ q ∈ D, q ∈ hitsL (rsR σ 3) (atsF σ 3 0 0 (σ 376 900).toNat 0) bd0) (fun D τ τ' hI hs => ⟨hI.1.trans ⟨fun c a b e f g => hs c b e f, fun j _ _ => by rw [hs 373 (by omega) (by omega) (by omega)]⟩, hI.2.1.c (by rw [hs 373 (by omega) (by omega) (by omega)]) (by rw [hs 373 (by omega) (by omega) (by omega)]) (hs 398 (by omega) (by omega) (by omega)) (hs 399 (by omega) (by omega) (by omega)), hI.2.2⟩) (dl := 3) (H := hitsL (rsR σ 3) (atsF σ 3 0 0 (σ 376 900).toNat 0) bd0)
    (by
      intro d τ D pre hd hI hD hg hp hpm hl hq
      have e0 : τ 376 (30 * (10 * 3)) = σ 376 (30 * (10 * 3)) := by rw [hD.1 376 (by omega) (by omega)]
      have wr2 : 0 ≤ σ 376 (30 * (10 * 3)) ∧ σ 376 (30 * (10 * 3)) ≤ 3 := by rw [show (30 : Int) * (10 * 3) = 900 by decide]; exact wr.1
      obtain ⟨I1, I2, I3⟩ := hI
      have bo := bindA_ok hok (atsF σ 3 0 0 (σ 376 900).toNat 0) bd0 _ hoA okB_0 hq
      have hD2 : ∀ q ∈ D ++ [(pre, cB (τ 389))], q ∈ hitsL (rsR σ 3) (atsF σ 3 0 0 (σ 376 900).toNat 0) bd0 := fun q hq' => (List.mem_append.mp hq').elim (I3 q) (fun z => by rw [List.mem_singleton.mp z]; exact hq)
      have l1 := ansL_le (ask := A) I3
      have l2 := ansL_le (ask := A) hD2
      rw [ansL_snoc] at l2
      have s9 : su τ 373 30 (τ 373 30 + 1) 389 = τ 389 := su_ne (by omega)
      obtain ⟨τ', g1, g2, g3, g4⟩ := s_answers (sc := sc) (d := d - 1) (A := A) (l := ansL A D) (τ := su τ 373 30 (τ 373 30 + 1)) (q := pre) (by omega) (I2.c (su_off (by omega)) (su_off (by omega)) (su_ne (by omega)) (su_ne (by omega))) a1 a3 (by omega) (by rw [s9]; omega) (by
        intro v hv
        rw [s9]
        have vr : 0 ≤ v ∧ v ≤ 25 := by
          obtain ⟨k, hk, ek⟩ := List.mem_iff_getElem.mp hv
          exact (I2.2.2.2.2.2 k v (by rw [List.getElem?_eq_getElem hk, ek])).2
        have b1 := bo.2.2 (2000 + v) (by omega) (hm v hv)
        rw [show 2000 + v - 2000 = v by omega] at b1
        have b2 := bo.1 v
        have b3 : cB (τ 389) v = τ 389 v := cB_in vr.1 vr.2
        dsimp only at b1 b2
        rw [b3] at b1 b2
        exact b2.resolve_left b1)
      rw [s9] at g3
      have F1 : Fq τ (su τ 373 30 (τ 373 30 + 1)) := ⟨fun c a _ _ _ _ => su_ne a, fun j a _ => su_off a⟩
      have F2 : Fq (su τ 373 30 (τ 373 30 + 1)) τ' := ⟨fun c a _ _ _ b => g1 c a b, fun j _ a => g2 j a⟩
      refine ⟨τ', ⟨(I1.trans F1).trans F2, ?_, hD2⟩, ?_, fun u Q => ?_⟩
      · rw [ansL_snoc]
        exact g3
      · refine ⟨⟨fun c a b => by rw [g1 c (by omega) (by omega), su_ne (by omega)], by rw [g2 14 (by omega), su_off (by omega)]⟩, by rw [g1 389 (by omega) (by omega), su_ne (by omega)], fun j _ => by rw [g1 392 (by omega) (by omega), su_ne (by omega)], fun j _ => by rw [g1 390 (by omega) (by omega), su_ne (by omega)]⟩
      · simp (disch := first | omega | exact notL_I | exact notL_N | exact notL_R | exact oM | exact catS_le (Nat.le_of_ble_eq_true rfl) | exact Nat.le_of_ble_eq_true rfl | rfl) only [x228_0, x228_1, x228_2, x228_3, x228_4, x228_5, x228_8, x228_11, x228_12I, x228_12, x228_13, x228_16, x228_17, x228_18, x228_21, x228_23, x228_24, x228_27, x228_28, x228_29, x228_30, x228_33, x228_35, x228_36, x228_39, x228_40, x228_43, x228_44, x228_45, x228_49, x228_50, x228_53, x228_54, x228_55, x228_58, x228_59, x228_60, x228_63, x228_64, x228_65, x228_66, x228_67, x228_68, x228_70, x228_73, x228_76, x228_77, x228_80, x228_81, x228_83, x228_84, x228_85, x228_86, x228_87, x228_88, x228_89, x228_90, x228_92, x228_95, x228_96, x228_97, x228_100, x228_103, x228_106, s_rule, Int.add_zero, e0, Kc_some, Kc_none, gM_hitMany, pM_hitMany, g4 u, if_pos, if_neg, ↓reduceIte, not_true_eq_false, not_false_eq_true])
    (σ 376 900).toNat d 0 σ [] []
    ⟨Fq.refl, hA, (fun q hq => by cases hq)⟩ Dt.rfl' hg (fun j w hj => by simp at hj) (fun w hw => by cases hw) rfl (by rw [e900]; omega) (by omega) (by omega) (fun q hq => by rw [hb] at hq; exact hq)
  rw [hb, map_nil9, List.nil_append] at t2
  exact ⟨τ, t1, t2, t4⟩
end P8
