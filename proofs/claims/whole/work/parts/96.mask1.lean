/-! questions to the reference: hits, answers -/
section P6
variable {sc : Scr}
set_option maxHeartbeats 2000000 in
theorem s_hits2 {h r mode : Int} (h1 : 0 ≤ h) (h2 : h ≤ 4) (r1 : 0 ≤ r) (r2 : r ≤ 9) {σ0 : St} (W0 : WfM σ0) (hc0 : atC σ0 h r 0 (σ0 376 (30 * (10 * h + r)))) {I : Hits → St → Prop} (hI : ∀ D τ τ', I D τ → Sc9 τ τ' → I D τ') {dl : Nat} {H : Hits}
    (leaf : ∀ (d : Nat) (τ : St) (D : Hits) (pre : List Rw), dl ≤ d → I D τ → Dt σ0 τ → gdB (τ 389) → hR τ pre → (∀ w ∈ pre, w ∈ rsR σ0 h) → (pre.length : Int) = σ0 376 (30 * (10 * h + r)) → (pre, cB (τ 389)) ∈ H → ∃ τ', I (D ++ [(pre, cB (τ 389))]) τ' ∧ Fh (σ0 376 (30 * (10 * h + r))) τ τ' ∧ RnA sc d 228 0 [some (vR 373), some (vI h), some (vI r), some (vI (σ0 376 (30 * (10 * h + r)))), some (vI mode), none] τ none τ') :
    ∀ (m d : Nat) (i : Int) (σ : St) (D : Hits) (pre : List Rw), I D σ → Dt σ0 σ → gdB (σ 389) → hR σ pre → (∀ w ∈ pre, w ∈ rsR σ0 h) → (pre.length : Int) = i → i + m = σ0 376 (30 * (10 * h + r)) → dl + m ≤ d → 3 + m ≤ d → (∀ q ∈ hitsL (rsR σ0 h) (atsF σ0 h r 0 m i) (cB (σ 389)), (pre ++ q.1, q.2) ∈ H) →
    ∃ τ, I (D ++ (hitsL (rsR σ0 h) (atsF σ0 h r 0 m i) (cB (σ 389))).map (fun q => (pre ++ q.1, q.2))) τ ∧ Fh i σ τ ∧ RnA sc d 228 0 [some (vR 373), some (vI h), some (vI r), some (vI i), some (vI mode), none] σ none τ := by
  have wr := W0.rul h1 h2 r1 r2
  have w1 := W0.nxt h1 h2
  intro m
  induction m with
  | zero =>
    intro d i σ D pre hD hDt hg hp hpm hl hi hd hd3 hH
    have ei : i = σ0 376 (30 * (10 * h + r)) := by omega
    subst ei
    obtain ⟨τ, t1, t2, t3⟩ := leaf d σ D pre (by omega) hD hDt hg hp hpm hl (by have := hH ([], cB (σ 389)) (by rw [atsF, hitsL]; exact List.mem_singleton.mpr rfl); rw [List.append_nil] at this; exact this)
    refine ⟨τ, ?_, t2, t3⟩
    rw [atsF, hitsL, List.map_cons, List.map_nil, List.append_nil]
    exact t1
  | succ m ih =>
    intro d i σ D pre hD hDt hg hp hpm hl hi hd hd3 hH
    have i0 : 0 ≤ i := by omega
    have loop : ∀ (k : Nat) (n : Int) (τ : St) (E : Hits), 0 ≤ n → n + k = σ0 381 h → I E τ → Fh i σ τ → ∃ ρ, I (E ++ ((rsF σ0 h k n).flatMap (fun w => match fitA (cB (σ 389)) (atR σ0 h r 0 i) w.2 with | none => [] | some β' => (hitsL (rsR σ0 h) (atsF σ0 h r 0 m (i + 1)) β').map fun q => (w :: q.1, q.2))).map (fun q => (pre ++ q.1, q.2))) ρ ∧ Fh i σ ρ ∧ RnA sc d 228 47 [some (vR 373), some (vI h), some (vI r), some (vI i), some (vI mode), some (vI n)] τ none ρ := by
      intro k
      induction k with
      | zero =>
        intro n τ E n0 nk hE hF
        have e1 : τ 381 h = σ0 381 h := by rw [(hDt.trans hF.1).1 381 (by omega) (by omega)]
        refine ⟨τ, ?_, hF, fun u Q => ?_⟩
        · rw [rsF, List.flatMap_nil, List.map_nil, List.append_nil]
          exact hE
        · rw [x228_47]
          simp (disch := first | omega | exact notL_I | exact notL_N | exact notL_R | exact oM | exact catS_le (Nat.le_of_ble_eq_true rfl) | rfl) only [x228_0, x228_1, x228_2, x228_3, x228_4, x228_5, x228_8, x228_11, x228_12I, x228_12, x228_13, x228_16, x228_17, x228_18, x228_21, x228_23, x228_24, x228_27, x228_28, x228_29, x228_30, x228_33, x228_35, x228_36, x228_39, x228_40, x228_43, x228_44, x228_45, x228_49, x228_50, x228_53, x228_54, x228_55, x228_58, x228_59, x228_60, x228_63, x228_64, x228_65, x228_66, x228_67, x228_68, x228_70, x228_73, x228_76, x228_77, x228_80, x228_81, x228_83, x228_84, x228_85, x228_86, x228_87, x228_88, x228_89, x228_90, x228_92, x228_95, x228_96, x228_97, x228_100, x228_103, x228_106, gM_nextRow, RM_nextRow, e1, if_pos, if_neg, ↓reduceIte, not_true_eq_false, not_false_eq_true]
      | succ k ihk =>
        intro n τ E n0 nk hE hF
        have Dτ0 := hDt.trans hF.1
        have e1 : τ 381 h = σ0 381 h := by rw [Dτ0.1 381 (by omega) (by omega)]
        have Dτ : Dt σ0 (scp τ 389 0 392 (26 * i) 26) := Dτ0.trans (Dt.dscp (by omega))
        have eb : (scp τ 389 0 392 (26 * i) 26) 389 = τ 389 := scp_ne (by omega)
        have gτ : gdB (τ 389) := gdB_c hF.2.1 hg
        obtain ⟨g', hg', hh⟩ := s_fits (sc := sc) (d := d - 1) (s := 0) (i := i) (n := n) (Dτ.wf W0) (by omega) h1 h2 r1 r2 (by omega) (by omega) i0 (by omega) n0 (by omega) (by rw [eb]; exact gτ) (atC_dt Dτ hc0 i i0 (by omega))
        rw [eb, hF.2.1, Dτ.at_, Dτ.rw_] at hh
        have e3 : (scp τ 389 0 392 (26 * i) 26) 377 = σ0 377 := Dτ.1 377 (by omega) (by omega)
        rw [e3] at hh
        have w3 := W0.thr (n := n) h1 h2 n0 (by omega)
        rcases hh with ⟨hth, β, hβ, hgβ, hrun⟩ | ⟨hno, hrun⟩
        · have Dg : Dt σ0 (su (stB (scp τ 389 0 392 (26 * i) 26) g') 390 i n) := (Dτ.trans Dt.dstB).trans (Dt.dsu (by omega))
          have esc : Sc9 τ (su (stB (scp τ 389 0 392 (26 * i) 26) g') 390 i n) := fun c a b e => by rw [su_ne b, stB_ne a, scp_ne e]
          have e9 : (su (stB (scp τ 389 0 392 (26 * i) 26) g') 390 i n) 389 = g' := by rw [su_ne (by omega), stB_at]
          have hp' : hR (su (stB (scp τ 389 0 392 (26 * i) 26) g') 390 i n) (pre ++ [rwR σ0 h n]) := by
            intro j w hj
            by_cases hjl : j < pre.length
            · rw [List.getElem?_append_left hjl] at hj
              rw [su_off (by omega), stB_ne (by omega), scp_ne (by omega), hF.2.2.2 j (by omega)]
              exact hp j w hj
            · rw [List.getElem?_append_right (by omega)] at hj
              have hj0 : j - pre.length < 1 := (List.getElem?_eq_some_iff.mp hj).1
              have hj1 : j = pre.length := by omega
              rw [hj1, Nat.sub_self] at hj
              cases hj
              rw [hj1, hl, su_eq]
              rfl
          have hmem : rwR σ0 h n ∈ rsR σ0 h := by
            have : ∀ (k : Nat) (a : Int), a ≤ n → n < a + k → rwR σ0 h n ∈ rsF σ0 h k a := by
              intro k
              induction k with
              | zero => intro a z1 z2; omega
              | succ k ihz =>
                intro a z1 z2
                rw [rsF]
                by_cases z3 : a = n
                · subst z3
                  rw [if_pos hth]
                  exact List.mem_cons_self
                · split
                  · exact List.mem_cons_of_mem _ (ihz (a + 1) (by omega) (by omega))
                  · exact ihz (a + 1) (by omega) (by omega)
            exact this _ 0 n0 (by omega)
          obtain ⟨σ2, hI2, hF2, hrun2⟩ := ih (d - 1) (i + 1) (su (stB (scp τ 389 0 392 (26 * i) 26) g') 390 i n) E (pre ++ [rwR σ0 h n]) (hI _ _ _ hE esc) Dg (by rw [e9]; exact hg') hp' (fun w hw => (List.mem_append.mp hw).elim (hpm w) (fun z => by rw [List.mem_singleton.mp z]; exact hmem)) (by rw [List.length_append, List.length_singleton]; omega) (by omega) (by omega) (by omega) (by
            intro q hq
            rw [e9, hgβ] at hq
            have hm2 : (rwR σ0 h n :: q.1, q.2) ∈ hitsL (rsR σ0 h) (atsF σ0 h r 0 (m + 1) i) (cB (σ 389)) := by
              rw [atsF, hitsL_cons, subL, List.mem_flatMap]
              refine ⟨rwR σ0 h n, hmem, ?_⟩
              rw [hβ]
              exact List.mem_map.mpr ⟨q, hq, rfl⟩
            have := hH _ hm2
            rw [List.append_assoc]
            exact this)
          rw [e9, hgβ] at hI2
          have hround : Fh i τ (scp σ2 392 (26 * i) 389 0 26) := by
            refine ⟨?_, ?_, fun j hj => ?_, fun j hj => ?_⟩
            · refine Dt.trans ?_ (Dt.dscp (by omega))
              refine Dt.trans ?_ hF2.1
              exact ((Dt.dscp (by omega)).trans Dt.dstB).trans (Dt.dsu (by omega))
            · funext v
              unfold cB
              by_cases hv : 0 ≤ v ∧ v ≤ 25
              · rw [if_pos hv, if_pos hv, scp_at, if_pos (by omega), hF2.2.2.1 _ (by omega), su_ne (by omega), stB_ne (by omega), scp_at, if_pos (by omega)]
                congr 1
                omega
              · rw [if_neg hv, if_neg hv]
            · rw [scp_ne (by omega), hF2.2.2.1 _ (by omega), su_ne (by omega), stB_ne (by omega), scp_at, if_neg (by omega)]
            · rw [scp_ne (by omega), hF2.2.2.2 _ (by omega), su_off (by omega), stB_ne (by omega), scp_ne (by omega)]
          have hF3 := hF.trans hround
          have esc2 : Sc9 σ2 (scp σ2 392 (26 * i) 389 0 26) := fun c a b e => scp_ne a
          obtain ⟨ρ, hρI, hρ, hrunρ⟩ := ihk (n + 1) _ _ (by omega) (by omega) (hI _ _ _ hI2 esc2) hF3
          refine ⟨ρ, ?_, hρ, fun u Q => ?_⟩
          · rw [rsF, if_pos hth, flatMap_cons9, List.map_append, hβ]
            dsimp only
            rw [← List.append_assoc]
            rw [List.map_map]
            have ef : ((fun q : List Rw × Bd => (pre ++ q.1, q.2)) ∘ fun q : List Rw × Bd => (rwR σ0 h n :: q.1, q.2)) = fun q : List Rw × Bd => (pre ++ [rwR σ0 h n] ++ q.1, q.2) := by
              funext q
              simp
            rw [ef]
            exact hρI
          · rw [x228_47]
            simp (disch := first | omega | exact notL_I | exact notL_N | exact notL_R | exact oM | exact catS_le (Nat.le_of_ble_eq_true rfl) | rfl) only [x228_0, x228_1, x228_2, x228_3, x228_4, x228_5, x228_8, x228_11, x228_12I, x228_12, x228_13, x228_16, x228_17, x228_18, x228_21, x228_23, x228_24, x228_27, x228_28, x228_29, x228_30, x228_33, x228_35, x228_36, x228_39, x228_40, x228_43, x228_44, x228_45, x228_49, x228_50, x228_53, x228_54, x228_55, x228_58, x228_59, x228_60, x228_63, x228_64, x228_65, x228_66, x228_67, x228_68, x228_70, x228_73, x228_76, x228_77, x228_80, x228_81, x228_83, x228_84, x228_85, x228_86, x228_87, x228_88, x228_89, x228_90, x228_92, x228_95, x228_96, x228_97, x228_100, x228_103, x228_106, gM_nextRow, RM_nextRow, e1, s_save, Kc_none, hrun u, gM_hitRow, WM_hitRow, hrun2 u, Kc_some, s_back, if_pos, if_neg, ↓reduceIte, not_true_eq_false, not_false_eq_true]
            exact hrunρ u Q
        · have hround : Fh i τ (scp (stB (scp τ 389 0 392 (26 * i) 26) g') 392 (26 * i) 389 0 26) := (Fb.round (p := i) (fun c a b => by rw [stB_ne a, scp_ne b]) (fun j hj => by rw [stB_ne (by omega)])).fh (by omega)
          have hF3 := hF.trans hround
          have esc : Sc9 τ (scp (stB (scp τ 389 0 392 (26 * i) 26) g') 392 (26 * i) 389 0 26) := fun c a b e => by rw [scp_ne a, stB_ne a, scp_ne e]
          obtain ⟨ρ, hρI, hρ, hrunρ⟩ := ihk (n + 1) _ _ (by omega) (by omega) (hI _ _ _ hE esc) hF3
          refine ⟨ρ, ?_, hρ, fun u Q => ?_⟩
          · rw [rsF]
            rcases hno with z | z
            · rw [if_neg (by omega)]
              exact hρI
            · split
              · rw [flatMap_cons9, z]
                exact hρI
              · exact hρI
          · rw [x228_47]
            simp (disch := first | omega | exact notL_I | exact notL_N | exact notL_R | exact oM | exact catS_le (Nat.le_of_ble_eq_true rfl) | rfl) only [x228_0, x228_1, x228_2, x228_3, x228_4, x228_5, x228_8, x228_11, x228_12I, x228_12, x228_13, x228_16, x228_17, x228_18, x228_21, x228_23, x228_24, x228_27, x228_28, x228_29, x228_30, x228_33, x228_35, x228_36, x228_39, x228_40, x228_43, x228_44, x228_45, x228_49, x228_50, x228_53, x228_54, x228_55, x228_58, x228_59, x228_60, x228_63, x228_64, x228_65, x228_66, x228_67, x228_68, x228_70, x228_73, x228_76, x228_77, x228_80, x228_81, x228_83, x228_84, x228_85, x228_86, x228_87, x228_88, x228_89, x228_90, x228_92, x228_95, x228_96, x228_97, x228_100, x228_103, x228_106, gM_nextRow, RM_nextRow, e1, s_save, Kc_none, hrun u, Kc_some, s_back, if_pos, if_neg, ↓reduceIte, not_true_eq_false, not_false_eq_true]
            exact hrunρ u Q
    obtain ⟨ρ, hρI, hρ, hrunρ⟩ := loop (σ0 381 h).toNat 0 σ D (by omega) (by omega) hD Fh.refl
    refine ⟨ρ, ?_, hρ, fun u Q => ?_⟩
    · rw [atsF, hitsL]
      exact hρI
    · refine Iff.trans ?_ (hrunρ u Q)
      have e5 : σ 376 = σ0 376 := hDt.1 376 (by omega) (by omega)
      simp (disch := first | omega | exact notL_I | exact notL_N | exact notL_R | exact oM | exact catS_le (Nat.le_of_ble_eq_true rfl) | rfl) only [x228_0, x228_1, x228_2, x228_3, x228_4, x228_5, x228_8, x228_11, x228_12I, x228_12, x228_13, x228_16, x228_17, x228_18, x228_21, x228_23, x228_24, x228_27, x228_28, x228_29, x228_30, x228_33, x228_35, x228_36, x228_39, x228_40, x228_43, x228_44, x228_45, x228_49, x228_50, x228_53, x228_54, x228_55, x228_58, x228_59, x228_60, x228_63, x228_64, x228_65, x228_66, x228_67, x228_68, x228_70, x228_73, x228_76, x228_77, x228_80, x228_81, x228_83, x228_84, x228_85, x228_86, x228_87, x228_88, x228_89, x228_90, x228_92, x228_95, x228_96, x228_97, x228_100, x228_103, x228_106, s_rule, Kc_some, e5, if_pos, if_neg, ↓reduceIte, not_true_eq_false, not_false_eq_true, Int.add_zero]
theorem s_compared {σ : St} {d : Nat} {u : Bool × Nat × Nat × Int} {Q : Rs → HS → Prop} {k x y z c : Int} (k0 : 0 ≤ k) (k1 : k ≤ 1600) (hc : 0 ≤ c ∧ c < 1000000) (f0 : σ 398 (3 * k) = c / 10000) (f1 : σ 398 (3 * k + 1) = c / 100 % 100) (f2 : σ 398 (3 * k + 2) = c % 100) (hx : vOk x) (hy : vOk y) (hz : vOk z) :
    Ex sc d 238 0 [some (vR 373), some (vI k), some (vI x), some (vI y), some (vI z)] [] (wH σ u) Q ↔ Q (.inl (some (vI (if c / 10000 = x then (if c / 100 % 100 = y then c % 100 - z else c / 100 % 100 - y) else c / 10000 - x)))) (wH σ u) := by
  unfold vOk at hx hy hz
  by_cases h0 : c / 10000 = x
  · by_cases h1 : c / 100 % 100 = y
    · rw [if_pos h0, if_pos h1]
      simp (disch := first | omega | exact notL_I | exact notL_N | exact notL_R | exact oM | exact catS_le (Nat.le_of_ble_eq_true rfl) | exact Nat.le_of_ble_eq_true rfl | rfl) only [x238_0, x238_1, x238_4, x238_5, x238_6, x238_7, x238_8, x238_9, x238_12, x238_13, x238_16, x238_17, x238_18, x238_19, x238_20, x238_21, x238_22, x238_23, x238_24, x238_27, x238_28, x238_29, x238_30, x238_31, x238_32, x238_33, x238_34, x238_37, x238_38, x238_41, x238_42, x238_43, x238_44, x238_45, x238_46, x238_47, x238_48, x238_49, x238_50, x238_51, x238_54, x238_55, x238_56, x238_57, x238_58, x238_59, x238_60, x238_62, x238_63, gM_found, RM_found, f0, f1, f2, if_pos, if_neg, ↓reduceIte, not_true_eq_false, not_false_eq_true]
    · rw [if_pos h0, if_neg h1]
      simp (disch := first | omega | exact notL_I | exact notL_N | exact notL_R | exact oM | exact catS_le (Nat.le_of_ble_eq_true rfl) | exact Nat.le_of_ble_eq_true rfl | rfl) only [x238_0, x238_1, x238_4, x238_5, x238_6, x238_7, x238_8, x238_9, x238_12, x238_13, x238_16, x238_17, x238_18, x238_19, x238_20, x238_21, x238_22, x238_23, x238_24, x238_27, x238_28, x238_29, x238_30, x238_31, x238_32, x238_33, x238_34, x238_37, x238_38, x238_41, x238_42, x238_43, x238_44, x238_45, x238_46, x238_47, x238_48, x238_49, x238_50, x238_51, x238_54, x238_55, x238_56, x238_57, x238_58, x238_59, x238_60, x238_62, x238_63, gM_found, RM_found, f0, f1, f2, if_pos, if_neg, ↓reduceIte, not_true_eq_false, not_false_eq_true]
  · rw [if_neg h0]
    simp (disch := first | omega | exact notL_I | exact notL_N | exact notL_R | exact oM | exact catS_le (Nat.le_of_ble_eq_true rfl) | exact Nat.le_of_ble_eq_true rfl | rfl) only [x238_0, x238_1, x238_4, x238_5, x238_6, x238_7, x238_8, x238_9, x238_12, x238_13, x238_16, x238_17, x238_18, x238_19, x238_20, x238_21, x238_22, x238_23, x238_24, x238_27, x238_28, x238_29, x238_30, x238_31, x238_32, x238_33, x238_34, x238_37, x238_38, x238_41, x238_42, x238_43, x238_44, x238_45, x238_46, x238_47, x238_48, x238_49, x238_50, x238_51, x238_54, x238_55, x238_56, x238_57, x238_58, x238_59, x238_60, x238_62, x238_63, gM_found, RM_found, f0, f1, f2, if_pos, if_neg, ↓reduceIte, not_true_eq_false, not_false_eq_true]
def cmpC (c x y z : Int) : Int := if c / 10000 = x then (if c / 100 % 100 = y then c % 100 - z else c / 100 % 100 - y) else c / 10000 - x
theorem cmpC_v {c x y z : Int} (hc : 0 ≤ c ∧ c < 1000000) (hx : vOk x) (hy : vOk y) (hz : vOk z) : (0 < cmpC c x y z ↔ (x * 100 + y) * 100 + z < c) ∧ (cmpC c x y z = 0 ↔ c = (x * 100 + y) * 100 + z) ∧ -100 ≤ cmpC c x y z ∧ cmpC c x y z ≤ 100 := by
  unfold vOk at *
  unfold cmpC
  split
  · split
    · omega
    · omega
  · omega
/-- what a question needs of the reference: asked letters, answers so far -/
def AnI (A : List Int) (l : List Int) (τ : St) : Prop := τ 373 42 = (l.length : Int) ∧ fnV (τ 398) l ∧ srtC l ∧ (∀ c ∈ l, 0 ≤ c ∧ c < 1000000) ∧ τ 373 43 = (A.length : Int) ∧ ∀ (k : Nat) (v : Int), A[k]? = some v → τ 399 k = v ∧ 0 ≤ v ∧ v ≤ 25
theorem AnI.at_ {A l : List Int} {τ : St} (H : AnI A l τ) {k : Nat} (hk : k < l.length) : ∃ c, l[k]? = some c ∧ (0 ≤ c ∧ c < 1000000) ∧ τ 398 (3 * k) = c / 10000 ∧ τ 398 (3 * k + 1) = c / 100 % 100 ∧ τ 398 (3 * k + 2) = c % 100 := by
  refine ⟨l[k], List.getElem?_eq_getElem hk, H.2.2.2.1 _ (List.getElem_mem hk), ?_⟩
  exact H.2.1 k _ (List.getElem?_eq_getElem hk)
theorem l_ansW {A l : List Int} {τ : St} {d : Nat} {u : Bool × Nat × Nat × Int} {Q : Rs → HS → Prop} {x y z : Int} (hd : 1 ≤ d) (H : AnI A l τ) (hl : l.length ≤ 1600) (hx : vOk x) (hy : vOk y) (hz : vOk z) {l5 l6 : Option V} : ∀ (k : Nat), k ≤ l.length → (∀ b ∈ l.drop k, (x * 100 + y) * 100 + z < b) →
    ∃ k', k' ≤ k ∧ (∀ b ∈ l.drop k', (x * 100 + y) * 100 + z < b) ∧ (k' = 0 ∨ ∃ c, l[k' - 1]? = some c ∧ c ≤ (x * 100 + y) * 100 + z) ∧ (Ex sc d 237 88 [some (vR 373), some (vI x), some (vI y), some (vI z), some (vI ((k : Int))), l5, l6] [] (wH τ u) Q ↔ Ex sc d 237 113 [some (vR 373), some (vI x), some (vI y), some (vI z), some (vI ((k' : Int))), l5, l6] [] (wH τ u) Q) := by
  intro k
  induction k with
  | zero =>
    intro hk hb
    refine ⟨0, Nat.le_refl _, hb, Or.inl rfl, ?_⟩
    rw [x237_88]
    simp (disch := first | omega | exact notL_I | exact notL_N | exact notL_R | exact oM | exact catS_le (Nat.le_of_ble_eq_true rfl) | exact Nat.le_of_ble_eq_true rfl | rfl) only [x237_0, x237_1, x237_4, x237_5, x237_8, x237_9, x237_10, x237_11, x237_12, x237_13, x237_16, x237_17, x237_20, x237_21, x237_24, x237_25, x237_28, x237_29, x237_30, x237_31, x237_34, x237_35, x237_36, x237_37, x237_40, x237_41, x237_44, x237_45, x237_48, x237_49, x237_52, x237_53, x237_54, x237_55, x237_58, x237_59, x237_60, x237_61, x237_64, x237_67, x237_68, x237_71, x237_74, x237_75, x237_78, x237_81, x237_82, x237_83, x237_86, x237_90, x237_93, x237_94, x237_96, x237_97, x237_98, x237_99, x237_100, x237_101, x237_104, x237_107, x237_110, x237_115, x237_118, x237_119, x237_121, x237_122, x237_123, x237_124, x237_125, x237_126, x237_129, x237_132, x237_133, x237_134, x237_137, x237_139, x237_141, x237_143, x237_146, x237_147, x237_149, x237_151, x237_152, x237_155, x237_156, x237_159, x237_160, x237_162, x237_163, x237_165, x237_166, x237_167, x237_170, x237_171, x237_173, x237_174, x237_175, x237_176, x237_178, x237_179, x237_180, x237_181, x237_184, x237_187, x237_190, x237_193, x237_194, x237_197, x237_198, x237_200, x237_201, x237_202, x237_203, x237_204, x237_207, x237_208, x237_210, x237_211, x237_212, x237_213, x237_214, x237_215, x237_216, x237_219, x237_220, x237_222, x237_223, x237_224, x237_225, x237_226, x237_227, x237_228I, x237_228, x237_229, x237_232, x237_233, x237_234, x237_237, Int.natCast_zero, if_pos, if_neg, ↓reduceIte, not_true_eq_false, not_false_eq_true]
  | succ k ih =>
    intro hk hb
    obtain ⟨c, c1, c2, c3, c4, c5⟩ := H.at_ (k := k) (by omega)
    have cv := cmpC_v c2 hx hy hz
    have cp := fun u Q => s_compared (sc := sc) (σ := τ) (d := d - 1) (u := u) (Q := Q) (k := (k : Int)) (by omega) (by omega) c2 c3 c4 c5 hx hy hz
    have ek : ((k + 1 : Nat) : Int) - 1 = (k : Int) := by omega
    have ek2 : ((k + 1 : Nat) : Int) + -1 = (k : Int) := by omega
    by_cases hlt : (x * 100 + y) * 100 + z < c
    · obtain ⟨k', a1, a2, a3, a4⟩ := ih (by omega) (by
        intro b hb'
        rw [List.drop_eq_getElem_cons (by omega : k < l.length)] at hb'
        rcases List.mem_cons.mp hb' with rfl | h
        · rw [List.getElem?_eq_getElem (by omega)] at c1
          rw [Option.some.inj c1]
          exact hlt
        · exact hb b h)
      refine ⟨k', by omega, a2, a3, ?_⟩
      have hp := cv.1.mpr hlt
      have hr := cv.2.2
      unfold cmpC at hp hr
      rw [x237_88]
      simp (disch := first | omega | exact notL_I | exact notL_N | exact notL_R | exact oM | exact catS_le (Nat.le_of_ble_eq_true rfl) | exact Nat.le_of_ble_eq_true rfl | rfl) only [x237_0, x237_1, x237_4, x237_5, x237_8, x237_9, x237_10, x237_11, x237_12, x237_13, x237_16, x237_17, x237_20, x237_21, x237_24, x237_25, x237_28, x237_29, x237_30, x237_31, x237_34, x237_35, x237_36, x237_37, x237_40, x237_41, x237_44, x237_45, x237_48, x237_49, x237_52, x237_53, x237_54, x237_55, x237_58, x237_59, x237_60, x237_61, x237_64, x237_67, x237_68, x237_71, x237_74, x237_75, x237_78, x237_81, x237_82, x237_83, x237_86, x237_90, x237_93, x237_94, x237_96, x237_97, x237_98, x237_99, x237_100, x237_101, x237_104, x237_107, x237_110, x237_115, x237_118, x237_119, x237_121, x237_122, x237_123, x237_124, x237_125, x237_126, x237_129, x237_132, x237_133, x237_134, x237_137, x237_139, x237_141, x237_143, x237_146, x237_147, x237_149, x237_151, x237_152, x237_155, x237_156, x237_159, x237_160, x237_162, x237_163, x237_165, x237_166, x237_167, x237_170, x237_171, x237_173, x237_174, x237_175, x237_176, x237_178, x237_179, x237_180, x237_181, x237_184, x237_187, x237_190, x237_193, x237_194, x237_197, x237_198, x237_200, x237_201, x237_202, x237_203, x237_204, x237_207, x237_208, x237_210, x237_211, x237_212, x237_213, x237_214, x237_215, x237_216, x237_219, x237_220, x237_222, x237_223, x237_224, x237_225, x237_226, x237_227, x237_228I, x237_228, x237_229, x237_232, x237_233, x237_234, x237_237, ek, ek2, cp, Kc_some, if_pos, if_neg, ↓reduceIte, not_true_eq_false, not_false_eq_true]
      exact a4
    · refine ⟨k + 1, Nat.le_refl _, hb, Or.inr ⟨c, by rw [Nat.add_sub_cancel]; exact c1, by omega⟩, ?_⟩
      have hp : ¬ 0 < cmpC c x y z := fun w => hlt (cv.1.mp w)
      have hr := cv.2.2
      unfold cmpC at hp hr
      rw [x237_88]
      simp (disch := first | omega | exact notL_I | exact notL_N | exact notL_R | exact oM | exact catS_le (Nat.le_of_ble_eq_true rfl) | exact Nat.le_of_ble_eq_true rfl | rfl) only [x237_0, x237_1, x237_4, x237_5, x237_8, x237_9, x237_10, x237_11, x237_12, x237_13, x237_16, x237_17, x237_20, x237_21, x237_24, x237_25, x237_28, x237_29, x237_30, x237_31, x237_34, x237_35, x237_36, x237_37, x237_40, x237_41, x237_44, x237_45, x237_48, x237_49, x237_52, x237_53, x237_54, x237_55, x237_58, x237_59, x237_60, x237_61, x237_64, x237_67, x237_68, x237_71, x237_74, x237_75, x237_78, x237_81, x237_82, x237_83, x237_86, x237_90, x237_93, x237_94, x237_96, x237_97, x237_98, x237_99, x237_100, x237_101, x237_104, x237_107, x237_110, x237_115, x237_118, x237_119, x237_121, x237_122, x237_123, x237_124, x237_125, x237_126, x237_129, x237_132, x237_133, x237_134, x237_137, x237_139, x237_141, x237_143, x237_146, x237_147, x237_149, x237_151, x237_152, x237_155, x237_156, x237_159, x237_160, x237_162, x237_163, x237_165, x237_166, x237_167, x237_170, x237_171, x237_173, x237_174, x237_175, x237_176, x237_178, x237_179, x237_180, x237_181, x237_184, x237_187, x237_190, x237_193, x237_194, x237_197, x237_198, x237_200, x237_201, x237_202, x237_203, x237_204, x237_207, x237_208, x237_210, x237_211, x237_212, x237_213, x237_214, x237_215, x237_216, x237_219, x237_220, x237_222, x237_223, x237_224, x237_225, x237_226, x237_227, x237_228I, x237_228, x237_229, x237_232, x237_233, x237_234, x237_237, ek, cp, Kc_some, if_pos, if_neg, ↓reduceIte, not_true_eq_false, not_false_eq_true]
def shS (σ : St) (a b : Int) : St := fun c => if c = 398 then (fun j => if a ≤ j ∧ j < b then σ 398 (j - 3) else σ 398 j) else σ c
theorem shS_ne {σ : St} {a b : Int} {c : Nat} (h : c ≠ 398) : shS σ a b c = σ c := by unfold shS; rw [if_neg h]
theorem shS_at {σ : St} {a b j : Int} : shS σ a b 398 j = if a ≤ j ∧ j < b then σ 398 (j - 3) else σ 398 j := by unfold shS; rw [if_pos rfl]
theorem shS_0 {σ : St} {a : Int} : shS σ a a = σ := by
  apply st_ext (a := 398)
  · intro c h
    exact shS_ne h
  · intro j
    rw [shS_at, if_neg (by omega)]
theorem shS_3 {σ : St} {a b : Int} (h : a + 3 ≤ b) : su (su (su (shS σ (a + 3) b) 398 a (σ 398 (a - 3))) 398 (a + 1) (σ 398 (a - 2))) 398 (a + 2) (σ 398 (a - 1)) = shS σ a b := by
  apply st_ext (a := 398)
  · intro c h
    rw [su_ne h, su_ne h, su_ne h, shS_ne h, shS_ne h]
  · intro j
    rw [shS_at]
    by_cases e2 : j = a + 2
    · subst e2
      rw [su_eq, if_pos (by omega)]
      congr 1
      omega
    · rw [su_off e2]
      by_cases e1 : j = a + 1
      · subst e1
        rw [su_eq, if_pos (by omega)]
        congr 1
        omega
      · rw [su_off e1]
        by_cases e0 : j = a
        · subst e0
          rw [su_eq, if_pos (by omega)]
        · rw [su_off e0, shS_at]
          by_cases c : a ≤ j ∧ j < b
          · rw [if_pos c, if_pos (by omega)]
          · rw [if_neg c, if_neg (by omega)]
theorem l_ansS {σ : St} {d : Nat} {u : Bool × Nat × Nat × Int} {Q : Rs → HS → Prop} {x y z : Int} {k N : Int} (k0 : 0 ≤ k) (hN : N ≤ 1600) : ∀ (m : Nat) (i : Int) (l6 : Option V), i = k + m → i ≤ N → ∃ l6', (Ex sc d 237 139 [some (vR 373), some (vI x), some (vI y), some (vI z), some (vI k), some (vI i), l6] [] (wH (shS σ (3 * i + 3) (3 * N + 3)) u) Q ↔ Ex sc d 237 193 [some (vR 373), some (vI x), some (vI y), some (vI z), some (vI k), some (vI k), l6'] [] (wH (shS σ (3 * k + 3) (3 * N + 3)) u) Q) := by
  intro m
  induction m with
  | zero =>
    intro i l6 hi hiN
    obtain rfl : i = k := by omega
    refine ⟨l6, ?_⟩
    rw [x237_139]
    simp (disch := first | omega | exact notL_I | exact notL_N | exact notL_R | exact oM | exact catS_le (Nat.le_of_ble_eq_true rfl) | exact Nat.le_of_ble_eq_true rfl | rfl) only [x237_0, x237_1, x237_4, x237_5, x237_8, x237_9, x237_10, x237_11, x237_12, x237_13, x237_16, x237_17, x237_20, x237_21, x237_24, x237_25, x237_28, x237_29, x237_30, x237_31, x237_34, x237_35, x237_36, x237_37, x237_40, x237_41, x237_44, x237_45, x237_48, x237_49, x237_52, x237_53, x237_54, x237_55, x237_58, x237_59, x237_60, x237_61, x237_64, x237_67, x237_68, x237_71, x237_74, x237_75, x237_78, x237_81, x237_82, x237_83, x237_86, x237_88, x237_90, x237_93, x237_94, x237_96, x237_97, x237_98, x237_99, x237_100, x237_101, x237_104, x237_107, x237_110, x237_113, x237_115, x237_118, x237_119, x237_121, x237_122, x237_123, x237_124, x237_125, x237_126, x237_129, x237_132, x237_133, x237_134, x237_137, x237_141, x237_143, x237_146, x237_147, x237_149, x237_151, x237_152, x237_155, x237_156, x237_159, x237_160, x237_162, x237_163, x237_165, x237_166, x237_167, x237_170, x237_171, x237_173, x237_174, x237_175, x237_176, x237_178, x237_179, x237_180, x237_181, x237_184, x237_187, x237_190, x237_194, x237_197, x237_198, x237_200, x237_201, x237_202, x237_203, x237_204, x237_207, x237_208, x237_210, x237_211, x237_212, x237_213, x237_214, x237_215, x237_216, x237_219, x237_220, x237_222, x237_223, x237_224, x237_225, x237_226, x237_227, x237_228I, x237_228, x237_229, x237_232, x237_233, x237_234, x237_237, if_pos, if_neg, ↓reduceIte, not_true_eq_false, not_false_eq_true]
  | succ m ih =>
    intro i l6 hi hiN
    obtain ⟨l6', h⟩ := ih (i - 1) (some (vI 3)) (by omega) (by omega)
    refine ⟨l6', ?_⟩
    have e1 := shS_3 (σ := σ) (a := 3 * i) (b := 3 * N + 3) (by omega)
    have r0 : shS σ (3 * i + 3) (3 * N + 3) 398 (3 * i - 3 + 0) = σ 398 (3 * i - 3) := by rw [shS_at, if_neg (by omega), Int.add_zero]
    have r1 : su (shS σ (3 * i + 3) (3 * N + 3)) 398 (3 * i + 0) (σ 398 (3 * i - 3)) 398 (3 * i - 3 + (0 + 1)) = σ 398 (3 * i - 2) := by
      rw [su_off (by omega), shS_at, if_neg (by omega)]
      congr 1
      omega
    have r2 : su (su (shS σ (3 * i + 3) (3 * N + 3)) 398 (3 * i + 0) (σ 398 (3 * i - 3))) 398 (3 * i + (0 + 1)) (σ 398 (3 * i - 2)) 398 (3 * i - 3 + (0 + 1 + 1)) = σ 398 (3 * i - 1) := by
      rw [su_off (by omega), su_off (by omega), shS_at, if_neg (by omega)]
      congr 1
      omega
    have e2 : su (su (su (shS σ (3 * i + 3) (3 * N + 3)) 398 (3 * i + 0) (σ 398 (3 * i - 3))) 398 (3 * i + (0 + 1)) (σ 398 (3 * i - 2))) 398 (3 * i + (0 + 1 + 1)) (σ 398 (3 * i - 1)) = shS σ (3 * (i - 1) + 3) (3 * N + 3) := by
      rw [show (0 : Int) + 1 + 1 = 2 by decide, show (0 : Int) + 1 = 1 by decide, Int.add_zero, e1, show 3 * (i - 1) + 3 = 3 * i by omega]
    have e3 : i + -1 = i - 1 := by omega
    rw [x237_139]
    simp (disch := first | omega | exact notL_I | exact notL_N | exact notL_R | exact oM | exact catS_le (Nat.le_of_ble_eq_true rfl) | exact Nat.le_of_ble_eq_true rfl | rfl) only [x237_0, x237_1, x237_4, x237_5, x237_8, x237_9, x237_10, x237_11, x237_12, x237_13, x237_16, x237_17, x237_20, x237_21, x237_24, x237_25, x237_28, x237_29, x237_30, x237_31, x237_34, x237_35, x237_36, x237_37, x237_40, x237_41, x237_44, x237_45, x237_48, x237_49, x237_52, x237_53, x237_54, x237_55, x237_58, x237_59, x237_60, x237_61, x237_64, x237_67, x237_68, x237_71, x237_74, x237_75, x237_78, x237_81, x237_82, x237_83, x237_86, x237_88, x237_90, x237_93, x237_94, x237_96, x237_97, x237_98, x237_99, x237_100, x237_101, x237_104, x237_107, x237_110, x237_113, x237_115, x237_118, x237_119, x237_121, x237_122, x237_123, x237_124, x237_125, x237_126, x237_129, x237_132, x237_133, x237_134, x237_137, x237_141, x237_143, x237_146, x237_147, x237_149, x237_151, x237_152, x237_155, x237_156, x237_159, x237_160, x237_162, x237_163, x237_165, x237_166, x237_167, x237_170, x237_171, x237_173, x237_174, x237_175, x237_176, x237_178, x237_179, x237_180, x237_181, x237_184, x237_187, x237_190, x237_194, x237_197, x237_198, x237_200, x237_201, x237_202, x237_203, x237_204, x237_207, x237_208, x237_210, x237_211, x237_212, x237_213, x237_214, x237_215, x237_216, x237_219, x237_220, x237_222, x237_223, x237_224, x237_225, x237_226, x237_227, x237_228I, x237_228, x237_229, x237_232, x237_233, x237_234, x237_237, gM_found, RM_found, WM_found, r0, r1, r2, e2, e3, if_pos, if_neg, ↓reduceIte, not_true_eq_false, not_false_eq_true]
    rw [← h]
    exact Iff.rfl
end P6
