/-! isFulfilled(), hits() of the reference -/
theorem worthB_c {f : Int → Int} {p : Int} (hp : isPl p) : worthB (cB f) p = worthB f p := by
  have w := isPl_in hp
  unfold worthB
  by_cases h : 2000 ≤ p
  · rw [if_pos h, if_pos h, cB_in (by omega) (by omega)]
  · rw [if_neg h, if_neg h]
theorem worthB_gd {f : Int → Int} {p : Int} (hp : isPl p) (hg : gdB f) : -1 ≤ worthB f p ∧ worthB f p ≤ 1099 := by
  have w := isPl_in hp
  unfold worthB
  by_cases h : 2000 ≤ p
  · rw [if_pos h]
    exact hg _ (by omega) (by omega)
  · rw [if_neg h]
    unfold isPl at hp
    omega
section R5
variable {sc : Scr}
theorem s_isFul {h r : Int} (h1 : 0 ≤ h) (h2 : h ≤ 4) (r1 : 0 ≤ r) (r2 : r ≤ 9) {d : Nat} {σ : St} (W : WfM σ) (hg : gdB (σ 389)) (hc : atC σ h r 1 (σ 376 (30 * (10 * h + r) + 2))) (hd : 7 ≤ d) :
    ∃ τ, Fb (26 * 4) σ τ ∧ RnA sc d 231 0 [some (vR 373), some (vI h), some (vI r), none] σ (some (vI (bI (fulfL (ruR σ h r) (rsR σ h) (cB (σ 389)))))) τ := by
  obtain ⟨-, k1, k2, k3, k4⟩ := W.rul h1 h2 r1 r2
  have w3 := isPl_in k3
  have w4 := isPl_in k4
  have v3 := worthB_gd k3 hg
  have v4 := worthB_gd k4 hg
  unfold fulfL ruR
  dsimp only
  by_cases e0 : σ 376 (30 * (10 * h + r) + 1) = 0
  · rw [if_pos e0]
    obtain ⟨τ, hF, hrun⟩ := s_behind (sc := sc) h1 h2 r1 r2 (σ 376 (30 * (10 * h + r) + 2)).toNat (d - 1) 0 σ W hg hc (by omega) (by omega) (by omega)
    refine ⟨τ, hF, fun u Q => ?_⟩
    cases hb : standsL (rsR σ h) (atsF σ h r 1 (σ 376 (30 * (10 * h + r) + 2)).toNat 0) (cB (σ 389)) with
    | true =>
      rw [hb, bI_t] at hrun
      simp (disch := first | omega | exact notL_I | exact notL_N | exact notL_R | exact oM | exact catS_le (Nat.le_of_ble_eq_true rfl) | rfl) only [x231_0, x231_1, x231_2, x231_3, x231_4, x231_7, x231_8, x231_9, x231_10, x231_13, x231_14, x231_15, x231_16, x231_17, x231_20, x231_21, x231_22, x231_23, x231_24, x231_26, x231_29, x231_32, x231_33, x231_34, x231_35, x231_36, x231_38, x231_41, x231_44, x231_47, x231_48, x231_51, x231_52, x231_53, x231_54, x231_55, x231_56, x231_57, x231_60, s_rule, Kc_some, e0, if_pos, if_neg, ↓reduceIte, not_true_eq_false, not_false_eq_true, hrun u, bI_t]
    | false =>
      rw [hb, bI_f] at hrun
      simp (disch := first | omega | exact notL_I | exact notL_N | exact notL_R | exact oM | exact catS_le (Nat.le_of_ble_eq_true rfl) | rfl) only [x231_0, x231_1, x231_2, x231_3, x231_4, x231_7, x231_8, x231_9, x231_10, x231_13, x231_14, x231_15, x231_16, x231_17, x231_20, x231_21, x231_22, x231_23, x231_24, x231_26, x231_29, x231_32, x231_33, x231_34, x231_35, x231_36, x231_38, x231_41, x231_44, x231_47, x231_48, x231_51, x231_52, x231_53, x231_54, x231_55, x231_56, x231_57, x231_60, s_rule, Kc_some, e0, if_pos, if_neg, ↓reduceIte, not_true_eq_false, not_false_eq_true, hrun u, bI_f]
  · rw [if_neg e0]
    by_cases e1 : σ 376 (30 * (10 * h + r) + 1) = 1
    · rw [if_pos e1, if_pos e1, if_pos e1, worthB_c k3, worthB_c k4]
      refine ⟨σ, Fb.refl, fun u Q => ?_⟩
      by_cases e2 : worthB (σ 389) (σ 376 (30 * (10 * h + r) + 27)) = worthB (σ 389) (σ 376 (30 * (10 * h + r) + 28))
      · rw [decide_eq_true e2, bI_t]
        simp (disch := first | omega | exact notL_I | exact notL_N | exact notL_R | exact oM | exact catS_le (Nat.le_of_ble_eq_true rfl) | rfl) only [x231_0, x231_1, x231_2, x231_3, x231_4, x231_7, x231_8, x231_9, x231_10, x231_13, x231_14, x231_15, x231_16, x231_17, x231_20, x231_21, x231_22, x231_23, x231_24, x231_26, x231_29, x231_32, x231_33, x231_34, x231_35, x231_36, x231_38, x231_41, x231_44, x231_47, x231_48, x231_51, x231_52, x231_53, x231_54, x231_55, x231_56, x231_57, x231_60, s_rule, s_worth, Kc_some, e1, if_pos, if_neg, ↓reduceIte, not_true_eq_false, not_false_eq_true]
      · rw [decide_eq_false e2, bI_f]
        simp (disch := first | omega | exact notL_I | exact notL_N | exact notL_R | exact oM | exact catS_le (Nat.le_of_ble_eq_true rfl) | rfl) only [x231_0, x231_1, x231_2, x231_3, x231_4, x231_7, x231_8, x231_9, x231_10, x231_13, x231_14, x231_15, x231_16, x231_17, x231_20, x231_21, x231_22, x231_23, x231_24, x231_26, x231_29, x231_32, x231_33, x231_34, x231_35, x231_36, x231_38, x231_41, x231_44, x231_47, x231_48, x231_51, x231_52, x231_53, x231_54, x231_55, x231_56, x231_57, x231_60, s_rule, s_worth, Kc_some, e1, if_pos, if_neg, ↓reduceIte, not_true_eq_false, not_false_eq_true]
    · rw [if_neg e1]
      refine ⟨σ, Fb.refl, fun u Q => ?_⟩
      have e2 : σ 376 (30 * (10 * h + r) + 1) = 2 := by omega
      simp (disch := first | omega | exact notL_I | exact notL_N | exact notL_R | exact oM | exact catS_le (Nat.le_of_ble_eq_true rfl) | rfl) only [x231_0, x231_1, x231_2, x231_3, x231_4, x231_7, x231_8, x231_9, x231_10, x231_13, x231_14, x231_15, x231_16, x231_17, x231_20, x231_21, x231_22, x231_23, x231_24, x231_26, x231_29, x231_32, x231_33, x231_34, x231_35, x231_36, x231_38, x231_41, x231_44, x231_47, x231_48, x231_51, x231_52, x231_53, x231_54, x231_55, x231_56, x231_57, x231_60, s_rule, Kc_some, e2, if_pos, if_neg, ↓reduceIte, not_true_eq_false, not_false_eq_true, bI_f]
/-- what hits leave: halls, bindings, what was saved and chosen ahead -/
def Fh (i : Int) (σ τ : St) : Prop := Dt σ τ ∧ cB (τ 389) = cB (σ 389) ∧ (∀ j, j < 26 * i → τ 392 j = σ 392 j) ∧ ∀ j, j < i → τ 390 j = σ 390 j
theorem Fh.refl {i : Int} {σ : St} : Fh i σ σ := ⟨Dt.rfl', rfl, fun _ _ => rfl, fun _ _ => rfl⟩
theorem Fh.trans {i : Int} {σ τ ρ : St} (h1 : Fh i σ τ) (h2 : Fh i τ ρ) : Fh i σ ρ := ⟨h1.1.trans h2.1, h2.2.1.trans h1.2.1, fun j hj => (h2.2.2.1 j hj).trans (h1.2.2.1 j hj), fun j hj => (h2.2.2.2 j hj).trans (h1.2.2.2 j hj)⟩
theorem Fb.fh {k i : Int} {σ τ : St} (h : Fb k σ τ) (hk : 26 * i ≤ k) : Fh i σ τ := ⟨h.dt, h.2.1, fun j hj => h.2.2 j (by omega), fun j hj => by rw [h.1 390 (by omega) (by omega)]⟩
/-- the rows chosen so far -/
def hR (τ : St) (pre : List Rw) : Prop := ∀ (j : Nat) (w : Rw), pre[j]? = some w → τ 390 j = w.1
abbrev Hits : Type := List (List Rw × Bd)
/-- nothing but bindings and chosen rows changes -/
def Sc9 (τ τ' : St) : Prop := ∀ c, c ≠ 389 → c ≠ 390 → c ≠ 392 → τ' c = τ c
theorem flatMap_cons9 {α β : Type} {a : α} {l : List α} {f : α → List β} : (a :: l).flatMap f = f a ++ l.flatMap f := List.flatMap_cons
set_option maxHeartbeats 2000000 in
theorem s_hits {h r mode : Int} (h1 : 0 ≤ h) (h2 : h ≤ 4) (r1 : 0 ≤ r) (r2 : r ≤ 9) {σ0 : St} (W0 : WfM σ0) (hc0 : atC σ0 h r 0 (σ0 376 (30 * (10 * h + r)))) {I : Hits → St → Prop} (hI : ∀ D τ τ', I D τ → Sc9 τ τ' → I D τ') {dl : Nat}
    (leaf : ∀ (d : Nat) (τ : St) (D : Hits) (pre : List Rw), dl ≤ d → I D τ → Dt σ0 τ → gdB (τ 389) → hR τ pre → (∀ w ∈ pre, w ∈ rsR σ0 h) → (pre.length : Int) = σ0 376 (30 * (10 * h + r)) → ∃ τ', I (D ++ [(pre, cB (τ 389))]) τ' ∧ Fh (σ0 376 (30 * (10 * h + r))) τ τ' ∧ RnA sc d 228 0 [some (vR 373), some (vI h), some (vI r), some (vI (σ0 376 (30 * (10 * h + r)))), some (vI mode), none] τ none τ') :
    ∀ (m d : Nat) (i : Int) (σ : St) (D : Hits) (pre : List Rw), I D σ → Dt σ0 σ → gdB (σ 389) → hR σ pre → (∀ w ∈ pre, w ∈ rsR σ0 h) → (pre.length : Int) = i → i + m = σ0 376 (30 * (10 * h + r)) → dl + m ≤ d → 3 + m ≤ d →
    ∃ τ, I (D ++ (hitsL (rsR σ0 h) (atsF σ0 h r 0 m i) (cB (σ 389))).map (fun q => (pre ++ q.1, q.2))) τ ∧ Fh i σ τ ∧ RnA sc d 228 0 [some (vR 373), some (vI h), some (vI r), some (vI i), some (vI mode), none] σ none τ := by
  have wr := W0.rul h1 h2 r1 r2
  have w1 := W0.nxt h1 h2
  intro m
  induction m with
  | zero =>
    intro d i σ D pre hD hDt hg hp hpm hl hi hd hd3
    have ei : i = σ0 376 (30 * (10 * h + r)) := by omega
    subst ei
    obtain ⟨τ, t1, t2, t3⟩ := leaf d σ D pre (by omega) hD hDt hg hp hpm hl
    refine ⟨τ, ?_, t2, t3⟩
    rw [atsF, hitsL, List.map_cons, List.map_nil, List.append_nil]
    exact t1
  | succ m ih =>
    intro d i σ D pre hD hDt hg hp hpm hl hi hd hd3
    have i0 : 0 ≤ i := by omega
    have loop : ∀ (k : Nat) (n : Int) (τ : St) (E : Hits), 0 ≤ n → n + k = σ0 381 h → I E τ → Fh i σ τ → ∃ ρ, I (E ++ ((rsF σ0 h k n).flatMap (fun w => match fitA (cB (σ 389)) (atR σ0 h r 0 i) w.2 with | none => [] | some β' => (hitsL (rsR σ0 h) (atsF σ0 h r 0 m (i + 1)) β').map fun q => (w :: q.1, q.2))).map (fun q => (pre ++ q.1, q.2))) ρ ∧ Fh i σ ρ ∧ RnA sc d 228 47 [some (vR 373), some (vI h), some (vI r), some (vI i), some (vI mode), some (vI n)] τ none ρ := by
      intro k
      induction k with
      | zero =>
        intro n τ E n0 nk hE hF
        have e1 : τ 381 h = σ0 381 h := by rw [(hDt.trans hF.1).1 381 (by omega) (by omega)]
        refine ⟨τ, ?_, hF, fun u Q => ?_⟩
        · rw [rsF, List.flatMap_nil, List.map_nil, List.append_nil]
          exact hE
        · rw [x228_47]
          simp (disch := first | omega | exact notL_I | exact notL_N | exact notL_R | exact oM | exact catS_le (Nat.le_of_ble_eq_true rfl) | rfl) only [x228_0, x228_1, x228_2, x228_3, x228_4, x228_5, x228_8, x228_11, x228_12I, x228_12, x228_13, x228_16, x228_17, x228_18, x228_21, x228_23, x228_24, x228_27, x228_28, x228_29, x228_30, x228_33, x228_35, x228_36, x228_39, x228_40, x228_43, x228_44, x228_45, x228_49, x228_50, x228_53, x228_54, x228_55, x228_58, x228_59, x228_60, x228_63, x228_64, x228_65, x228_66, x228_67, x228_68, x228_70, x228_73, x228_76, x228_77, x228_80, x228_81, x228_83, x228_84, x228_85, x228_86, x228_87, x228_88, x228_89, x228_90, x228_92, x228_95, x228_96, x228_97, x228_100, x228_103, x228_106, gM_nextRow, RM_nextRow, e1, if_pos, if_neg, ↓reduceIte, not_true_eq_false, not_false_eq_true]
      | succ k ihk =>
        intro n τ E n0 nk hE hF
        have Dτ0 := hDt.trans hF.1
        have e1 : τ 381 h = σ0 381 h := by rw [Dτ0.1 381 (by omega) (by omega)]
        have Dτ : Dt σ0 (scp τ 389 0 392 (26 * i) 26) := Dτ0.trans (Dt.dscp (by omega))
        have eb : (scp τ 389 0 392 (26 * i) 26) 389 = τ 389 := scp_ne (by omega)
        have gτ : gdB (τ 389) := gdB_c hF.2.1 hg
        obtain ⟨g', hg', hh⟩ := s_fits (sc := sc) (d := d - 1) (s := 0) (i := i) (n := n) (Dτ.wf W0) (by omega) h1 h2 r1 r2 (by omega) (by omega) i0 (by omega) n0 (by omega) (by rw [eb]; exact gτ) (atC_dt Dτ hc0 i i0 (by omega))
        rw [eb, hF.2.1, Dτ.at_, Dτ.rw_] at hh
        have e3 : (scp τ 389 0 392 (26 * i) 26) 377 = σ0 377 := Dτ.1 377 (by omega) (by omega)
        rw [e3] at hh
        have w3 := W0.thr (n := n) h1 h2 n0 (by omega)
        rcases hh with ⟨hth, β, hβ, hgβ, hrun⟩ | ⟨hno, hrun⟩
        · have Dg : Dt σ0 (su (stB (scp τ 389 0 392 (26 * i) 26) g') 390 i n) := (Dτ.trans Dt.dstB).trans (Dt.dsu (by omega))
          have esc : Sc9 τ (su (stB (scp τ 389 0 392 (26 * i) 26) g') 390 i n) := fun c a b e => by rw [su_ne b, stB_ne a, scp_ne e]
          have e9 : (su (stB (scp τ 389 0 392 (26 * i) 26) g') 390 i n) 389 = g' := by rw [su_ne (by omega), stB_at]
          have hp' : hR (su (stB (scp τ 389 0 392 (26 * i) 26) g') 390 i n) (pre ++ [rwR σ0 h n]) := by
            intro j w hj
            by_cases hjl : j < pre.length
            · rw [List.getElem?_append_left hjl] at hj
              rw [su_off (by omega), stB_ne (by omega), scp_ne (by omega), hF.2.2.2 j (by omega)]
              exact hp j w hj
            · rw [List.getElem?_append_right (by omega)] at hj
              have hj0 : j - pre.length < 1 := (List.getElem?_eq_some_iff.mp hj).1
              have hj1 : j = pre.length := by omega
              rw [hj1, Nat.sub_self] at hj
              cases hj
              rw [hj1, hl, su_eq]
              rfl
          have hmem : rwR σ0 h n ∈ rsR σ0 h := by
            have : ∀ (k : Nat) (a : Int), a ≤ n → n < a + k → rwR σ0 h n ∈ rsF σ0 h k a := by
              intro k
              induction k with
              | zero => intro a z1 z2; omega
              | succ k ihz =>
                intro a z1 z2
                rw [rsF]
                by_cases z3 : a = n
                · subst z3
                  rw [if_pos hth]
                  exact List.mem_cons_self
                · split
                  · exact List.mem_cons_of_mem _ (ihz (a + 1) (by omega) (by omega))
                  · exact ihz (a + 1) (by omega) (by omega)
            exact this _ 0 n0 (by omega)
          obtain ⟨σ2, hI2, hF2, hrun2⟩ := ih (d - 1) (i + 1) (su (stB (scp τ 389 0 392 (26 * i) 26) g') 390 i n) E (pre ++ [rwR σ0 h n]) (hI _ _ _ hE esc) Dg (by rw [e9]; exact hg') hp' (fun w hw => (List.mem_append.mp hw).elim (hpm w) (fun z => by rw [List.mem_singleton.mp z]; exact hmem)) (by rw [List.length_append, List.length_singleton]; omega) (by omega) (by omega) (by omega)
          rw [e9, hgβ] at hI2
          have hround : Fh i τ (scp σ2 392 (26 * i) 389 0 26) := by
            refine ⟨?_, ?_, fun j hj => ?_, fun j hj => ?_⟩
            · refine Dt.trans ?_ (Dt.dscp (by omega))
              refine Dt.trans ?_ hF2.1
              exact ((Dt.dscp (by omega)).trans Dt.dstB).trans (Dt.dsu (by omega))
            · funext v
              unfold cB
              by_cases hv : 0 ≤ v ∧ v ≤ 25
              · rw [if_pos hv, if_pos hv, scp_at, if_pos (by omega), hF2.2.2.1 _ (by omega), su_ne (by omega), stB_ne (by omega), scp_at, if_pos (by omega)]
                congr 1
                omega
              · rw [if_neg hv, if_neg hv]
            · rw [scp_ne (by omega), hF2.2.2.1 _ (by omega), su_ne (by omega), stB_ne (by omega), scp_at, if_neg (by omega)]
            · rw [scp_ne (by omega), hF2.2.2.2 _ (by omega), su_off (by omega), stB_ne (by omega), scp_ne (by omega)]
          have hF3 := hF.trans hround
          have esc2 : Sc9 σ2 (scp σ2 392 (26 * i) 389 0 26) := fun c a b e => scp_ne a
          obtain ⟨ρ, hρI, hρ, hrunρ⟩ := ihk (n + 1) _ _ (by omega) (by omega) (hI _ _ _ hI2 esc2) hF3
          refine ⟨ρ, ?_, hρ, fun u Q => ?_⟩
          · rw [rsF, if_pos hth, flatMap_cons9, List.map_append, hβ]
            dsimp only
            rw [← List.append_assoc]
            rw [List.map_map]
            have ef : ((fun q : List Rw × Bd => (pre ++ q.1, q.2)) ∘ fun q : List Rw × Bd => (rwR σ0 h n :: q.1, q.2)) = fun q : List Rw × Bd => (pre ++ [rwR σ0 h n] ++ q.1, q.2) := by
              funext q
              simp
            rw [ef]
            exact hρI
          · rw [x228_47]
            simp (disch := first | omega | exact notL_I | exact notL_N | exact notL_R | exact oM | exact catS_le (Nat.le_of_ble_eq_true rfl) | rfl) only [x228_0, x228_1, x228_2, x228_3, x228_4, x228_5, x228_8, x228_11, x228_12I, x228_12, x228_13, x228_16, x228_17, x228_18, x228_21, x228_23, x228_24, x228_27, x228_28, x228_29, x228_30, x228_33, x228_35, x228_36, x228_39, x228_40, x228_43, x228_44, x228_45, x228_49, x228_50, x228_53, x228_54, x228_55, x228_58, x228_59, x228_60, x228_63, x228_64, x228_65, x228_66, x228_67, x228_68, x228_70, x228_73, x228_76, x228_77, x228_80, x228_81, x228_83, x228_84, x228_85, x228_86, x228_87, x228_88, x228_89, x228_90, x228_92, x228_95, x228_96, x228_97, x228_100, x228_103, x228_106, gM_nextRow, RM_nextRow, e1, s_save, Kc_none, hrun u, gM_hitRow, WM_hitRow, hrun2 u, Kc_some, s_back, if_pos, if_neg, ↓reduceIte, not_true_eq_false, not_false_eq_true]
            exact hrunρ u Q
        · have hround : Fh i τ (scp (stB (scp τ 389 0 392 (26 * i) 26) g') 392 (26 * i) 389 0 26) := (Fb.round (p := i) (fun c a b => by rw [stB_ne a, scp_ne b]) (fun j hj => by rw [stB_ne (by omega)])).fh (by omega)
          have hF3 := hF.trans hround
          have esc : Sc9 τ (scp (stB (scp τ 389 0 392 (26 * i) 26) g') 392 (26 * i) 389 0 26) := fun c a b e => by rw [scp_ne a, stB_ne a, scp_ne e]
          obtain ⟨ρ, hρI, hρ, hrunρ⟩ := ihk (n + 1) _ _ (by omega) (by omega) (hI _ _ _ hE esc) hF3
          refine ⟨ρ, ?_, hρ, fun u Q => ?_⟩
          · rw [rsF]
            rcases hno with z | z
            · rw [if_neg (by omega)]
              exact hρI
            · split
              · rw [flatMap_cons9, z]
                exact hρI
              · exact hρI
          · rw [x228_47]
            simp (disch := first | omega | exact notL_I | exact notL_N | exact notL_R | exact oM | exact catS_le (Nat.le_of_ble_eq_true rfl) | rfl) only [x228_0, x228_1, x228_2, x228_3, x228_4, x228_5, x228_8, x228_11, x228_12I, x228_12, x228_13, x228_16, x228_17, x228_18, x228_21, x228_23, x228_24, x228_27, x228_28, x228_29, x228_30, x228_33, x228_35, x228_36, x228_39, x228_40, x228_43, x228_44, x228_45, x228_49, x228_50, x228_53, x228_54, x228_55, x228_58, x228_59, x228_60, x228_63, x228_64, x228_65, x228_66, x228_67, x228_68, x228_70, x228_73, x228_76, x228_77, x228_80, x228_81, x228_83, x228_84, x228_85, x228_86, x228_87, x228_88, x228_89, x228_90, x228_92, x228_95, x228_96, x228_97, x228_100, x228_103, x228_106, gM_nextRow, RM_nextRow, e1, s_save, Kc_none, hrun u, Kc_some, s_back, if_pos, if_neg, ↓reduceIte, not_true_eq_false, not_false_eq_true]
            exact hrunρ u Q
    obtain ⟨ρ, hρI, hρ, hrunρ⟩ := loop (σ0 381 h).toNat 0 σ D (by omega) (by omega) hD Fh.refl
    refine ⟨ρ, ?_, hρ, fun u Q => ?_⟩
    · rw [atsF, hitsL]
      exact hρI
    · refine Iff.trans ?_ (hrunρ u Q)
      have e5 : σ 376 = σ0 376 := hDt.1 376 (by omega) (by omega)
      simp (disch := first | omega | exact notL_I | exact notL_N | exact notL_R | exact oM | exact catS_le (Nat.le_of_ble_eq_true rfl) | rfl) only [x228_0, x228_1, x228_2, x228_3, x228_4, x228_5, x228_8, x228_11, x228_12I, x228_12, x228_13, x228_16, x228_17, x228_18, x228_21, x228_23, x228_24, x228_27, x228_28, x228_29, x228_30, x228_33, x228_35, x228_36, x228_39, x228_40, x228_43, x228_44, x228_45, x228_49, x228_50, x228_53, x228_54, x228_55, x228_58, x228_59, x228_60, x228_63, x228_64, x228_65, x228_66, x228_67, x228_68, x228_70, x228_73, x228_76, x228_77, x228_80, x228_81, x228_83, x228_84, x228_85, x228_86, x228_87, x228_88, x228_89, x228_90, x228_92, x228_95, x228_96, x228_97, x228_100, x228_103, x228_106, s_rule, Kc_some, e5, if_pos, if_neg, ↓reduceIte, not_true_eq_false, not_false_eq_true, Int.add_zero]
end R5
