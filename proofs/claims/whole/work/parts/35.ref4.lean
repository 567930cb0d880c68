/-! states that agree on the halls; behind() -/
def bI : Bool → Int
  | true => 1
  | false => 0
theorem bI_t : bI true = 1 := rfl
theorem bI_f : bI false = 0 := rfl
/-- the halls' numbers and the tape are the same -/
def Dt (σ τ : St) : Prop := (∀ c, 374 ≤ c → c ≤ 386 → τ c = σ c) ∧ τ 373 14 = σ 373 14
section Dta
variable {σ τ ρ : St}
theorem Dt.rfl' : Dt σ σ := ⟨fun _ _ _ => rfl, rfl⟩
theorem Dt.trans (h1 : Dt σ τ) (h2 : Dt τ ρ) : Dt σ ρ := ⟨fun c a b => (h2.1 c a b).trans (h1.1 c a b), h2.2.trans h1.2⟩
theorem Dt.wf (D : Dt σ τ) (W : WfM σ) : WfM τ := by
  unfold WfM at *
  rw [D.1 374 (by omega) (by omega), D.1 375 (by omega) (by omega), D.1 376 (by omega) (by omega), D.1 377 (by omega) (by omega), D.1 378 (by omega) (by omega), D.1 379 (by omega) (by omega), D.1 380 (by omega) (by omega), D.1 381 (by omega) (by omega), D.1 382 (by omega) (by omega), D.1 383 (by omega) (by omega), D.1 385 (by omega) (by omega), D.1 386 (by omega) (by omega), D.2]
  exact W
theorem Dt.rw_ (D : Dt σ τ) {h n : Int} : rwR τ h n = rwR σ h n := by
  unfold rwR
  rw [D.1 374 (by omega) (by omega), D.1 378 (by omega) (by omega), D.1 379 (by omega) (by omega)]
theorem Dt.rs (D : Dt σ τ) {h : Int} : ∀ (k : Nat) (n : Int), rsF τ h k n = rsF σ h k n := by
  intro k
  induction k with
  | zero => intro n; rfl
  | succ k ih =>
    intro n
    rw [rsF, rsF, D.1 377 (by omega) (by omega), D.rw_, ih]
theorem Dt.rsr (D : Dt σ τ) {h : Int} : rsR τ h = rsR σ h := by
  unfold rsR
  rw [D.rs, D.1 381 (by omega) (by omega)]
theorem Dt.at_ (D : Dt σ τ) {h r s i : Int} : atR τ h r s i = atR σ h r s i := by
  unfold atR
  rw [D.1 374 (by omega) (by omega), D.1 376 (by omega) (by omega)]
theorem Dt.ats (D : Dt σ τ) {h r s : Int} : ∀ (k : Nat) (i : Int), atsF τ h r s k i = atsF σ h r s k i := by
  intro k
  induction k with
  | zero => intro n; rfl
  | succ k ih =>
    intro n
    rw [atsF, atsF, D.at_, ih]
theorem Dt.ru (D : Dt σ τ) {h r : Int} : ruR τ h r = ruR σ h r := by
  unfold ruR
  rw [D.1 376 (by omega) (by omega), D.ats, D.ats]
theorem Dt.dsu {a : Nat} {i x : Int} (h : a < 373 ∨ 386 < a) : Dt σ (su σ a i x) := ⟨fun c _ _ => su_ne (by omega), by rw [su_ne (by omega)]⟩
theorem Dt.dsu3 {i x : Int} (h : i ≠ 14) : Dt σ (su σ 373 i x) := ⟨fun c _ _ => su_ne (by omega), su_off (fun z => h z.symm)⟩
theorem Dt.dscp {a b : Nat} {sp dp n : Int} (h : a < 373 ∨ 386 < a) : Dt σ (scp σ b sp a dp n) := ⟨fun c _ _ => scp_ne (by omega), by rw [scp_ne (by omega)]⟩
theorem Dt.dfl {a : Nat} {lo hi v : Int} (h : a < 373 ∨ 386 < a) : Dt σ (fl σ a lo hi v) := ⟨fun c _ _ => fl_ne (by omega), by rw [fl_ne (by omega)]⟩
theorem Dt.dstB {g : Int → Int} : Dt σ (stB σ g) := ⟨fun c _ _ => stB_ne (by omega), by rw [stB_ne (by omega)]⟩
end Dta
theorem gdB_c {f g : Int → Int} (h : cB f = cB g) (hg : gdB g) : gdB f := by
  intro v v1 v2
  have e := congrFun h v
  rw [cB_in v1 v2, cB_in v1 v2] at e
  rw [e]
  exact hg v v1 v2
/-- bindings as they were, the saved ones below a place too -/
def Fb (k : Int) (σ τ : St) : Prop := (∀ c, c ≠ 389 → c ≠ 392 → τ c = σ c) ∧ cB (τ 389) = cB (σ 389) ∧ ∀ j, j < k → τ 392 j = σ 392 j
theorem Fb.dt {k : Int} {σ τ : St} (h : Fb k σ τ) : Dt σ τ := ⟨fun c a b => h.1 c (by omega) (by omega), by rw [h.1 373 (by omega) (by omega)]⟩
theorem Fb.trans {k : Int} {σ τ ρ : St} (h1 : Fb k σ τ) (h2 : Fb k τ ρ) : Fb k σ ρ := ⟨fun c a b => (h2.1 c a b).trans (h1.1 c a b), h2.2.1.trans h1.2.1, fun j hj => (h2.2.2 j hj).trans (h1.2.2 j hj)⟩
theorem Fb.refl {k : Int} {σ : St} : Fb k σ σ := ⟨fun _ _ _ => rfl, rfl, fun _ _ => rfl⟩
/-- saved, tried, and back -/
theorem Fb.round {p : Int} {τ σ2 : St} (h : ∀ c, c ≠ 389 → c ≠ 392 → σ2 c = τ c) (h2 : ∀ j, j < 26 * p + 26 → σ2 392 j = scp τ 389 0 392 (26 * p) 26 392 j) : Fb (26 * p) τ (scp σ2 392 (26 * p) 389 0 26) := by
  refine ⟨fun c a b => by rw [scp_ne a]; exact h c a b, ?_, fun j hj => ?_⟩
  · funext v
    unfold cB
    by_cases hv : 0 ≤ v ∧ v ≤ 25
    · rw [if_pos hv, if_pos hv, scp_at, if_pos (by omega), h2 _ (by omega), scp_at, if_pos (by omega)]
      congr 1
      omega
    · rw [if_neg hv, if_neg hv]
  · rw [scp_ne (by omega), h2 j (by omega), scp_at, if_neg (by omega)]
/-- the columns of the atoms' tables -/
def atC (σ : St) (h r s m : Int) : Prop := ∀ i, 0 ≤ i → i < m → 1 ≤ σ 374 (26 * h + σ 376 (30 * (10 * h + r) + (3 + 4 * (3 * s + i))))
theorem atC_dt {σ τ : St} {h r s m : Int} (D : Dt σ τ) (H : atC σ h r s m) : atC τ h r s m := by
  unfold atC at *
  rw [D.1 374 (by omega) (by omega), D.1 376 (by omega) (by omega)]
  exact H
theorem any_cons {w : Rw} {L : List Rw} {f : Rw → Bool} : (w :: L).any f = (f w || L.any f) := rfl
section R4
variable {sc : Scr}
set_option maxHeartbeats 1000000 in
theorem s_behind {h r : Int} (h1 : 0 ≤ h) (h2 : h ≤ 4) (r1 : 0 ≤ r) (r2 : r ≤ 9) : ∀ (m d : Nat) (i : Int) (σ : St), WfM σ → gdB (σ 389) → atC σ h r 1 (σ 376 (30 * (10 * h + r) + 2)) → 0 ≤ i → i + m = σ 376 (30 * (10 * h + r) + 2) → 3 + m ≤ d →
    ∃ τ, Fb (26 * (4 + i)) σ τ ∧ RnA sc d 233 0 [some (vR 373), some (vI h), some (vI r), some (vI i), none, none] σ (some (vI (bI (standsL (rsR σ h) (atsF σ h r 1 m i) (cB (σ 389)))))) τ := by
  intro m
  induction m with
  | zero =>
    intro d i σ W hg hc i0 hi hd
    have wr := W.rul h1 h2 r1 r2
    refine ⟨σ, Fb.refl, fun u Q => ?_⟩
    simp (disch := first | omega | exact notL_I | exact notL_N | exact notL_R | exact oM | exact catS_le (Nat.le_of_ble_eq_true rfl) | rfl) only [x233_0, x233_1, x233_2, x233_3, x233_4, x233_5, x233_8, x233_11, x233_12, x233_13, x233_14, x233_16, x233_17, x233_21, x233_22, x233_25, x233_26, x233_27, x233_30, x233_32, x233_35, x233_36, x233_37, x233_38, x233_39, x233_42, x233_43, x233_44, x233_45, x233_46, x233_47, x233_49, x233_52, x233_55, x233_56, x233_57, x233_58, x233_59, x233_60, x233_61, x233_64, x233_67, x233_68, x233_71, x233_72, x233_74, x233_75, x233_76, x233_77, x233_78, x233_81, x233_84, x233_87, x233_89, s_rule, Kc_some, if_pos, if_neg, ↓reduceIte, not_true_eq_false, not_false_eq_true, atsF, standsL, bI_t]
  | succ m ih =>
    intro d i σ W hg hc i0 hi hd
    have wr := W.rul h1 h2 r1 r2
    have w1 := W.nxt h1 h2
    have loop : ∀ (k : Nat) (n : Int) (τ : St), 0 ≤ n → n + k = σ 381 h → Fb (26 * (4 + i)) σ τ → ∃ ρ, Fb (26 * (4 + i)) σ ρ ∧ RnA sc d 233 19 [some (vR 373), some (vI h), some (vI r), some (vI i), some (vI 0), some (vI n)] τ (some (vI (bI ((rsF σ h k n).any (fun w => match fitA (cB (σ 389)) (atR σ h r 1 i) w.2 with | none => false | some β' => standsL (rsR σ h) (atsF σ h r 1 m (i + 1)) β'))))) ρ := by
      intro k
      induction k with
      | zero =>
        intro n τ n0 nk hF
        have e1 : τ 381 h = σ 381 h := by rw [hF.1 381 (by omega) (by omega)]
        refine ⟨τ, hF, fun u Q => ?_⟩
        rw [x233_19]
        simp (disch := first | omega | exact notL_I | exact notL_N | exact notL_R | exact oM | exact catS_le (Nat.le_of_ble_eq_true rfl) | rfl) only [x233_0, x233_1, x233_2, x233_3, x233_4, x233_5, x233_8, x233_11, x233_12, x233_13, x233_14, x233_16, x233_17, x233_21, x233_22, x233_25, x233_26, x233_27, x233_30, x233_32, x233_35, x233_36, x233_37, x233_38, x233_39, x233_42, x233_43, x233_44, x233_45, x233_46, x233_47, x233_49, x233_52, x233_55, x233_56, x233_57, x233_58, x233_59, x233_60, x233_61, x233_64, x233_67, x233_68, x233_71, x233_72, x233_74, x233_75, x233_76, x233_77, x233_78, x233_81, x233_84, x233_87, x233_89, gM_nextRow, RM_nextRow, e1, if_pos, if_neg, ↓reduceIte, not_true_eq_false, not_false_eq_true]
        rfl
      | succ k ihk =>
        intro n τ n0 nk hF
        have e1 : τ 381 h = σ 381 h := by rw [hF.1 381 (by omega) (by omega)]
        have Dτ : Dt σ (scp τ 389 0 392 (26 * (4 + i)) 26) := hF.dt.trans (Dt.dscp (by omega))
        have eb : (scp τ 389 0 392 (26 * (4 + i)) 26) 389 = τ 389 := scp_ne (by omega)
        have gτ : gdB (τ 389) := gdB_c hF.2.1 hg
        obtain ⟨g', hg', hh⟩ := s_fits (sc := sc) (d := d - 1) (s := 1) (i := i) (n := n) (Dτ.wf W) (by omega) h1 h2 r1 r2 (by omega) (by omega) i0 (by omega) n0 (by omega) (by rw [eb]; exact gτ) (atC_dt Dτ hc i i0 (by omega))
        rw [eb, hF.2.1, Dτ.at_, Dτ.rw_] at hh
        have e3 : (scp τ 389 0 392 (26 * (4 + i)) 26) 377 = σ 377 := Dτ.1 377 (by omega) (by omega)
        rw [e3] at hh
        have w3 := W.thr (n := n) h1 h2 n0 (by omega)
        rcases hh with ⟨hth, β, hβ, hgβ, hrun⟩ | ⟨hno, hrun⟩
        · have Dg : Dt σ (stB (scp τ 389 0 392 (26 * (4 + i)) 26) g') := Dτ.trans Dt.dstB
          obtain ⟨σ2, hF2, hrun2⟩ := ih (d - 1) (i + 1) (stB (scp τ 389 0 392 (26 * (4 + i)) 26) g') (Dg.wf W) (by rw [stB_at]; exact hg') (by rw [Dg.1 376 (by omega) (by omega)]; exact atC_dt Dg hc) (by omega) (by rw [Dg.1 376 (by omega) (by omega)]; omega) (by omega)
          rw [stB_at, hgβ, Dg.rsr, Dg.ats] at hrun2
          have hround : Fb (26 * (4 + i)) τ (scp σ2 392 (26 * (4 + i)) 389 0 26) := Fb.round (fun c a b => by rw [hF2.1 c a b, stB_ne a, scp_ne b]) (fun j hj => by rw [hF2.2.2 j (by omega), stB_ne (by omega)])
          have hF3 := hF.trans hround
          obtain ⟨ρ, hρ, hrunρ⟩ := ihk (n + 1) _ (by omega) (by omega) hF3
          rw [rsF, if_pos hth, any_cons, hβ]
          have e5 : (rwR σ h n).2 = (rwR σ h n).2 := rfl
          dsimp only
          have e4 : (scp σ2 392 (26 * (4 + i)) 389 0 26) 381 h = σ 381 h := by rw [hF3.1 381 (by omega) (by omega)]
          by_cases hs : standsL (rsR σ h) (atsF σ h r 1 m (i + 1)) β = true
          · rw [hs, Bool.true_or]
            rw [hs, bI_t] at hrun2
            refine ⟨_, hF3, fun u Q => ?_⟩
            rw [x233_19]
            simp (disch := first | omega | exact notL_I | exact notL_N | exact notL_R | exact oM | exact catS_le (Nat.le_of_ble_eq_true rfl) | rfl) only [x233_0, x233_1, x233_2, x233_3, x233_4, x233_5, x233_8, x233_11, x233_12, x233_13, x233_14, x233_16, x233_17, x233_21, x233_22, x233_25, x233_26, x233_27, x233_30, x233_32, x233_35, x233_36, x233_37, x233_38, x233_39, x233_42, x233_43, x233_44, x233_45, x233_46, x233_47, x233_49, x233_52, x233_55, x233_56, x233_57, x233_58, x233_59, x233_60, x233_61, x233_64, x233_67, x233_68, x233_71, x233_72, x233_74, x233_75, x233_76, x233_77, x233_78, x233_81, x233_84, x233_87, x233_89, gM_nextRow, RM_nextRow, e1, s_save, Kc_none, hrun u, hrun2 u, Kc_some, s_back, if_pos, if_neg, ↓reduceIte, not_true_eq_false, not_false_eq_true]
            rw [x233_19]
            simp (disch := first | omega | exact notL_I | exact notL_N | exact notL_R | exact oM | exact catS_le (Nat.le_of_ble_eq_true rfl) | rfl) only [x233_0, x233_1, x233_2, x233_3, x233_4, x233_5, x233_8, x233_11, x233_12, x233_13, x233_14, x233_16, x233_17, x233_21, x233_22, x233_25, x233_26, x233_27, x233_30, x233_32, x233_35, x233_36, x233_37, x233_38, x233_39, x233_42, x233_43, x233_44, x233_45, x233_46, x233_47, x233_49, x233_52, x233_55, x233_56, x233_57, x233_58, x233_59, x233_60, x233_61, x233_64, x233_67, x233_68, x233_71, x233_72, x233_74, x233_75, x233_76, x233_77, x233_78, x233_81, x233_84, x233_87, x233_89, gM_nextRow, RM_nextRow, e4, if_pos, if_neg, ↓reduceIte, not_true_eq_false, not_false_eq_true]
            split <;> rfl
          · have hs2 : standsL (rsR σ h) (atsF σ h r 1 m (i + 1)) β = false := by simpa using hs
            rw [hs2, bI_f] at hrun2
            rw [hs2, Bool.false_or]
            refine ⟨ρ, hρ, fun u Q => ?_⟩
            rw [x233_19]
            simp (disch := first | omega | exact notL_I | exact notL_N | exact notL_R | exact oM | exact catS_le (Nat.le_of_ble_eq_true rfl) | rfl) only [x233_0, x233_1, x233_2, x233_3, x233_4, x233_5, x233_8, x233_11, x233_12, x233_13, x233_14, x233_16, x233_17, x233_21, x233_22, x233_25, x233_26, x233_27, x233_30, x233_32, x233_35, x233_36, x233_37, x233_38, x233_39, x233_42, x233_43, x233_44, x233_45, x233_46, x233_47, x233_49, x233_52, x233_55, x233_56, x233_57, x233_58, x233_59, x233_60, x233_61, x233_64, x233_67, x233_68, x233_71, x233_72, x233_74, x233_75, x233_76, x233_77, x233_78, x233_81, x233_84, x233_87, x233_89, gM_nextRow, RM_nextRow, e1, s_save, Kc_none, hrun u, hrun2 u, Kc_some, s_back, if_pos, if_neg, ↓reduceIte, not_true_eq_false, not_false_eq_true]
            exact hrunρ u Q
        · have hround : Fb (26 * (4 + i)) τ (scp (stB (scp τ 389 0 392 (26 * (4 + i)) 26) g') 392 (26 * (4 + i)) 389 0 26) := Fb.round (fun c a b => by rw [stB_ne a, scp_ne b]) (fun j hj => by rw [stB_ne (by omega)])
          have hF3 := hF.trans hround
          obtain ⟨ρ, hρ, hrunρ⟩ := ihk (n + 1) _ (by omega) (by omega) hF3
          have e6 : (rsF σ h (k + 1) n).any (fun w => match fitA (cB (σ 389)) (atR σ h r 1 i) w.2 with | none => false | some β' => standsL (rsR σ h) (atsF σ h r 1 m (i + 1)) β') = (rsF σ h k (n + 1)).any (fun w => match fitA (cB (σ 389)) (atR σ h r 1 i) w.2 with | none => false | some β' => standsL (rsR σ h) (atsF σ h r 1 m (i + 1)) β') := by
            rw [rsF]
            rcases hno with z | z
            · rw [if_neg (by omega)]
            · split
              · rw [any_cons, z]
                rfl
              · rfl
          rw [e6]
          refine ⟨ρ, hρ, fun u Q => ?_⟩
          rw [x233_19]
          simp (disch := first | omega | exact notL_I | exact notL_N | exact notL_R | exact oM | exact catS_le (Nat.le_of_ble_eq_true rfl) | rfl) only [x233_0, x233_1, x233_2, x233_3, x233_4, x233_5, x233_8, x233_11, x233_12, x233_13, x233_14, x233_16, x233_17, x233_21, x233_22, x233_25, x233_26, x233_27, x233_30, x233_32, x233_35, x233_36, x233_37, x233_38, x233_39, x233_42, x233_43, x233_44, x233_45, x233_46, x233_47, x233_49, x233_52, x233_55, x233_56, x233_57, x233_58, x233_59, x233_60, x233_61, x233_64, x233_67, x233_68, x233_71, x233_72, x233_74, x233_75, x233_76, x233_77, x233_78, x233_81, x233_84, x233_87, x233_89, gM_nextRow, RM_nextRow, e1, s_save, Kc_none, hrun u, Kc_some, s_back, if_pos, if_neg, ↓reduceIte, not_true_eq_false, not_false_eq_true]
          exact hrunρ u Q
    obtain ⟨ρ, hρ, hrunρ⟩ := loop (σ 381 h).toNat 0 σ (by omega) (by omega) Fb.refl
    refine ⟨ρ, hρ, fun u Q => ?_⟩
    rw [atsF, standsL]
    refine Iff.trans ?_ (hrunρ u Q)
    simp (disch := first | omega | exact notL_I | exact notL_N | exact notL_R | exact oM | exact catS_le (Nat.le_of_ble_eq_true rfl) | rfl) only [x233_0, x233_1, x233_2, x233_3, x233_4, x233_5, x233_8, x233_11, x233_12, x233_13, x233_14, x233_16, x233_17, x233_21, x233_22, x233_25, x233_26, x233_27, x233_30, x233_32, x233_35, x233_36, x233_37, x233_38, x233_39, x233_42, x233_43, x233_44, x233_45, x233_46, x233_47, x233_49, x233_52, x233_55, x233_56, x233_57, x233_58, x233_59, x233_60, x233_61, x233_64, x233_67, x233_68, x233_71, x233_72, x233_74, x233_75, x233_76, x233_77, x233_78, x233_81, x233_84, x233_87, x233_89, s_rule, Kc_some, if_pos, if_neg, ↓reduceIte, not_true_eq_false, not_false_eq_true]
end R4
