/-! the core of the class: one round -/
/-- only the spare hall's rows and the core's lead change -/
def FrS (σ τ : St) : Prop := ∀ c, c < 5 ∨ 9 < c → c < 112 ∨ 116 < c → τ c = σ c
theorem FrS.refl {σ : St} : FrS σ σ := fun _ _ _ => rfl
theorem FrS.trans {σ τ ρ : St} (h1 : FrS σ τ) (h2 : FrS τ ρ) : FrS σ ρ := fun c a b => (h2 c a b).trans (h1 c a b)
section K1
variable {sc : Scr}
/-- rows that no row becomes go, from the last one on -/
theorem l_rem {d : Nat} {σ0 : St} {N : Int} {im : List Int} (hd : 1 ≤ d) (w40 : σ0 5 0 ≤ 40) (hs : srt (rsC σ0 5)) (hN : σ0 112 5 = N) (N0 : 0 ≤ N) (N1 : N ≤ 40) (hlen : (im.length : Int) = N) (him : ∀ (i : Nat) (m : Int), im[i]? = some m → 0 ≤ σ0 115 i ∧ σ0 115 i < σ0 5 0 ∧ (rwC σ0 5 (σ0 115 i)).1 = m) {l3 l4 : Option V} {n : Int} : ∀ (p : Nat) (τ : St), (p : Int) ≤ σ0 5 0 → WfRo τ 5 → FrR 5 σ0 τ → rsC τ 5 = (rsC σ0 5).take p ++ ((rsC σ0 5).drop p).filter (fun v => decide (v.1 ∈ im)) →
    ∃ ρ, FrR 5 σ0 ρ ∧ WfRo ρ 5 ∧ rsC ρ 5 = (rsC σ0 5).filter (fun v => decide (v.1 ∈ im)) ∧ naC ρ 5 = naC τ 5 ∧ ρ 5 1 = τ 5 1 ∧ ∀ (u : Bool × Nat × Nat × Int) (Q : Rs → HS → Prop), Ex sc d 145 38 [some (vR 0), some (vR 2), some (vI n), l3, l4, some (vI ((p : Int) - 1))] [] (wH τ u) Q ↔ Ex sc d 145 70 [some (vR 0), some (vR 2), some (vI n), l3, l4, some (vI (-1))] [] (wH ρ u) Q := by
  have oL := oLe_112
  have oH := oHa_2
  have oR : oRo 5 := oHa_2.rows
  intro p
  induction p with
  | zero =>
    intro τ hp W F e
    rw [List.take_zero, List.drop_zero, List.nil_append] at e
    refine ⟨τ, F, W, e, rfl, rfl, fun u Q => ?_⟩
    rw [x145_38]
    simp (disch := first | assumption | omega | exact notL_I | exact notL_N | exact notL_R | exact catS_le (Nat.le_of_ble_eq_true rfl) | exact Nat.le_of_ble_eq_true rfl | exact ooRo (by assumption) | exact ooAt (by assumption) | exact ooRu (by assumption) | exact ooLo (by assumption) | exact ooHa (by assumption) | exact ooLe (by assumption) | exact ooFn | exact ooAn | exact ooPa | exact ooTo | exact ooWa | exact ooCh | rfl) only [x145_0, x145_1, x145_4, x145_7, x145_8, x145_9, x145_11, x145_12, x145_15, x145_16, x145_19, x145_20, x145_21, x145_22, x145_25, x145_27, x145_29, x145_30, x145_33, x145_34, x145_35, x145_36, x145_40, x145_43, x145_44, x145_47, x145_49, x145_52, x145_55, x145_56, x145_59, x145_61, x145_64, x145_67, x145_72, x145_75, x145_77, x145_78, x145_81, x145_84, x145_85, Int.natCast_zero, if_pos, if_neg, ↓reduceIte, not_true_eq_false, not_false_eq_true]
    exact Iff.rfl
  | succ p ih =>
    intro τ hp W F e
    have len0 : p < (rsC σ0 5).length := by
      unfold rsC
      rw [rcF_len]
      omega
    have g := rsC_get (σ := σ0) (r := 5) (p := (p : Int)) (by omega) (by omega)
    rw [Int.toNat_natCast] at g
    have hdr : (rsC σ0 5).drop p = rwC σ0 5 p :: (rsC σ0 5).drop (p + 1) := by
      rw [List.drop_eq_getElem_cons len0]
      congr 1
      rw [List.getElem?_eq_getElem len0] at g
      exact Option.some.inj g
    have htk : (rsC σ0 5).take (p + 1) = (rsC σ0 5).take p ++ [rwC σ0 5 p] := by
      rw [List.take_add_one, g]
      rfl
    have e5 : τ 112 = σ0 112 := F _ (by omega)
    have e15 : τ 115 = σ0 115 := F _ (by omega)
    have iff : rchF (σ0 115) p N.toNat 0 = true ↔ (rwC σ0 5 p).1 ∈ im := by
      rw [rch_iff]
      constructor
      · rintro ⟨j, h1, h2⟩
        rw [Int.zero_add] at h2
        have hj : j < im.length := by omega
        have h3 := him j _ (List.getElem?_eq_getElem hj)
        rw [h2] at h3
        rw [h3.2.2]
        exact List.getElem_mem hj
      · intro hm
        obtain ⟨j, hj, ej⟩ := List.mem_iff_getElem.mp hm
        have h3 := him j _ (List.getElem?_eq_getElem hj)
        refine ⟨j, by omega, ?_⟩
        rw [Int.zero_add]
        have g2 := rsC_get (σ := σ0) (r := 5) (p := σ0 115 j) h3.1 h3.2.1
        have s1 := srt_get _ p (σ0 115 j).toNat _ _ hs g g2
        have s2 := srt_get _ (σ0 115 j).toNat p _ _ hs g2 g
        have : (rwC σ0 5 (σ0 115 j)).1 = (rwC σ0 5 p).1 := h3.2.2.trans ej
        omega
    have rs := fun u Q => s_reaches (sc := sc) (d := d - 1) (σ := τ) (u := u) (Q := Q) (p := (p : Int)) (n := N) oLe_112 ⟨by omega, by omega⟩ (by rw [e5]; exact hN) N0 N1 (fun i i0 i1 => by
      have hj : i.toNat < im.length := by omega
      have h3 := him i.toNat _ (List.getElem?_eq_getElem hj)
      have : ((i.toNat : Nat) : Int) = i := by omega
      rw [this] at h3
      show inR (τ 115 i)
      rw [e15]
      exact ⟨by omega, by omega⟩)
    rw [e15] at rs
    have ep : (((p + 1 : Nat)) : Int) - 1 = (p : Int) := by omega
    rw [ep]
    by_cases hr : rchF (σ0 115) p N.toNat 0 = true
    · have hm := iff.mp hr
      obtain ⟨ρ, y1, y2, y3, y4, y5, y6⟩ := ih τ (by omega) W F (by rw [e, htk, hdr, List.filter_cons_of_pos (by rw [decide_eq_true_eq]; exact hm), List.append_assoc]; rfl)
      refine ⟨ρ, y1, y2, y3, y4, y5, fun u Q => ?_⟩
      rw [hr, bI_t] at rs
      rw [x145_38]
      simp (disch := first | assumption | omega | exact notL_I | exact notL_N | exact notL_R | exact catS_le (Nat.le_of_ble_eq_true rfl) | exact Nat.le_of_ble_eq_true rfl | exact ooRo (by assumption) | exact ooAt (by assumption) | exact ooRu (by assumption) | exact ooLo (by assumption) | exact ooHa (by assumption) | exact ooLe (by assumption) | exact ooFn | exact ooAn | exact ooPa | exact ooTo | exact ooWa | exact ooCh | rfl) only [x145_0, x145_1, x145_4, x145_7, x145_8, x145_9, x145_11, x145_12, x145_15, x145_16, x145_19, x145_20, x145_21, x145_22, x145_25, x145_27, x145_29, x145_30, x145_33, x145_34, x145_35, x145_36, x145_40, x145_43, x145_44, x145_47, x145_49, x145_52, x145_55, x145_56, x145_59, x145_61, x145_64, x145_67, x145_72, x145_75, x145_77, x145_78, x145_81, x145_84, x145_85, gCh_coreLead, rs, Kc_some, if_pos, if_neg, ↓reduceIte, not_true_eq_false, not_false_eq_true]
      exact y6 u Q
    · have hm : ¬ (rwC σ0 5 p).1 ∈ im := fun z => hr (iff.mpr z)
      have hr' : rchF (σ0 115) p N.toNat 0 = false := by simpa using hr
      have hp1 : (p : Int) < τ 5 0 := by
        have l1 := congrArg List.length e
        have l2 := rsC_len (σ := τ) (r := 5) W.1.1
        rw [List.length_append, List.length_take] at l1
        omega
      have e' : rsC (rmS τ 5 p) 5 = (rsC σ0 5).take p ++ ((rsC σ0 5).drop p).filter (fun v => decide (v.1 ∈ im)) := by
        rw [rmS_rs W (by omega) hp1, e, Int.toNat_natCast, erase_take len0, hdr, List.filter_cons_of_neg (by rw [decide_eq_true_eq]; exact hm)]
      obtain ⟨ρ, y1, y2, y3, y4, y5, y6⟩ := ih (rmS τ 5 p) (by omega) (rmS_wf W (by omega) hp1) (F.trans rmS_r.1) e'
      refine ⟨ρ, y1, y2, y3, y4.trans rmS_na, ?_, fun u Q => ?_⟩
      · rw [y5, rmS_r.2.1, if_neg (by omega)]
      · rw [hr', bI_f] at rs
        have rm := fun u Q => s_removeAt (sc := sc) (d := d - 1) (σ := τ) (u := u) (Q := Q) (r := 5) (p := (p : Int)) oHa_2.rows (by omega) hp1 W
        rw [x145_38]
        simp (disch := first | assumption | omega | exact notL_I | exact notL_N | exact notL_R | exact catS_le (Nat.le_of_ble_eq_true rfl) | exact Nat.le_of_ble_eq_true rfl | exact ooRo (by assumption) | exact ooAt (by assumption) | exact ooRu (by assumption) | exact ooLo (by assumption) | exact ooHa (by assumption) | exact ooLe (by assumption) | exact ooFn | exact ooAn | exact ooPa | exact ooTo | exact ooWa | exact ooCh | rfl) only [x145_0, x145_1, x145_4, x145_7, x145_8, x145_9, x145_11, x145_12, x145_15, x145_16, x145_19, x145_20, x145_21, x145_22, x145_25, x145_27, x145_29, x145_30, x145_33, x145_34, x145_35, x145_36, x145_40, x145_43, x145_44, x145_47, x145_49, x145_52, x145_55, x145_56, x145_59, x145_61, x145_64, x145_67, x145_72, x145_75, x145_77, x145_78, x145_81, x145_84, x145_85, gCh_coreLead, gHa_rows oHa_2, rs, rm, Kc_some, Kc_none, if_pos, if_neg, ↓reduceIte, not_true_eq_false, not_false_eq_true]
        exact y6 u Q
set_option maxHeartbeats 2000000 in
theorem l_shr {d : Nat} {σ : St} (hd : 4 ≤ d) (W : WfHa σ 2) (hs : srt (rsC σ 5)) (hok : ∀ w ∈ rsC σ 5, okW (coC σ 2) w) : ∀ (k i : Nat) (τ : St), i + k = (rsC σ 5).length → FlH 112 σ τ →
    ∃ ρ, FrS σ ρ ∧ WfRo ρ 5 ∧ rsC ρ 5 = (shrF (coC σ 2) (rsC σ 5) ((rsC σ 5).drop i)).2 ∧ naC ρ 5 = naC σ 5 ∧ ρ 5 1 = σ 5 1 ∧ ∀ (u : Bool × Nat × Nat × Int) (Q : Rs → HS → Prop) (l4 l5 : Option V), notL l4 = true → (Ex sc d 145 10 [some (vR 0), some (vR 2), some (vI (((rsC σ 5).length : Int))), some (vI ((i : Int))), l4, l5] [] (wH τ u) Q ↔ Q (.inl (some (vI ((shrF (coC σ 2) (rsC σ 5) ((rsC σ 5).drop i)).1)))) (wH ρ u)) := by
  have wr : 0 ≤ σ 5 0 ∧ σ 5 0 ≤ 40 := W.2.2.2.1.1
  have oL := oLe_112
  have oH := oHa_2
  have oR : oRo 5 := oHa_2.rows
  have len := rsC_len (σ := σ) (r := 5) wr.1
  intro k
  induction k with
  | zero =>
    intro i τ ik F
    have e : (rsC σ 5).drop i = [] := List.drop_eq_nil_of_le (by omega)
    have hc : ∀ c, 2 ≤ c → c < 2 + 84 → τ c = σ c := fun c c0 c1 => F c (by omega)
    rw [e]
    refine ⟨τ, fun c _ b => F c b, (W.c hc).2.2.2.1, rsC_c (fun c c0 c1 => hc c (by omega) (by omega)), by unfold naC; rw [hc _ (by omega) (by omega)], by rw [hc _ (by omega) (by omega)], fun u Q l4 l5 n4 => ?_⟩
    show _ ↔ Q (.inl (some (vI (0)))) (wH τ u)
    rw [x145_10]
    simp (disch := first | assumption | omega | exact notL_I | exact notL_N | exact notL_R | exact catS_le (Nat.le_of_ble_eq_true rfl) | exact Nat.le_of_ble_eq_true rfl | exact ooRo (by assumption) | exact ooAt (by assumption) | exact ooRu (by assumption) | exact ooLo (by assumption) | exact ooHa (by assumption) | exact ooLe (by assumption) | exact ooFn | exact ooAn | exact ooPa | exact ooTo | exact ooWa | exact ooCh | rfl) only [x145_0, x145_1, x145_4, x145_7, x145_8, x145_9, x145_11, x145_12, x145_15, x145_16, x145_19, x145_20, x145_21, x145_22, x145_25, x145_27, x145_29, x145_30, x145_33, x145_34, x145_35, x145_36, x145_40, x145_43, x145_44, x145_47, x145_49, x145_52, x145_55, x145_56, x145_59, x145_61, x145_64, x145_67, x145_72, x145_75, x145_77, x145_78, x145_81, x145_84, x145_85, if_pos, if_neg, ↓reduceIte, not_true_eq_false, not_false_eq_true]
  | succ k ih =>
    intro i τ ik F
    have hc : ∀ c, 2 ≤ c → c < 2 + 84 → τ c = σ c := fun c c0 c1 => F c (by omega)
    have W1 := W.c hc
    have er : rsC τ 5 = rsC σ 5 := rsC_c (fun c c0 c1 => hc c (by omega) (by omega))
    have ec : coC τ 2 = coC σ 2 := coC_c (hc _ (by omega) (by omega))
    have hi : i < (rsC σ 5).length := by omega
    have hdr : (rsC σ 5).drop i = (rsC σ 5)[i] :: (rsC σ 5).drop (i + 1) := List.drop_eq_getElem_cons hi
    have hgi : (rsC σ 5)[i]? = some (rsC σ 5)[i] := List.getElem?_eq_getElem hi
    obtain ⟨ρ, y1, y2, y3, y4⟩ := s_seek (sc := sc) (d := d - 1) (wo := (i : Int)) (σ := τ) (b1 := 2) (b2 := 2) oLe_112 oHa_2 oHa_2 (by omega) (by omega) (by omega) ⟨by omega, by omega⟩ W1 W1 (by
      intro w hw v hv ht hcc
      have er' : rsC τ (2 + 3) = rsC σ 5 := er
      rw [er'] at hw hv
      rw [ec] at hcc
      exact ok_lieT (hok w hw) (hok v hv) ht hcc)
    have er' : rsC τ (2 + 3) = rsC σ 5 := er
    have etg : tgC (i : Int) τ (2 + 3) 0 = (rsC σ 5).filter (fun v => decide (v.1 ≠ (rsC σ 5)[i].1)) := by
      have := tgC_filter (σ := τ) (r := 2 + 3) (wo := (i : Int)) (w := (rsC σ 5)[i]) (by rw [er']; exact hs) (by omega) (by rw [er', Int.toNat_natCast]; exact hgi)
      rw [this, er']
    rw [er', ec, etg] at y3 y4
    rw [er'] at y2
    have F2 : FlH 112 σ ρ := F.trans y1
    have hc2 : ∀ c, 2 ≤ c → c < 2 + 84 → ρ c = σ c := fun c c0 c1 => F2 c (by omega)
    rw [hdr, shrF]
    have f3 := lit_fresh (C1 := coC σ 2) (C2 := coC σ 2) (T := (rsC σ 5).filter (fun v => decide (v.1 ≠ (rsC σ 5)[i].1))) (rsC σ 5) bd0 0
    by_cases h0 : (leadF (coC σ 2) (coC σ 2) ((rsC σ 5).filter (fun v => decide (v.1 ≠ (rsC σ 5)[i].1))) (rsC σ 5) bd0 0).1 = 0
    · rw [if_pos h0]
      obtain ⟨ρ2, z1, z2, z3, z4, z5, z6⟩ := ih (i + 1) ρ (by omega) F2
      refine ⟨ρ2, z1, z2, z3, z4, z5, fun u Q l4 l5 n4 => ?_⟩
      have z7 := z6 u Q (some (vI 0)) l5 notL_I
      rw [h0] at y4
      have ei : (((i + 1 : Nat)) : Int) = (i : Int) + 1 := by omega
      rw [ei] at z7
      rw [x145_10]
      simp (disch := first | assumption | omega | exact notL_I | exact notL_N | exact notL_R | exact catS_le (Nat.le_of_ble_eq_true rfl) | exact Nat.le_of_ble_eq_true rfl | exact ooRo (by assumption) | exact ooAt (by assumption) | exact ooRu (by assumption) | exact ooLo (by assumption) | exact ooHa (by assumption) | exact ooLe (by assumption) | exact ooFn | exact ooAn | exact ooPa | exact ooTo | exact ooWa | exact ooCh | rfl) only [x145_0, x145_1, x145_4, x145_7, x145_8, x145_9, x145_11, x145_12, x145_15, x145_16, x145_19, x145_20, x145_21, x145_22, x145_25, x145_27, x145_29, x145_30, x145_33, x145_34, x145_35, x145_36, x145_40, x145_43, x145_44, x145_47, x145_49, x145_52, x145_55, x145_56, x145_59, x145_61, x145_64, x145_67, x145_70, x145_72, x145_75, x145_77, x145_78, x145_81, x145_84, x145_85, gCh_coreLead, y4 u, Kc_some, if_pos, if_neg, ↓reduceIte, not_true_eq_false, not_false_eq_true]
      exact z7
    · rw [if_neg h0]
      by_cases h1 : (leadF (coC σ 2) (coC σ 2) ((rsC σ 5).filter (fun v => decide (v.1 ≠ (rsC σ 5)[i].1))) (rsC σ 5) bd0 0).1 = 1
      · rw [if_pos h1]
        obtain ⟨-, q2, q3⟩ := y3 h1
        have er2 : rsC ρ 5 = rsC σ 5 := rsC_c (fun c c0 c1 => hc2 c (by omega) (by omega))
        have len2 := rsC_len (σ := ρ) (r := 5) (by rw [hc2 5 (by omega) (by omega)]; exact wr.1)
        have ew : ∀ p, rwC ρ 5 p = rwC τ 5 p := fun p => rwC_c (fun c c0 c1 => y1 c (by omega))
        have h5 : ρ 5 = τ 5 := y1 5 (by omega)
        obtain ⟨ρ2, z1, z2, z3, z4, z5, z6⟩ := l_rem (sc := sc) (d := d) (σ0 := ρ) (N := ((rsC σ 5).length : Int)) (im := (leadF (coC σ 2) (coC σ 2) ((rsC σ 5).filter (fun v => decide (v.1 ≠ (rsC σ 5)[i].1))) (rsC σ 5) bd0 0).2.2.2) (l3 := some (vI (i : Int))) (l4 := some (vI 1)) (n := ((rsC σ 5).length : Int)) (by omega) (by rw [hc2 5 (by omega) (by omega)]; exact wr.2) (by rw [er2]; exact hs) y2 (by omega) (by omega) (by omega) (fun j m hj => by
            have q := q3 j m hj
            rw [h5, ew]
            exact q) (rsC σ 5).length ρ (by rw [hc2 5 (by omega) (by omega)]; omega) ((W.c hc2).2.2.2.1) FrR.refl (by rw [er2, List.take_length, List.drop_length, List.filter_nil, List.append_nil])
        rw [er2] at z3
        refine ⟨ρ2, fun c a b => (z1 c (by omega)).trans (F2 c b), z2, z3, by rw [z4]; unfold naC; rw [hc2 _ (by omega) (by omega)], by rw [z5, hc2 5 (by omega) (by omega)], fun u Q l4 l5 n4 => ?_⟩
        rw [h1] at y4
        have z7 := z6 u Q
        show _ ↔ Q (.inl (some (vI (1)))) (wH ρ2 u)
        rw [x145_10]
        simp (disch := first | assumption | omega | exact notL_I | exact notL_N | exact notL_R | exact catS_le (Nat.le_of_ble_eq_true rfl) | exact Nat.le_of_ble_eq_true rfl | exact ooRo (by assumption) | exact ooAt (by assumption) | exact ooRu (by assumption) | exact ooLo (by assumption) | exact ooHa (by assumption) | exact ooLe (by assumption) | exact ooFn | exact ooAn | exact ooPa | exact ooTo | exact ooWa | exact ooCh | rfl) only [x145_0, x145_1, x145_4, x145_7, x145_8, x145_9, x145_11, x145_12, x145_15, x145_16, x145_19, x145_20, x145_21, x145_22, x145_25, x145_27, x145_29, x145_30, x145_33, x145_34, x145_35, x145_36, x145_40, x145_43, x145_44, x145_47, x145_49, x145_52, x145_55, x145_56, x145_59, x145_61, x145_64, x145_67, x145_72, x145_75, x145_77, x145_78, x145_81, x145_84, x145_85, gCh_coreLead, y4 u, Kc_some, if_pos, if_neg, ↓reduceIte, not_true_eq_false, not_false_eq_true]
        rw [z7, x145_70]
        simp (disch := first | assumption | omega | exact notL_I | exact notL_N | exact notL_R | exact catS_le (Nat.le_of_ble_eq_true rfl) | exact Nat.le_of_ble_eq_true rfl | exact ooRo (by assumption) | exact ooAt (by assumption) | exact ooRu (by assumption) | exact ooLo (by assumption) | exact ooHa (by assumption) | exact ooLe (by assumption) | exact ooFn | exact ooAn | exact ooPa | exact ooTo | exact ooWa | exact ooCh | rfl) only [x145_0, x145_1, x145_4, x145_7, x145_8, x145_9, x145_11, x145_12, x145_15, x145_16, x145_19, x145_20, x145_21, x145_22, x145_25, x145_27, x145_29, x145_30, x145_33, x145_34, x145_35, x145_36, x145_40, x145_43, x145_44, x145_47, x145_49, x145_52, x145_55, x145_56, x145_59, x145_61, x145_64, x145_67, x145_72, x145_75, x145_77, x145_78, x145_81, x145_84, x145_85, if_pos, if_neg, ↓reduceIte, not_true_eq_false, not_false_eq_true]
      · rw [if_neg h1]
        have h2 : (leadF (coC σ 2) (coC σ 2) ((rsC σ 5).filter (fun v => decide (v.1 ≠ (rsC σ 5)[i].1))) (rsC σ 5) bd0 0).1 = 2 := by omega
        refine ⟨ρ, fun c _ b => F2 c b, (W.c hc2).2.2.2.1, rsC_c (fun c c0 c1 => hc2 c (by omega) (by omega)), by unfold naC; rw [hc2 _ (by omega) (by omega)], by rw [hc2 _ (by omega) (by omega)], fun u Q l4 l5 n4 => ?_⟩
        rw [h2] at y4
        show _ ↔ Q (.inl (some (vI (2)))) (wH ρ u)
        rw [x145_10]
        simp (disch := first | assumption | omega | exact notL_I | exact notL_N | exact notL_R | exact catS_le (Nat.le_of_ble_eq_true rfl) | exact Nat.le_of_ble_eq_true rfl | exact ooRo (by assumption) | exact ooAt (by assumption) | exact ooRu (by assumption) | exact ooLo (by assumption) | exact ooHa (by assumption) | exact ooLe (by assumption) | exact ooFn | exact ooAn | exact ooPa | exact ooTo | exact ooWa | exact ooCh | rfl) only [x145_0, x145_1, x145_4, x145_7, x145_8, x145_9, x145_11, x145_12, x145_15, x145_16, x145_19, x145_20, x145_21, x145_22, x145_25, x145_27, x145_29, x145_30, x145_33, x145_34, x145_35, x145_36, x145_40, x145_43, x145_44, x145_47, x145_49, x145_52, x145_55, x145_56, x145_59, x145_61, x145_64, x145_67, x145_70, x145_72, x145_75, x145_77, x145_78, x145_81, x145_84, x145_85, gCh_coreLead, y4 u, Kc_some, if_pos, if_neg, ↓reduceIte, not_true_eq_false, not_false_eq_true]
theorem s_shrink {d : Nat} {σ : St} (hd : 4 ≤ d) (W : WfHa σ 2) (hs : srt (rsC σ 5)) (hok : ∀ w ∈ rsC σ 5, okW (coC σ 2) w) :
    ∃ ρ, FrS σ ρ ∧ WfRo ρ 5 ∧ rsC ρ 5 = (shrF (coC σ 2) (rsC σ 5) (rsC σ 5)).2 ∧ naC ρ 5 = naC σ 5 ∧ ρ 5 1 = σ 5 1 ∧ RnA sc d 145 0 [some (vR 0), some (vR 2), none, none, none, none] σ (some (vI (shrF (coC σ 2) (rsC σ 5) (rsC σ 5)).1)) ρ := by
  have wr : 0 ≤ σ 5 0 ∧ σ 5 0 ≤ 40 := W.2.2.2.1.1
  have oL := oLe_112
  have oH := oHa_2
  have oR : oRo 5 := oHa_2.rows
  have len := rsC_len (σ := σ) (r := 5) wr.1
  obtain ⟨ρ, z1, z2, z3, z4, z5, z6⟩ := l_shr (sc := sc) (d := d) hd W hs hok (rsC σ 5).length 0 σ (by omega) (fun _ _ => rfl)
  rw [List.drop_zero] at z3 z6
  refine ⟨ρ, z1, z2, z3, z4, z5, fun u Q => ?_⟩
  have z7 := z6 u Q none none notL_N
  rw [Int.natCast_zero] at z7
  rw [← z7]
  have e0 : σ 5 0 = ((rsC σ 5).length : Int) := len.symm
  simp (disch := first | assumption | omega | exact notL_I | exact notL_N | exact notL_R | exact catS_le (Nat.le_of_ble_eq_true rfl) | exact Nat.le_of_ble_eq_true rfl | exact ooRo (by assumption) | exact ooAt (by assumption) | exact ooRu (by assumption) | exact ooLo (by assumption) | exact ooHa (by assumption) | exact ooLe (by assumption) | exact ooFn | exact ooAn | exact ooPa | exact ooTo | exact ooWa | exact ooCh | rfl) only [x145_0, x145_1, x145_4, x145_7, x145_8, x145_9, x145_11, x145_12, x145_15, x145_16, x145_19, x145_20, x145_21, x145_22, x145_25, x145_27, x145_29, x145_30, x145_33, x145_34, x145_35, x145_36, x145_38, x145_40, x145_43, x145_44, x145_47, x145_49, x145_52, x145_55, x145_56, x145_59, x145_61, x145_64, x145_67, x145_70, x145_72, x145_75, x145_77, x145_78, x145_81, x145_84, x145_85, gHa_rows oHa_2, gRo_count oHa_2.rows, e0]
end K1
