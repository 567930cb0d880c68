/-! runs of the class: a step -/
section N3
variable {σ τ : St} {b : Nat}
theorem FrH.hd (F : FrH b σ τ) (o : oHa b) : ∀ c, (b ≤ c ∧ c < b + 3) ∨ (b + 14 ≤ c ∧ c < b + 84) → τ c = σ c := fun c hc => F c (by have := oHa_far o; omega) (by omega)
theorem WfHa.run (o : oHa b) (W : WfHa σ b) (F : FrH b σ τ) (r : WfRo τ (b + 3)) (l : WfLo τ (b + 8)) (p : WfAt τ (b + 11)) : WfHa τ b := by
  have h := F.hd o
  obtain ⟨w0, w1, w2, w3, w4, w5, w6⟩ := W
  exact ⟨by rw [h b (by omega)]; exact w0, by rw [h b (by omega)]; exact w1, by rw [h (b + 1) (by omega)]; exact w2, r, l, p, fun k hk => (w6 k hk).c (fun c c0 c1 => h c (by omega))⟩
theorem FrH.ru (F : FrH b σ τ) (o : oHa b) {k : Nat} (hk : k ≤ 9) : ruC τ (b + 14 + 7 * k) = ruC σ (b + 14 + 7 * k) := ruC_c (fun c c0 c1 => F.hd o c (by omega))
theorem FrH.rl (F : FrH b σ τ) (o : oHa b) (W : WfHa σ b) : rlC τ b = rlC σ b := by
  have := W.2.1
  unfold rlC
  rw [F.hd o b (by omega)]
  exact rkF_c _ _ (fun j j0 j1 => F.ru o (by omega))
theorem FrH.co (F : FrH b σ τ) (o : oHa b) : coC τ b = coC σ b := by
  unfold coC
  rw [F.hd o (b + 1) (by omega)]
theorem rnC_c (h : ∀ c, b + 3 ≤ c → c ≤ b + 10 → τ c = σ c) : rnC τ b = rnC σ b := by
  unfold rnC naC byC
  rw [rsC_c (r := b + 3) (fun c c0 c1 => h c (by omega) (by omega)), h (b + 3) (by omega) (by omega), h (b + 3 + 4) (by omega) (by omega), stC_c (l := b + 8) (fun c c0 c1 => h c (by omega) (by omega)), h (b + 8 + 2) (by omega) (by omega)]
theorem opI.app {τ τ' : St} {L M q : List Rw} (h : opI τ L (some q)) (e : τ' 106 = τ 106) : opI τ' (L ++ M) (some q) := by
  intro q' hq j w hj
  rw [e]
  obtain ⟨a, c⟩ := h q' hq j w hj
  refine ⟨a, ?_⟩
  rw [List.getElem?_append_left (List.getElem?_eq_some_iff.mp c).1]
  exact c
end N3
section N3b
variable {sc : Scr}
theorem s_makeRows {b d n : Nat} {σ : St} {x : Int} {q : List Rw} {β : Bd} {C : Int → Int} (o : oHa b) (hd : 4 ≤ d) (W : WfHa σ b) (x0 : 0 ≤ x) (x1 : x ≤ 9) (T : TrF σ n) (eβ : bF σ n = β) (hβ : okB β) (hs : okS C (rnC σ b)) (hr : okRl C (ruC σ (b + 14 + 7 * x.toNat))) (hl : σ (b + 8) 1 < 100) (hp : opI σ (rsC σ (b + 3)) (some q)) (hq : (q.length : Int) = σ (b + 14 + 7 * x.toNat + 1) 0) :
    ∃ τ k, FrH b σ τ ∧ WfHa τ b ∧ (rnC τ b, k) = makeA x (ruC σ (b + 14 + 7 * x.toNat)) q β (rnC σ b) ∧ τ (b + 8) 0 = σ (b + 8) 0 ∧ RnA sc d 109 0 [some (vR b), some (vR 101), some (vI x), none, none] σ (some (vI k)) τ := by
  have hfar := oHa_far o
  have or := o.rows
  have ol := o.log
  have op := o.planned
  have ou := o.ru (k := x.toNat) (by omega)
  have oa := ou.behind
  obtain ⟨w0, w1, w2, w3, w4, w5, w6⟩ := W
  have Wu := w6 x.toNat (by omega)
  have Wb := Wu.2.2.2.2
  have wb0 := Wb.1
  have wa0 := Wu.2.2.2.1.1
  have wr := w3.1
  have wr1 := w3.2.1
  have lr := rsC_len (σ := σ) (r := b + 3) wr.1
  have W : WfHa σ b := ⟨w0, w1, w2, w3, w4, w5, w6⟩
  have eR : (ruC σ (b + 14 + 7 * x.toNat)).2.2.1 = asC σ (b + 14 + 7 * x.toNat + 4) := rfl
  unfold makeA
  rw [eR]
  show ∃ τ k, FrH b σ τ ∧ WfHa τ b ∧ (rnC τ b, k) = (match nameA (naC σ (b + 3)) (plcL (asC σ (b + 14 + 7 * x.toNat + 4))) 0 β with | none => _ | some β' => _) ∧ _
  rcases s_nameNew (sc := sc) (d := d - 1) oa or (by omega) Wb w3 T with ⟨β', τ1, n1, e1, F1, T1, b1, r1⟩ | ⟨e1, τ1, F1, r1⟩
  · rw [eβ] at e1
    rw [e1]
    dsimp only
    obtain ⟨hb1, hb2, hb3⟩ := nameA_ok _ _ _ _ hβ (by omega) e1
    have F1o : ∀ c, c < 101 ∨ 103 < c → τ1 c = σ c := fun c hc => F1.1 c (by omega) (by omega) (by omega)
    -- the plan is empty
    have eas : asC (su τ1 (b + 11) 0 0) (b + 11) = [] := by unfold asC; rw [su_eq]; rfl
    have Wp2 : WfAt (su τ1 (b + 11) 0 0) (b + 11) := by
      refine ⟨by rw [su_eq]; omega, ?_, ?_⟩
      · rw [su_ne (by omega), F1o _ (by omega)]; exact w5.2.1
      · rw [su_ne (by omega), F1o _ (by omega)]; exact w5.2.2
    have F2 : FrB (b + 11) 3 τ1 (su τ1 (b + 11) 0 0) := fun c hc => su_ne (by omega)
    have T2 : TrF (su τ1 (b + 11) 0 0) n1 := T1.c (by rw [su_ne (by omega)]) (su_ne (by omega)) (su_ne (by omega))
    have Wa1 : WfAt τ1 (b + 14 + 7 * x.toNat + 4) := F1.wa oa Wb
    have Wr1 : WfRo τ1 (b + 3) := F1.wr or w3
    have ac1 : τ1 (b + 14 + 7 * x.toNat + 4) 0 = σ (b + 14 + 7 * x.toNat + 4) 0 := by rw [(F1.at_ oa).1]
    obtain ⟨τ3, F3, Wp3, eP, r3⟩ := l_plan (sc := sc) (d := d) (β := β') (L := rsC σ (b + 3)) (l2 := some (vI x)) o oa (by omega) (by omega) Wa1 Wr1 (F1.rs or) hb1 (σ (b + 14 + 7 * x.toNat + 4) 0).toNat 0 (su τ1 (b + 11) 0 0) [] (by omega) (by rw [ac1]; omega) F2 Wp2 T2 (by rw [bF_c (su_ne (by omega)) (su_ne (by omega))]; exact b1) eas (by simp)
    have eas1 : akF τ1 (b + 14 + 7 * x.toNat + 4) (σ (b + 14 + 7 * x.toNat + 4) 0).toNat 0 = asC σ (b + 14 + 7 * x.toNat + 4) := by
      unfold asC
      exact akF_ext _ _ (fun j _ _ => by unfold atK; rw [(F1.at_ oa).2.1, (F1.at_ oa).2.2])
    rw [eas1] at eP
    have eP' : planF (rnC σ b).1 ((asC σ (b + 14 + 7 * x.toNat + 4)).map (grA β')) [] = asC τ3 (b + 11) := eP.symm
    rw [eP']
    have lp := asC_len (σ := τ3) (r := b + 11) Wp3.1.1
    have F13 : ∀ c, (c < 101 ∨ 103 < c) → (c < b + 11 ∨ b + 13 < c) → τ3 c = σ c := fun c h1 h2 => by rw [F3 c (by omega), F1o c h1]
    have FH3 : FrH b σ τ3 := fun c h1 h2 => F13 c (by omega) (by omega)
    have Wr3 : WfRo τ3 (b + 3) := w3.c (fun c c0 c1 => F13 c (by omega) (by omega))
    have Wl3 : WfLo τ3 (b + 8) := w4.c (fun c c0 c1 => F13 c (by omega) (by omega))
    have er3 : rnC τ3 b = rnC σ b := rnC_c (fun c c0 c1 => F13 c (by omega) (by omega))
    have c30 : τ3 (b + 3) 0 = σ (b + 3) 0 := by rw [F13 _ (by omega) (by omega)]
    have c31 : τ3 (b + 3) 1 = σ (b + 3) 1 := by rw [F13 _ (by omega) (by omega)]
    have hnx : (rnC σ b).2.1 = σ (b + 3) 1 := rfl
    have hrw : (rnC σ b).1 = rsC σ (b + 3) := rfl
    rw [hnx, hrw]
    have start : ∀ (u : Bool × Nat × Nat × Int) (Q : Rs → HS → Prop), Ex sc d 109 0 [some (vR b), some (vR 101), some (vI x), none, none] [] (wH σ u) Q ↔ Ex sc d 109 57 [some (vR b), some (vR 101), some (vI x), some (vR ((b + 14 + 7 * x.toNat + 4))), some (vI (τ1 (b + 14 + 7 * x.toNat + 4) 0))] [] (wH τ3 u) Q := by
      intro u Q
      refine Iff.trans ?_ (r3 u Q)
      simp (disch := first | assumption | omega | exact notL_I | exact notL_N | exact notL_R | exact catS_le (Nat.le_of_ble_eq_true rfl) | exact Nat.le_of_ble_eq_true rfl | exact ooRo (by assumption) | exact ooAt (by assumption) | exact ooRu (by assumption) | exact ooLo (by assumption) | exact ooHa (by assumption) | exact ooLe (by assumption) | exact ooFn | exact ooAn | exact ooPa | exact ooTo | exact ooWa | exact ooCh | rfl) only [x109_0, x109_1, x109_4, x109_5, x109_6, x109_9, x109_10, x109_11, x109_12, x109_13, x109_16, x109_19, x109_22, x109_23, x109_24, x109_25, x109_28, x109_31, x109_32, x109_36, x109_37, x109_40, x109_43, x109_44, x109_45, x109_46, x109_48, x109_51, x109_54, x109_58, x109_61, x109_62, x109_65, x109_68, x109_71, x109_74, x109_75, x109_76, x109_77, x109_81, x109_82, x109_85, x109_88, x109_91, x109_92, x109_95, x109_96, x109_99, x109_100, x109_103, x109_106, x109_108, x109_109, x109_110, x109_113, x109_115, x109_116, x109_119, x109_120, x109_123, x109_125, x109_126, x109_129, x109_130, x109_133, x109_135, x109_136, x109_139, x109_142, x109_145, x109_148, x109_152, x109_153, x109_154, x109_155, x109_158, x109_161, x109_162, x109_163, x109_166, x109_167, gHa_rules, gHa_rows, gHa_planned, Rr_rules, gRu_behind, r1 u, Kc_some, Kc_none, s_clrA, if_pos, if_neg, ↓reduceIte, not_true_eq_false, not_false_eq_true]
    by_cases hroom : 40 < (rsC σ (b + 3)).length + (asC τ3 (b + 11)).length ∨ 200 < σ (b + 3) 1 + (asC τ3 (b + 11)).length
    · rw [if_pos hroom]
      have hno : ¬ (τ3 (b + 3) 0 + τ3 (b + 11) 0 ≤ 40 ∧ τ3 (b + 3) 1 + τ3 (b + 11) 0 ≤ 200) := by rw [c30, c31]; omega
      refine ⟨τ3, 3, FH3, WfHa.run o W FH3 Wr3 Wl3 Wp3, by rw [er3], by rw [F13 _ (by omega) (by omega)], fun u Q => (start u Q).trans ?_⟩
      have wp3 := Wp3.1
      simp (disch := first | assumption | omega | exact notL_I | exact notL_N | exact notL_R | exact catS_le (Nat.le_of_ble_eq_true rfl) | exact Nat.le_of_ble_eq_true rfl | exact ooRo (by assumption) | exact ooAt (by assumption) | exact ooRu (by assumption) | exact ooLo (by assumption) | exact ooHa (by assumption) | exact ooLe (by assumption) | exact ooFn | exact ooAn | exact ooPa | exact ooTo | exact ooWa | exact ooCh | rfl) only [x109_0, x109_1, x109_4, x109_5, x109_6, x109_9, x109_10, x109_11, x109_12, x109_13, x109_16, x109_19, x109_22, x109_23, x109_24, x109_25, x109_28, x109_31, x109_32, x109_36, x109_37, x109_40, x109_43, x109_44, x109_45, x109_46, x109_48, x109_51, x109_54, x109_57, x109_58, x109_61, x109_62, x109_65, x109_68, x109_71, x109_74, x109_75, x109_76, x109_77, x109_81, x109_82, x109_85, x109_88, x109_91, x109_92, x109_95, x109_96, x109_99, x109_100, x109_103, x109_106, x109_108, x109_109, x109_110, x109_113, x109_115, x109_116, x109_119, x109_120, x109_123, x109_125, x109_126, x109_129, x109_130, x109_133, x109_135, x109_136, x109_139, x109_142, x109_145, x109_148, x109_152, x109_153, x109_154, x109_155, x109_158, x109_161, x109_162, x109_163, x109_166, x109_167, gHa_rows, gHa_planned, gAt_count, s_room, if_neg hno, Kc_some, if_pos, if_neg, ↓reduceIte, not_true_eq_false, not_false_eq_true]
    · rw [if_neg hroom]
      have hyes : τ3 (b + 3) 0 + τ3 (b + 11) 0 ≤ 40 ∧ τ3 (b + 3) 1 + τ3 (b + 11) 0 ≤ 200 := by rw [c30, c31]; omega
      have wp3 := Wp3.1
      have hterm : ∀ g ∈ asC τ3 (b + 11), g.2.1 ≤ 1099 ∧ g.2.2.1 ≤ 1099 ∧ g.2.2.2 ≤ 1099 := by
        intro g hg
        rw [← eP'] at hg
        have hg2 : g ∈ (asC σ (b + 14 + 7 * x.toNat + 4)).map (grA β') := by
          rcases planF_mem _ _ _ hg with z | z
          · cases z
          · exact z
        obtain ⟨a, ha, rfl⟩ := List.mem_map.mp hg2
        have hok := grA_ok (hr.2.2.1 a ha) hb1 (fun p hpp hp2 => hb3 p (by
          unfold plcL
          rw [List.mem_flatMap]
          refine ⟨a, ha, ?_⟩
          rcases hpp with rfl | rfl | rfl <;> simp) hp2)
        obtain ⟨_, _, _, X, Y, Z, hX, hY, hZ, e⟩ := hok
        rw [e, nrm_1, nrm_2, nrm_3]
        have := isTm_in hX
        have := isTm_in hY
        have := isTm_in hZ
        refine ⟨by omega, ?_, ?_⟩
        · split <;> omega
        · split <;> omega
      obtain ⟨τ4, F4, e48, e49, Wr4, Wl4, q5, q6, q7, q8, r4⟩ := l_addP (sc := sc) (d := d) (l2 := some (vI x)) (l3 := some (vR (b + 14 + 7 * x.toNat + 4))) o (by omega) (τ3 (b + 11) 0).toNat 0 τ3 (by omega) (by omega) Wp3 Wr3 Wl3 (by omega) (by omega) hterm
      have eak : akF τ3 (b + 11) (τ3 (b + 11) 0).toNat 0 = asC τ3 (b + 11) := rfl
      rw [eak] at q5 q7
      have hrs3 : rsC τ3 (b + 3) = rsC σ (b + 3) := congrArg Prod.fst er3
      have hna3 : naC τ3 (b + 3) = naC σ (b + 3) := congrArg (fun z => z.2.2.1) er3
      have hst3 : stC τ3 (b + 8) = stC σ (b + 8) := congrArg (fun z => z.2.2.2.1) er3
      have hby3 : byC τ3 (b + 8) = byC σ (b + 8) := congrArg (fun z => z.2.2.2.2) er3
      have F4o : ∀ c, c < b + 3 ∨ b + 11 ≤ c → τ4 c = τ3 c := fun c hc => F4 c (by omega)
      have hp4 : opI τ4 (rsC τ4 (b + 3)) (some q) := by
        rw [q5, hrs3, c31]
        obtain ⟨M, em, _, _⟩ := addL_eq (asC τ3 (b + 11)) (rsC σ (b + 3)) (σ (b + 3) 1)
        rw [em]
        exact hp.app (by rw [F4o 106 (by omega), F13 106 (by omega) (by omega)])
      have cl4 : τ4 (b + 8) 1 = σ (b + 8) 1 := by rw [e48, F13 _ (by omega) (by omega)]
      have hq4 : (q.length : Int) = τ4 (b + 14 + 7 * x.toNat + 1) 0 := by rw [F4o _ (by omega), F13 _ (by omega) (by omega)]; exact hq
      obtain ⟨τ5, F5, Wl5, l50, l51, st5, r5⟩ := s_noteH (sc := sc) (d := d - 1) (x := x) (m := τ3 (b + 11) 0) (w := -1) (v := -1) (q := q) o (by omega) x0 x1 Wr4 Wl4 (by rw [cl4]; exact hl) hp4 hq4 (by omega) ⟨by omega, by omega⟩ ⟨by omega, by omega⟩ ⟨by omega, by omega⟩
      have F5o : ∀ c, c < b + 8 ∨ b + 10 ≤ c → τ5 c = τ4 c := fun c hc => F5 c (by omega)
      have FH5 : FrH b σ τ5 := FH3.trans ((F4.fh (n := 3) (by omega) (by omega)).trans (F5.fh (n := 8) (by omega) (by omega)))
      have Wr5 : WfRo τ5 (b + 3) := Wr4.c (fun c c0 c1 => F5o c (by omega))
      have Wp5 : WfAt τ5 (b + 11) := Wp3.c (by rw [F5o _ (by omega), F4o _ (by omega)]) (by rw [F5o _ (by omega), F4o _ (by omega)]) (by rw [F5o _ (by omega), F4o _ (by omega)])
      refine ⟨τ5, 0, FH5, WfHa.run o W FH5 Wr5 Wl5 Wp5, ?_, by rw [l50, e48, F13 _ (by omega) (by omega)], fun u Q => (start u Q).trans ?_⟩
      · have g1 : rsC τ5 (b + 3) = addL (rsC σ (b + 3)) (σ (b + 3) 1) (asC τ3 (b + 11)) := by rw [rsC_c (σ := τ4) (fun c c0 c1 => F5o c (by omega)), q5, hrs3, c31]
        have g2 : τ5 (b + 3) 1 = σ (b + 3) 1 + (asC τ3 (b + 11)).length := by rw [F5o _ (by omega), q6, c31]; omega
        have g3 : naC τ5 (b + 3) = mksU (naC σ (b + 3)) (asC τ3 (b + 11)) := by
          have : naC τ5 (b + 3) = naC τ4 (b + 3) := by unfold naC; rw [F5o _ (by omega)]
          rw [this, q7, hna3]
        have g4 : stC τ5 (b + 8) = stC σ (b + 8) ++ [stpL x (asC τ3 (b + 11)).length q (-1) (-1)] := by
          have : stC τ4 (b + 8) = stC τ3 (b + 8) := stC_c (fun c c0 c1 => by
            rcases (show c = b + 8 ∨ c = b + 8 + 1 by omega) with rfl | rfl
            · exact e48
            · exact e49)
          rw [st5, this, hst3, lp]
        have g5 : byC τ5 (b + 8) = byF (byC σ (b + 8)) (σ (b + 3) 1) (asC τ3 (b + 11)).length (stC σ (b + 8)).length := by
          have : byC τ5 (b + 8) = byC τ4 (b + 8) := by unfold byC; rw [F5o _ (by omega)]
          have ls := stC_len (σ := σ) (l := b + 8) w4.2.1.1
          rw [this, q8, hby3, c31, show τ3 (b + 8) 1 = σ (b + 8) 1 by rw [F13 _ (by omega) (by omega)], ls]
          congr 1
          omega
        show ((rsC τ5 (b + 3), τ5 (b + 3) 1, naC τ5 (b + 3), stC τ5 (b + 8), byC τ5 (b + 8)), (0 : Int)) = _
        rw [g1, g2, g3, g4, g5]
        rfl
      · have r4' := r4 u Q
        have e11 : τ4 (b + 11) 0 = τ3 (b + 11) 0 := by rw [F4o _ (by omega)]
        refine Iff.trans ?_ (Iff.trans r4' ?_)
        · simp (disch := first | assumption | omega | exact notL_I | exact notL_N | exact notL_R | exact catS_le (Nat.le_of_ble_eq_true rfl) | exact Nat.le_of_ble_eq_true rfl | exact ooRo (by assumption) | exact ooAt (by assumption) | exact ooRu (by assumption) | exact ooLo (by assumption) | exact ooHa (by assumption) | exact ooLe (by assumption) | exact ooFn | exact ooAn | exact ooPa | exact ooTo | exact ooWa | exact ooCh | rfl) only [x109_0, x109_1, x109_4, x109_5, x109_6, x109_9, x109_10, x109_11, x109_12, x109_13, x109_16, x109_19, x109_22, x109_23, x109_24, x109_25, x109_28, x109_31, x109_32, x109_36, x109_37, x109_40, x109_43, x109_44, x109_45, x109_46, x109_48, x109_51, x109_54, x109_57, x109_58, x109_61, x109_62, x109_65, x109_68, x109_71, x109_74, x109_75, x109_76, x109_77, x109_81, x109_82, x109_85, x109_88, x109_91, x109_92, x109_95, x109_96, x109_99, x109_100, x109_103, x109_106, x109_108, x109_109, x109_110, x109_113, x109_115, x109_116, x109_119, x109_120, x109_123, x109_125, x109_126, x109_129, x109_130, x109_133, x109_135, x109_136, x109_139, x109_142, x109_145, x109_148, x109_152, x109_153, x109_154, x109_155, x109_158, x109_161, x109_162, x109_163, x109_166, x109_167, gHa_rows, gHa_planned, gAt_count, s_room, if_pos hyes, Kc_some, if_pos, if_neg, ↓reduceIte, not_true_eq_false, not_false_eq_true]
        · simp (disch := first | assumption | omega | exact notL_I | exact notL_N | exact notL_R | exact catS_le (Nat.le_of_ble_eq_true rfl) | exact Nat.le_of_ble_eq_true rfl | exact ooRo (by assumption) | exact ooAt (by assumption) | exact ooRu (by assumption) | exact ooLo (by assumption) | exact ooHa (by assumption) | exact ooLe (by assumption) | exact ooFn | exact ooAn | exact ooPa | exact ooTo | exact ooWa | exact ooCh | rfl) only [x109_0, x109_1, x109_4, x109_5, x109_6, x109_9, x109_10, x109_11, x109_12, x109_13, x109_16, x109_19, x109_22, x109_23, x109_24, x109_25, x109_28, x109_31, x109_32, x109_36, x109_37, x109_40, x109_43, x109_44, x109_45, x109_46, x109_48, x109_51, x109_54, x109_57, x109_58, x109_61, x109_62, x109_65, x109_68, x109_71, x109_74, x109_75, x109_76, x109_77, x109_81, x109_82, x109_85, x109_88, x109_91, x109_92, x109_95, x109_96, x109_99, x109_100, x109_103, x109_106, x109_108, x109_109, x109_110, x109_113, x109_115, x109_116, x109_119, x109_120, x109_123, x109_125, x109_126, x109_129, x109_130, x109_133, x109_135, x109_136, x109_139, x109_142, x109_145, x109_148, x109_151, x109_152, x109_153, x109_154, x109_155, x109_158, x109_161, x109_162, x109_163, x109_166, x109_167, gHa_planned, gAt_count, e11, r5 u, Kc_none]
  · rw [eβ] at e1
    rw [e1]
    have FH : FrH b σ τ1 := F1.fh
    refine ⟨τ1, 3, FH, WfHa.run o W FH (F1.wr or w3) (w4.c (fun c c0 c1 => F1.1 c (by omega) (by omega) (by omega))) (F1.wa op w5), by rw [rnC_c (fun c c0 c1 => F1.1 c (by omega) (by omega) (by omega))], by rw [F1.1 _ (by omega) (by omega) (by omega)], fun u Q => ?_⟩
    simp (disch := first | assumption | omega | exact notL_I | exact notL_N | exact notL_R | exact catS_le (Nat.le_of_ble_eq_true rfl) | exact Nat.le_of_ble_eq_true rfl | exact ooRo (by assumption) | exact ooAt (by assumption) | exact ooRu (by assumption) | exact ooLo (by assumption) | exact ooHa (by assumption) | exact ooLe (by assumption) | exact ooFn | exact ooAn | exact ooPa | exact ooTo | exact ooWa | exact ooCh | rfl) only [x109_0, x109_1, x109_4, x109_5, x109_6, x109_9, x109_10, x109_11, x109_12, x109_13, x109_16, x109_19, x109_22, x109_23, x109_24, x109_25, x109_28, x109_31, x109_32, x109_36, x109_37, x109_40, x109_43, x109_44, x109_45, x109_46, x109_48, x109_51, x109_54, x109_58, x109_61, x109_62, x109_65, x109_68, x109_71, x109_74, x109_75, x109_76, x109_77, x109_81, x109_82, x109_85, x109_88, x109_91, x109_92, x109_95, x109_96, x109_99, x109_100, x109_103, x109_106, x109_108, x109_109, x109_110, x109_113, x109_115, x109_116, x109_119, x109_120, x109_123, x109_125, x109_126, x109_129, x109_130, x109_133, x109_135, x109_136, x109_139, x109_142, x109_145, x109_148, x109_152, x109_153, x109_154, x109_155, x109_158, x109_161, x109_162, x109_163, x109_166, x109_167, gHa_rules, gHa_rows, Rr_rules, gRu_behind, r1 u, Kc_some, if_pos, if_neg, ↓reduceIte, not_true_eq_false, not_false_eq_true]
end N3b
