/-! the class reads: atoms -/
/-- what changes while a piece at b is read -/
def FzB (b m : Nat) (σ τ : St) : Prop := (∀ c, c ≠ 87 → c ≠ 89 → c ≠ 93 → (c < b ∨ b + m ≤ c) → τ c = σ c) ∧ ∀ j, j ≠ 0 → j ≠ 1 → τ 87 j = σ 87 j
def far (b m : Nat) : Prop := b + m ≤ 86 ∨ 94 ≤ b
theorem FzB.refl {b m : Nat} {σ : St} : FzB b m σ σ := ⟨fun _ _ _ _ _ => rfl, fun _ _ _ => rfl⟩
theorem FzB.trans {b m : Nat} {σ τ ρ : St} (h1 : FzB b m σ τ) (h2 : FzB b m τ ρ) : FzB b m σ ρ := ⟨fun c a b e z => (h2.1 c a b e z).trans (h1.1 c a b e z), fun j a b => (h2.2 j a b).trans (h1.2 j a b)⟩
theorem Fzc.b {b m : Nat} {σ τ : St} (h : Fzc σ τ) : FzB b m σ τ := ⟨fun c a b e _ => h.1 c a b e, h.2⟩
theorem FrB.z {b m : Nat} {σ τ : St} (h : FrB b m σ τ) (hf : far b m) : FzB b m σ τ := ⟨fun c _ _ _ e => h c e, fun j _ _ => by rw [h 87 (by unfold far at hf; omega)]⟩
theorem FzB.sub {b m b' m' : Nat} {σ τ : St} (h : FzB b' m' σ τ) (h1 : b ≤ b') (h2 : b' + m' ≤ b + m) : FzB b m σ τ := ⟨fun c a b e z => h.1 c a b e (by omega), h.2⟩
theorem PzC.frB {f : Int → Int} {n : Int} {s : Ps} {σ τ : St} {b m : Nat} (H : PzC f n s σ) (h : FrB b m σ τ) (hf : far b m) : PzC f n s τ := by
  unfold far at hf
  exact H.fr (h 89 (by omega)) (h 90 (by omega)) (h 91 (by omega)) (h 92 (by omega)) (by rw [h 87 (by omega)]) (by rw [h 87 (by omega)])
theorem Fzc.cl {σ τ : St} (h : Fzc σ τ) {b m : Nat} (hf : far b m) : ∀ c, b ≤ c → c < b + m → τ c = σ c := fun c a e => h.1 c (by unfold far at hf; omega) (by unfold far at hf; omega) (by unfold far at hf; omega)
theorem WfAt.eq {σ τ : St} {a : Nat} (W : WfAt σ a) (h : ∀ c, a ≤ c → c < a + 3 → τ c = σ c) : WfAt τ a ∧ asC τ a = asC σ a := by
  have e0 := h a (by omega) (by omega)
  have e1 := h (a + 1) (by omega) (by omega)
  have e2 := h (a + 2) (by omega) (by omega)
  have ek : ∀ i, atK τ a i = atK σ a i := fun i => by unfold atK; rw [e1, e2]
  have ea : ∀ (k : Nat) (i : Int), akF τ a k i = akF σ a k i := by
    intro k
    induction k with
    | zero => intro i; rfl
    | succ k ih => intro i; rw [akF, akF, ek, ih]
  constructor
  · unfold WfAt
    rw [e0, e1, e2]
    exact W
  · unfold asC
    rw [e0, ea]
theorem coC_eq {σ τ : St} {b : Nat} (h : τ (b + 1) = σ (b + 1)) : coC τ b = coC σ b := by unfold coC; rw [h]
theorem ok_atm {C : Int → Int} {t : Int} {l : List Int} (t0 : 0 ≤ t) (t1 : t ≤ 25) (m1 : 0 < C t) (m3 : C t ≤ 3) (hl : (l.length : Int) = C t) (h : ∀ c ∈ l, okC false c) : okA C (atL t l) ∧ (-1 ≤ l.getD 0 (-1) ∧ l.getD 0 (-1) ≤ 2025) ∧ (-1 ≤ l.getD 1 (-1) ∧ l.getD 1 (-1) ≤ 2025) ∧ (-1 ≤ l.getD 2 (-1) ∧ l.getD 2 (-1) ≤ 2025) := by
  have pl : ∀ i : Nat, isPl (l.getD i 0) := by
    intro i
    rw [List.getD_eq_getElem?_getD]
    cases e : l[i]? with
    | none => exact Or.inl ⟨by show (0 : Int) ≤ 0; decide, by show (0 : Int) ≤ 99; decide⟩
    | some c =>
      have := h c (List.mem_of_getElem? e)
      unfold okC at this
      rw [if_neg (by simp)] at this
      exact this
  have bd : ∀ i : Nat, -1 ≤ l.getD i (-1) ∧ l.getD i (-1) ≤ 2025 := by
    intro i
    rw [List.getD_eq_getElem?_getD]
    cases e : l[i]? with
    | none => exact ⟨by show (-1 : Int) ≤ -1; decide, by show (-1 : Int) ≤ 2025; decide⟩
    | some c =>
      have := h c (List.mem_of_getElem? e)
      unfold okC at this
      rw [if_neg (by simp)] at this
      have := isPl_in this
      exact ⟨by show -1 ≤ c; omega, this.2⟩
  refine ⟨⟨t0, t1, by show 1 ≤ C t; omega, l.getD 0 0, l.getD 1 0, l.getD 2 0, pl 0, pl 1, pl 2, ?_⟩, bd 0, bd 1, bd 2⟩
  have := atL_nrm (t := t) (f := fun i => l.getD i.toNat 0) hl (by omega) m3 (fun i _ => by rw [Int.toNat_natCast])
  rw [this]
  rfl
section H4
variable {sc : Scr} {d : Nat} {f : Int → Int} {n : Int} {a b : Nat} {C : Int → Int}
theorem s_sgnP {σ : St} {s : Ps} {k c : Int} (hd : 2 ≤ d) (H : PzC f n s σ) (hk : kdT s.1 = k ↔ s.1 = 500 + c) (k0 : 0 ≤ k ∧ k ≤ 15) :
    (needP (nxT f n) c s = .inr (nxT f n s.2.2) ∧ ∃ τ, (∀ c, c ≠ 89 → τ c = σ c) ∧ PzC f n (nxT f n s.2.2) τ ∧ RnA sc d 48 0 [some (vR 87), some (vI k)] σ (some (vI 1)) τ) ∨ (needP (nxT f n) c s = .inl (1, s.2.1) ∧ RnA sc d 48 0 [some (vR 87), some (vI k)] σ (some (vI 0)) (rfS σ 1 s.2.1)) := by
  unfold needP
  rcases s_sign (sc := sc) (d := d) hd H hk k0 with ⟨h, z⟩ | ⟨h, z⟩
  · exact Or.inl ⟨if_pos h, z⟩
  · exact Or.inr ⟨if_neg h, z⟩
set_option maxHeartbeats 1000000 in
theorem l_atoms {most : Nat} (hd : 4 ≤ d) (oa : oAt a) (ob : oHa b) (fa : far a 3) (fb : far (b + 1) 1) (fab : b + 1 < a ∨ a + 3 ≤ b + 1) (hc : ∀ t, 0 ≤ C t ∧ C t ≤ 3) (hm3 : most ≤ 3) :
    ∀ (k i : Nat) (acc : List At) (s : Ps) (σ : St), i + k = most + 1 → i ≤ most → σ a 0 = (i : Int) → acc.length = i → coC σ b = C → PzC f n s σ → WfAt σ a → asC σ a = acc → (∀ x ∈ acc, okA C x) →
    (∃ as s' τ, atmP (nxT f n) C most k i acc s = .inr (as, s') ∧ i < as.length ∧ as.length ≤ most ∧ FzB a 3 σ τ ∧ PzC f n s' τ ∧ WfAt τ a ∧ asC τ a = as ∧ (∀ x ∈ as, okA C x) ∧ ∀ (u : Bool × Nat × Nat × Int) (Q : Rs → HS → Prop) (l5 : Option V), notL l5 = true → (Ex sc d 62 3 [some (vR 87), some (vR a), some (vR b), some (vI ((most : Int))), some (vI ((i : Int))), l5] [] (wH σ u) Q ↔ Q (.inl (some (vI (1)))) (wH τ u))) ∨
    (∃ e τ, atmP (nxT f n) C most k i acc s = .inl e ∧ FzB a 3 σ τ ∧ WfAt τ a ∧ BdC τ e ∧ ∀ (u : Bool × Nat × Nat × Int) (Q : Rs → HS → Prop) (l5 : Option V), notL l5 = true → (Ex sc d 62 3 [some (vR 87), some (vR a), some (vR b), some (vI ((most : Int))), some (vI ((i : Int))), l5] [] (wH σ u) Q ↔ Q (.inl (some (vI (0)))) (wH τ u))) := by
  intro k
  induction k with
  | zero => intro i acc s σ h1 h2; omega
  | succ k ih =>
    intro i acc s σ hik him ha0 hal hC H W hA ok
    rw [atmP]
    have kn := s_known (sc := sc) (d := d - 1) (b := b) (σ := σ) (s := s) ob (by omega) (by rw [hC]; exact hc) H
    rw [hC] at kn
    rcases kn with ⟨t, e1, e2, t0, t1, ct, r1⟩ | ⟨e, e1, e2, r1⟩
    · rw [e1, andP_r]
      unfold RnA at r1
      by_cases hm : (i : Int) = most
      · rw [if_pos hm]
        have rf := fun u Q => s_refuse (sc := sc) (d := d - 1) (k := 4) (u := u) (Q := Q) (by omega) H
        refine Or.inr ⟨_, _, rfl, rf_v.1.b, (W.eq (rf_v.1.cl fa)).1, rf_v.2, fun u Q l5 h5 => ?_⟩
        rw [x62_3]
        simp (disch := first | assumption | omega | exact notL_I | exact notL_N | exact notL_R | exact catS_le (Nat.le_of_ble_eq_true rfl) | exact Nat.le_of_ble_eq_true rfl | exact ooRo (by assumption) | exact ooAt (by assumption) | exact ooRu (by assumption) | exact ooLo (by assumption) | exact ooHa (by assumption) | exact ooLe (by assumption) | exact ooFn | exact ooAn | exact ooPa | exact ooTo | exact ooWa | exact ooCh | rfl) only [x62_0, x62_1, x62_5, x62_6, x62_9, x62_10, x62_11, x62_14, x62_17, x62_18, x62_19, x62_21, x62_22, x62_25, x62_26, x62_27, x62_30, x62_31, x62_32, x62_35, x62_38, x62_40, x62_41, x62_44, x62_47, x62_48, x62_50, x62_53, x62_56, x62_57, x62_58, x62_60, x62_63, x62_64, x62_67, x62_70, x62_71, x62_72, x62_73, x62_75, x62_76, x62_79, x62_80, x62_81, x62_82, x62_85, x62_86, x62_87, x62_88, x62_91, x62_92, x62_93, x62_96, x62_97, x62_100, x62_103, x62_105, x62_108, x62_109, x62_110, x62_111, x62_114, x62_117, x62_120, x62_123, x62_124, x62_125, x62_128, r1, rf, Kc_some, if_pos, if_neg, ↓reduceIte, not_true_eq_false, not_false_eq_true]
      · rw [if_neg hm]
        have va := fun u Q => s_value (sc := sc) (d := d - 1) (u := u) (Q := Q) H
        have ht : 100 ≤ s.1 ∧ s.1 ≤ 125 := by omega
        rw [(vl_v H.ok.1).1 ht, ← e2] at va
        obtain ⟨τ, a1, a2, a3⟩ := s_takeT (sc := sc) (d := d - 1) H
        have F1 : Fzc σ τ := Fzc.o89 a1
        unfold RnA at a3
        have k9 := (kd_iff a2.ok.1).2.2.2.2.2.2.2.2.2.1
        unfold sevP
        rcases s_sgnP (sc := sc) (d := d - 1) (c := 40) (by omega) a2 k9 (by omega) with ⟨h540, ρ, b1, b2, b3⟩ | ⟨h540, b3⟩
        · rw [h540, andP_r]
          unfold RnA at b3
          have F2 : Fzc σ ρ := F1.trans (Fzc.o89 b1)
          have cρ : coC ρ b = C := by rw [coC_eq (F2.cl fb (b + 1) (Nat.le_refl _) (by omega))]; exact hC
          have co := fun u Q => s_colsC (sc := sc) (d := d - 1) (σ := ρ) (u := u) (Q := Q) (b := b) (t := t) ob ⟨by omega, by omega⟩
          rw [cρ] at co
          rcases s_cells (sc := sc) (d := d - 1) (row := false) (m := C t) (by omega) (by omega) (hc t).2 b2 with ⟨l, s3, ρ2, c1, c2, c3, c4, c5, c6, c7⟩ | ⟨e, ρ2, c1, c2, c3, c4⟩
          · rw [c1, andP_r]
            dsimp only
            unfold RnA at c7
            rw [bI_f] at c7
            have F3 : Fzc σ ρ2 := F2.trans c3
            have W3 := W.eq (F3.cl fa)
            have z3 : ρ2 a 0 = (i : Int) := by rw [F3.cl fa a (Nat.le_refl _) (by omega)]; exact ha0
            have ka := ok_atm t0 t1 ct (hc t).2 c2 c6
            have q0 : ρ2 93 0 = l.getD 0 (-1) := c5 0 (by omega)
            have q1 : ρ2 93 1 = l.getD 1 (-1) := c5 1 (by omega)
            have q2 : ρ2 93 2 = l.getD 2 (-1) := c5 2 (by omega)
            have av := adA_v (t := t) (x := l.getD 0 (-1)) (y := l.getD 1 (-1)) (z := l.getD 2 (-1)) W3.1 (by omega) ⟨t0, t1⟩ ka.2.1 ka.2.2.1 ka.2.2.2
            have ad := fun u Q => s_addA (sc := sc) (d := d - 1) (σ := ρ2) (u := u) (Q := Q) (t := t) (x := l.getD 0 (-1)) (y := l.getD 1 (-1)) (z := l.getD 2 (-1)) oa W3.1 (by omega)
            rw [W3.2, hA] at av
            generalize adA ρ2 a t (l.getD 0 (-1)) (l.getD 1 (-1)) (l.getD 2 (-1)) = X at *
            obtain ⟨v1, v2, v3, v4⟩ := av
            have v3' : asC X a = acc ++ [atL t l] := v3
            have P4 := c4.frB v1 fa
            have F4 : FzB a 3 σ X := F3.b.trans (v1.z fa)
            have kd := fun u Q => s_kind (sc := sc) (d := d - 1) (u := u) (Q := Q) P4
            have kk := kd_iff P4.ok.1
            have k11 := kk.2.2.2.2.2.2.2.2.2.2.2.1
            have kb := kk.1
            have ok4 : ∀ x ∈ acc ++ [atL t l], okA C x := fun x hx => (List.mem_append.mp hx).elim (ok x) (fun z => by rw [List.mem_singleton.mp z]; exact ka.1)
            by_cases h544 : s3.1 = 544
            · rw [if_pos h544]
              have kk11 := k11.mpr h544
              obtain ⟨Y, y1, y2, y3⟩ := s_takeT (sc := sc) (d := d - 1) P4
              unfold RnA at y3
              have F5 : FzB a 3 X Y := (Fzc.o89 y1).b
              have W5 := v2.eq ((Fzc.o89 y1).cl fa)
              have go : ∀ (u : Bool × Nat × Nat × Int) (Q : Rs → HS → Prop) (l5 : Option V), notL l5 = true → (Ex sc d 62 3 [some (vR 87), some (vR a), some (vR b), some (vI ((most : Int))), some (vI ((i : Int))), l5] [] (wH σ u) Q ↔ Ex sc d 62 3 [some (vR 87), some (vR a), some (vR b), some (vI ((most : Int))), some (vI (((i + 1 : Nat) : Int))), some (vI t)] [] (wH Y u) Q) := by
                intro u Q l5 h5
                rw [x62_3, show ((i + 1 : Nat) : Int) = (i : Int) + 1 by omega]
                simp (disch := first | assumption | omega | exact notL_I | exact notL_N | exact notL_R | exact catS_le (Nat.le_of_ble_eq_true rfl) | exact Nat.le_of_ble_eq_true rfl | exact ooRo (by assumption) | exact ooAt (by assumption) | exact ooRu (by assumption) | exact ooLo (by assumption) | exact ooHa (by assumption) | exact ooLe (by assumption) | exact ooFn | exact ooAn | exact ooPa | exact ooTo | exact ooWa | exact ooCh | rfl) only [x62_0, x62_1, x62_5, x62_6, x62_9, x62_10, x62_11, x62_14, x62_17, x62_18, x62_19, x62_21, x62_22, x62_25, x62_26, x62_27, x62_30, x62_31, x62_32, x62_35, x62_38, x62_40, x62_41, x62_44, x62_47, x62_48, x62_50, x62_53, x62_56, x62_57, x62_58, x62_60, x62_63, x62_64, x62_67, x62_70, x62_71, x62_72, x62_73, x62_75, x62_76, x62_79, x62_80, x62_81, x62_82, x62_85, x62_86, x62_87, x62_88, x62_91, x62_92, x62_93, x62_96, x62_97, x62_100, x62_103, x62_105, x62_108, x62_109, x62_110, x62_111, x62_114, x62_117, x62_120, x62_123, x62_124, x62_125, x62_128, r1, gPa_tokens, va, a3, b3, co, c7, gPa_cells, RPa_cells, q0, q1, q2, ad, kd, y3, Kc_some, Kc_none, if_pos, if_neg, ↓reduceIte, not_true_eq_false, not_false_eq_true]
              have cY : coC Y b = C := by
                rw [coC_eq (y1 (b + 1) (by unfold far at fb; omega)), coC_eq (v1 (b + 1) (by omega)), coC_eq (F3.cl fb (b + 1) (Nat.le_refl _) (by omega))]
                exact hC
              rcases ih (i + 1) (acc ++ [atL t l]) _ Y (by omega) (by omega) (by rw [y1 a (by unfold far at fa; omega), v4, z3]; omega) (by rw [List.length_append, List.length_singleton]; omega) cY y2 W5.1 (W5.2.trans v3') ok4 with ⟨as, s', ρ3, n1, n2, n3, n4, n5, n6, n7, n8, n9⟩ | ⟨e, ρ3, n1, n2, n3, n4, n5⟩
              · exact Or.inl ⟨as, s', ρ3, n1, by omega, n3, (F4.trans F5).trans n4, n5, n6, n7, n8, fun u Q l5 h5 => (go u Q l5 h5).trans (n9 u Q _ notL_I)⟩
              · exact Or.inr ⟨e, ρ3, n1, (F4.trans F5).trans n2, n3, n4, fun u Q l5 h5 => (go u Q l5 h5).trans (n5 u Q _ notL_I)⟩
            · rw [if_neg h544]
              have kk11 : kdT s3.1 ≠ 11 := fun z => h544 (k11.mp z)
              refine Or.inl ⟨_, _, X, rfl, by rw [List.length_append, List.length_singleton]; omega, by rw [List.length_append, List.length_singleton]; omega, F4, P4, v2, v3', ok4, fun u Q l5 h5 => ?_⟩
              rw [x62_3]
              simp (disch := first | assumption | omega | exact notL_I | exact notL_N | exact notL_R | exact catS_le (Nat.le_of_ble_eq_true rfl) | exact Nat.le_of_ble_eq_true rfl | exact ooRo (by assumption) | exact ooAt (by assumption) | exact ooRu (by assumption) | exact ooLo (by assumption) | exact ooHa (by assumption) | exact ooLe (by assumption) | exact ooFn | exact ooAn | exact ooPa | exact ooTo | exact ooWa | exact ooCh | rfl) only [x62_0, x62_1, x62_5, x62_6, x62_9, x62_10, x62_11, x62_14, x62_17, x62_18, x62_19, x62_21, x62_22, x62_25, x62_26, x62_27, x62_30, x62_31, x62_32, x62_35, x62_38, x62_40, x62_41, x62_44, x62_47, x62_48, x62_50, x62_53, x62_56, x62_57, x62_58, x62_60, x62_63, x62_64, x62_67, x62_70, x62_71, x62_72, x62_73, x62_75, x62_76, x62_79, x62_80, x62_81, x62_82, x62_85, x62_86, x62_87, x62_88, x62_91, x62_92, x62_93, x62_96, x62_97, x62_100, x62_103, x62_105, x62_108, x62_109, x62_110, x62_111, x62_114, x62_117, x62_120, x62_123, x62_124, x62_125, x62_128, r1, gPa_tokens, va, a3, b3, co, c7, gPa_cells, RPa_cells, q0, q1, q2, ad, kd, Kc_some, Kc_none, if_pos, if_neg, ↓reduceIte, not_true_eq_false, not_false_eq_true]
          · rw [c1, andP_l]
            unfold RnA at c4
            rw [bI_f] at c4
            have F3 : Fzc σ ρ2 := F2.trans c2
            refine Or.inr ⟨e, ρ2, rfl, F3.b, (W.eq (F3.cl fa)).1, c3, fun u Q l5 h5 => ?_⟩
            rw [x62_3]
            simp (disch := first | assumption | omega | exact notL_I | exact notL_N | exact notL_R | exact catS_le (Nat.le_of_ble_eq_true rfl) | exact Nat.le_of_ble_eq_true rfl | exact ooRo (by assumption) | exact ooAt (by assumption) | exact ooRu (by assumption) | exact ooLo (by assumption) | exact ooHa (by assumption) | exact ooLe (by assumption) | exact ooFn | exact ooAn | exact ooPa | exact ooTo | exact ooWa | exact ooCh | rfl) only [x62_0, x62_1, x62_5, x62_6, x62_9, x62_10, x62_11, x62_14, x62_17, x62_18, x62_19, x62_21, x62_22, x62_25, x62_26, x62_27, x62_30, x62_31, x62_32, x62_35, x62_38, x62_40, x62_41, x62_44, x62_47, x62_48, x62_50, x62_53, x62_56, x62_57, x62_58, x62_60, x62_63, x62_64, x62_67, x62_70, x62_71, x62_72, x62_73, x62_75, x62_76, x62_79, x62_80, x62_81, x62_82, x62_85, x62_86, x62_87, x62_88, x62_91, x62_92, x62_93, x62_96, x62_97, x62_100, x62_103, x62_105, x62_108, x62_109, x62_110, x62_111, x62_114, x62_117, x62_120, x62_123, x62_124, x62_125, x62_128, r1, gPa_tokens, va, a3, b3, co, c4, Kc_some, Kc_none, if_pos, if_neg, ↓reduceIte, not_true_eq_false, not_false_eq_true]
        · rw [h540, andP_l, andP_l]
          unfold RnA at b3
          have F2 : Fzc σ (rfS τ 1 (nxT f n s.2.2).2.1) := F1.trans rf_v.1
          refine Or.inr ⟨_, _, rfl, F2.b, (W.eq (F2.cl fa)).1, rf_v.2, fun u Q l5 h5 => ?_⟩
          rw [x62_3]
          simp (disch := first | assumption | omega | exact notL_I | exact notL_N | exact notL_R | exact catS_le (Nat.le_of_ble_eq_true rfl) | exact Nat.le_of_ble_eq_true rfl | exact ooRo (by assumption) | exact ooAt (by assumption) | exact ooRu (by assumption) | exact ooLo (by assumption) | exact ooHa (by assumption) | exact ooLe (by assumption) | exact ooFn | exact ooAn | exact ooPa | exact ooTo | exact ooWa | exact ooCh | rfl) only [x62_0, x62_1, x62_5, x62_6, x62_9, x62_10, x62_11, x62_14, x62_17, x62_18, x62_19, x62_21, x62_22, x62_25, x62_26, x62_27, x62_30, x62_31, x62_32, x62_35, x62_38, x62_40, x62_41, x62_44, x62_47, x62_48, x62_50, x62_53, x62_56, x62_57, x62_58, x62_60, x62_63, x62_64, x62_67, x62_70, x62_71, x62_72, x62_73, x62_75, x62_76, x62_79, x62_80, x62_81, x62_82, x62_85, x62_86, x62_87, x62_88, x62_91, x62_92, x62_93, x62_96, x62_97, x62_100, x62_103, x62_105, x62_108, x62_109, x62_110, x62_111, x62_114, x62_117, x62_120, x62_123, x62_124, x62_125, x62_128, r1, gPa_tokens, va, a3, b3, Kc_some, Kc_none, if_pos, if_neg, ↓reduceIte, not_true_eq_false, not_false_eq_true]
    · rw [e1, andP_l]
      unfold RnA at r1
      refine Or.inr ⟨e, _, rfl, rf_v.1.b, (W.eq (rf_v.1.cl fa)).1, e2, fun u Q l5 h5 => ?_⟩
      rw [x62_3]
      simp (disch := first | assumption | omega | exact notL_I | exact notL_N | exact notL_R | exact catS_le (Nat.le_of_ble_eq_true rfl) | exact Nat.le_of_ble_eq_true rfl | exact ooRo (by assumption) | exact ooAt (by assumption) | exact ooRu (by assumption) | exact ooLo (by assumption) | exact ooHa (by assumption) | exact ooLe (by assumption) | exact ooFn | exact ooAn | exact ooPa | exact ooTo | exact ooWa | exact ooCh | rfl) only [x62_0, x62_1, x62_5, x62_6, x62_9, x62_10, x62_11, x62_14, x62_17, x62_18, x62_19, x62_21, x62_22, x62_25, x62_26, x62_27, x62_30, x62_31, x62_32, x62_35, x62_38, x62_40, x62_41, x62_44, x62_47, x62_48, x62_50, x62_53, x62_56, x62_57, x62_58, x62_60, x62_63, x62_64, x62_67, x62_70, x62_71, x62_72, x62_73, x62_75, x62_76, x62_79, x62_80, x62_81, x62_82, x62_85, x62_86, x62_87, x62_88, x62_91, x62_92, x62_93, x62_96, x62_97, x62_100, x62_103, x62_105, x62_108, x62_109, x62_110, x62_111, x62_114, x62_117, x62_120, x62_123, x62_124, x62_125, x62_128, r1, Kc_some, if_pos, if_neg, ↓reduceIte, not_true_eq_false, not_false_eq_true]
theorem s_atoms {most : Nat} {s : Ps} {σ : St} (hd : 4 ≤ d) (oa : oAt a) (ob : oHa b) (fa : far a 3) (fb : far (b + 1) 1) (fab : b + 1 < a ∨ a + 3 ≤ b + 1) (hc : ∀ t, 0 ≤ C t ∧ C t ≤ 3) (hm3 : most ≤ 3) (h0 : σ a 0 = 0) (hC : coC σ b = C) (H : PzC f n s σ) (W : WfAt σ a) :
    (∃ as s' τ, atmP (nxT f n) C most (most + 1) 0 [] s = .inr (as, s') ∧ 1 ≤ as.length ∧ as.length ≤ most ∧ FzB a 3 σ τ ∧ PzC f n s' τ ∧ WfAt τ a ∧ asC τ a = as ∧ (∀ x ∈ as, okA C x) ∧ RnA sc d 62 0 [some (vR 87), some (vR a), some (vR b), some (vI ((most : Int))), none, none] σ (some (vI 1)) τ) ∨
    (∃ e τ, atmP (nxT f n) C most (most + 1) 0 [] s = .inl e ∧ FzB a 3 σ τ ∧ WfAt τ a ∧ BdC τ e ∧ RnA sc d 62 0 [some (vR 87), some (vR a), some (vR b), some (vI ((most : Int))), none, none] σ (some (vI 0)) τ) := by
  have run : ∀ (u : Bool × Nat × Nat × Int) (Q : Rs → HS → Prop), Ex sc d 62 0 [some (vR 87), some (vR a), some (vR b), some (vI ((most : Int))), none, none] [] (wH σ u) Q ↔ Ex sc d 62 3 [some (vR 87), some (vR a), some (vR b), some (vI ((most : Int))), some (vI 0), none] [] (wH σ u) Q := by
    intro u Q
    simp (disch := first | assumption | omega | exact notL_I | exact notL_N | exact notL_R | exact catS_le (Nat.le_of_ble_eq_true rfl) | exact Nat.le_of_ble_eq_true rfl | exact ooRo (by assumption) | exact ooAt (by assumption) | exact ooRu (by assumption) | exact ooLo (by assumption) | exact ooHa (by assumption) | exact ooLe (by assumption) | exact ooFn | exact ooAn | exact ooPa | exact ooTo | exact ooWa | exact ooCh | rfl) only [x62_0, x62_1, x62_5, x62_6, x62_9, x62_10, x62_11, x62_14, x62_17, x62_18, x62_19, x62_21, x62_22, x62_25, x62_26, x62_27, x62_30, x62_31, x62_32, x62_35, x62_38, x62_40, x62_41, x62_44, x62_47, x62_48, x62_50, x62_53, x62_56, x62_57, x62_58, x62_60, x62_63, x62_64, x62_67, x62_70, x62_71, x62_72, x62_73, x62_75, x62_76, x62_79, x62_80, x62_81, x62_82, x62_85, x62_86, x62_87, x62_88, x62_91, x62_92, x62_93, x62_96, x62_97, x62_100, x62_103, x62_105, x62_108, x62_109, x62_110, x62_111, x62_114, x62_117, x62_120, x62_123, x62_124, x62_125, x62_128]
  have lc := l_atoms (sc := sc) (d := d) (f := f) (n := n) hd oa ob fa fb fab hc hm3 (most + 1) 0 [] s σ (by omega) (by omega) h0 rfl hC H W (by unfold asC; rw [h0]; rfl) (fun x hx => by cases hx)
  rw [Int.natCast_zero] at lc
  rcases lc with ⟨as, s', ρ3, n1, n2, n3, n4, n5, n6, n7, n8, n9⟩ | ⟨e, ρ3, n1, n2, n3, n4, n5⟩
  · exact Or.inl ⟨as, s', ρ3, n1, n2, n3, n4, n5, n6, n7, n8, fun u Q => (run u Q).trans (n9 u Q none notL_N)⟩
  · exact Or.inr ⟨e, ρ3, n1, n2, n3, n4, fun u Q => (run u Q).trans (n5 u Q none notL_N)⟩
end H4
