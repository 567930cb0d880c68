/-! findOpen, openNumber, bindOpen of the class's finder -/
def opI (τ : St) (L : List Rw) (b : Option (List Rw)) : Prop := ∀ q, b = some q → ∀ (j : Nat) (w : Rw), q[j]? = some w → 0 ≤ τ 106 j ∧ L[(τ 106 j).toNat]? = some w
theorem FnH.ru {σ τ : St} {a : Nat} (F : FnH σ τ) (o : oRu a) : ruC τ a = ruC σ a := by
  have h := oRu_far o
  exact ruC_c (fun c c0 c1 => F c (by omega))
theorem FnH.wu {σ τ : St} {a : Nat} (F : FnH σ τ) (o : oRu a) (W : WfRu σ a) : WfRu τ a := by
  have h := oRu_far o
  exact W.c (fun c c0 c1 => F c (by omega))
section F6
variable {sc : Scr}
set_option maxHeartbeats 1000000 in
theorem l_findOpen {a r d : Nat} (o : oRu a) (or : oRo r) (hd : 9 ≤ d) : ∀ (N : Nat) (H : Hts) (σ : St) (n : Int) (lim : Nat) (best : Option (List Rw)), H.length ≤ N → WfRu σ a → WfRo σ r → 1 ≤ σ (a + 1) 0 → Sch (asC σ (a + 1)) (rsC σ r) lim σ H → (∀ b ∈ asC σ (a + 1), ∀ w ∈ rsC σ r, fitT b w.2) → (∀ b ∈ asC σ (a + 4), ∀ w ∈ rsC σ r, fitT b w.2) → srt (rsC σ r) → (∀ w ∈ rsC σ r, 0 ≤ w.1) → (∀ z ∈ H, z.1 ≠ [] ∧ ∀ w ∈ z.1, w ∈ rsC σ r) → (∀ b, best = some b → ∀ z ∈ H, topL z.1 < topL b) → opI σ (rsC σ r) best → 0 ≤ n → n + N ≤ 64000 →
    ∃ τ, FnH σ τ ∧ opI τ (rsC σ r) (H.foldl (openF (ruC σ a) (rsC σ r)) best) ∧ ∀ (u : Bool × Nat × Nat × Int) (Q : Rs → HS → Prop), Ex sc d 96 10 [some (vR 101), some (vR a), some (vR r), some (vI (bI best.isSome)), some (vI n)] [] (wH σ u) Q ↔ Q (.inl (some (vI (bI (H.foldl (openF (ruC σ a) (rsC σ r)) best).isSome)))) (wH τ u) := by
  intro N
  induction N with
  | zero =>
    intro H σ n lim best hN Wu Wr ha hS hT hT2 hs h0 hz hb hp n0 nN
    obtain rfl : H = [] := List.length_eq_zero_iff.mp (by omega)
    have oa := o.ahead
    have hbb : bI best.isSome = 0 ∨ bI best.isSome = 1 := by cases best.isSome; exact Or.inl rfl; exact Or.inr rfl
    rcases s_next (sc := sc) (d := d - 1) oa or (by omega) Wu.2.2.2.1 Wr ha hS hT with ⟨_, τ, z2, z3⟩ | ⟨pre, β, rest, τ, z1, _⟩
    · by_cases hn : n < 64000
      · refine ⟨τ, z2.h, fun q hq j w hj => ?_, fun u Q => ?_⟩
        · rw [z2.1 106 (by omega)]; exact hp q hq j w hj
        · rw [x96_10]
          simp (disch := first | assumption | omega | exact notL_I | exact notL_N | exact notL_R | exact catS_le (Nat.le_of_ble_eq_true rfl) | exact ooRo (by assumption) | exact ooAt (by assumption) | exact ooRu (by assumption) | exact ooLo (by assumption) | exact ooHa (by assumption) | exact ooLe (by assumption) | exact ooFn | exact ooAn | exact ooPa | exact ooTo | exact ooWa | exact ooCh | rfl) only [x96_0, x96_1, x96_2, x96_5, x96_6, x96_7, x96_8, x96_12, x96_14, x96_17, x96_18, x96_19, x96_22, x96_23, x96_26, x96_29, x96_30, x96_31, x96_32, x96_35, x96_38, x96_39, x96_40, x96_41, x96_42, x96_45, x96_48, x96_51, x96_54, x96_57, x96_58, gRu_ahead, z3 u, Kc_some, if_pos, if_neg, ↓reduceIte, not_true_eq_false, not_false_eq_true]
          rfl
      · refine ⟨σ, FnH.refl, hp, fun u Q => ?_⟩
        rw [x96_10]
        simp (disch := first | assumption | omega | exact notL_I | exact notL_N | exact notL_R | exact catS_le (Nat.le_of_ble_eq_true rfl) | exact ooRo (by assumption) | exact ooAt (by assumption) | exact ooRu (by assumption) | exact ooLo (by assumption) | exact ooHa (by assumption) | exact ooLe (by assumption) | exact ooFn | exact ooAn | exact ooPa | exact ooTo | exact ooWa | exact ooCh | rfl) only [x96_0, x96_1, x96_2, x96_5, x96_6, x96_7, x96_8, x96_12, x96_14, x96_17, x96_18, x96_19, x96_22, x96_23, x96_26, x96_29, x96_30, x96_31, x96_32, x96_35, x96_38, x96_39, x96_40, x96_41, x96_42, x96_45, x96_48, x96_51, x96_54, x96_57, x96_58, if_pos, if_neg, ↓reduceIte, not_true_eq_false, not_false_eq_true]
        rfl
    · cases z1
  | succ N ih =>
    intro H σ n lim best hN Wu Wr ha hS hT hT2 hs h0 hz hb hp n0 nN
    have oa := o.ahead
    have ob := o.behind
    have fa := oRu_far o
    have fr := oRo_far or
    have wa := Wu.2.2.2.1.1
    have wr := Wr.1
    have la := asC_len (σ := σ) (r := a + 1) wa.1
    have lr := rsC_len (σ := σ) (r := r) wr.1
    have h7 : σ 101 7 = (lim : Int) := by obtain ⟨_, _, _, _, q, _⟩ := hS; exact q
    have hl : lim ≤ (rsC σ r).length := by obtain ⟨_, _, _, _, _, q, _⟩ := hS; exact q
    have hbb : bI best.isSome = 0 ∨ bI best.isSome = 1 := by cases best.isSome; exact Or.inl rfl; exact Or.inr rfl
    rcases s_next (sc := sc) (d := d - 1) oa or (by omega) Wu.2.2.2.1 Wr ha hS hT with ⟨z1, τ, z2, z3⟩ | ⟨pre, β, rest, τ1, z1, z2, z3, z4⟩
    · subst z1
      refine ⟨τ, z2.h, fun q hq j w hj => ?_, fun u Q => ?_⟩
      · rw [z2.1 106 (by omega)]; exact hp q hq j w hj
      · rw [x96_10]
        simp (disch := first | assumption | omega | exact notL_I | exact notL_N | exact notL_R | exact catS_le (Nat.le_of_ble_eq_true rfl) | exact ooRo (by assumption) | exact ooAt (by assumption) | exact ooRu (by assumption) | exact ooLo (by assumption) | exact ooHa (by assumption) | exact ooLe (by assumption) | exact ooFn | exact ooAn | exact ooPa | exact ooTo | exact ooWa | exact ooCh | rfl) only [x96_0, x96_1, x96_2, x96_5, x96_6, x96_7, x96_8, x96_12, x96_14, x96_17, x96_18, x96_19, x96_22, x96_23, x96_26, x96_29, x96_30, x96_31, x96_32, x96_35, x96_38, x96_39, x96_40, x96_41, x96_42, x96_45, x96_48, x96_51, x96_54, x96_57, x96_58, gRu_ahead, z3 u, Kc_some, if_pos, if_neg, ↓reduceIte, not_true_eq_false, not_false_eq_true]
        rfl
    · subst z1
      rw [List.length_cons] at hN
      have hzr : ∀ z ∈ rest, z.1 ≠ [] ∧ ∀ w ∈ z.1, w ∈ rsC σ r := fun z hzz => hz z (List.mem_cons_of_mem _ hzz)
      have hbr : ∀ b, best = some b → ∀ z ∈ rest, topL z.1 < topL b := fun b e z hzz => hb b e z (List.mem_cons_of_mem _ hzz)
      obtain ⟨n1, fs, T1, b1, Lv1, fl1, hr1, d61, pl1, hp1⟩ := z3
      have Wu1 := z2.h.wu o Wu
      have Wr1 := z2.wr or Wr
      obtain ⟨τ2, F2, T2, K2, r2⟩ := s_isFulC (sc := sc) (d := d - 1) o or (by omega) Wu1 Wr1 T1 (by rw [z2.as_ ob, z2.rs or]; exact hT2)
      rw [z2.h.ru o, z2.rs or, b1] at r2
      have e4 : τ2 104 = τ1 104 := F2.1 104 (by omega) (by omega) (by omega)
      have e5 : τ2 105 = τ1 105 := F2.1 105 (by omega) (by omega) (by omega)
      have e106 : τ2 106 = τ1 106 := F2.1 106 (by omega) (by omega) (by omega)
      have z3' : HitAt (asC σ (a + 1)) (rsC σ r) lim pre β rest τ2 := ⟨n1, fs, T2, (K2 n1 (Nat.le_refl _)).trans b1, LvF.mono fs n1 n1 Lv1 (Nat.le_refl _) K2 (fun j _ => ⟨by rw [e4], by rw [e5]⟩), fl1, hr1, by rw [F2.2 6 (by omega)]; exact d61, pl1, fun j w hj => by rw [e4]; exact hp1 j w hj⟩
      have F12 : FnH σ τ2 := z2.h.trans F2.h
      have h72 : τ2 101 7 = (lim : Int) := by rw [F2.2 7 (by omega), z2.2 7 (by omega) (by omega)]; exact h7
      rw [List.foldl_cons]
      cases hf : fulfL (ruC σ a) (rsC σ r) β with
      | true =>
        rw [hf, bI_t] at r2
        have eo : openF (ruC σ a) (rsC σ r) best (pre, β) = best := by unfold openF; rw [if_pos hf]
        rw [eo]
        obtain ⟨τ, q1, q2, q3⟩ := ih rest τ2 (n + 1) lim best (by omega) (F12.wu o Wu) (F12.wr or Wr) (by rw [(F12.at_ oa).1]; exact ha) (by rw [F12.as_ oa, F12.rs or]; exact z3'.sch h72 hl (by omega)) (by rw [F12.as_ oa, F12.rs or]; exact hT) (by rw [F12.as_ ob, F12.rs or]; exact hT2) (by rw [F12.rs or]; exact hs) (by rw [F12.rs or]; exact h0) (by rw [F12.rs or]; exact hzr) hbr (by rw [F12.rs or]; intro q hq j w hj; rw [e106, z2.1 106 (by omega)]; exact hp q hq j w hj) (by omega) (by omega)
        rw [F12.ru o, F12.rs or] at q2 q3
        refine ⟨τ, F12.trans q1, q2, fun u Q => ?_⟩
        have q4 := q3 u Q
        rw [x96_10]
        simp (disch := first | assumption | omega | exact notL_I | exact notL_N | exact notL_R | exact catS_le (Nat.le_of_ble_eq_true rfl) | exact ooRo (by assumption) | exact ooAt (by assumption) | exact ooRu (by assumption) | exact ooLo (by assumption) | exact ooHa (by assumption) | exact ooLe (by assumption) | exact ooFn | exact ooAn | exact ooPa | exact ooTo | exact ooWa | exact ooCh | rfl) only [x96_0, x96_1, x96_2, x96_5, x96_6, x96_7, x96_8, x96_12, x96_14, x96_17, x96_18, x96_19, x96_22, x96_23, x96_26, x96_29, x96_30, x96_31, x96_32, x96_35, x96_38, x96_39, x96_40, x96_41, x96_42, x96_45, x96_48, x96_51, x96_54, x96_57, x96_58, gRu_ahead, z4 u, r2 u, Kc_some, Kc_none, if_pos, if_neg, ↓reduceIte, not_true_eq_false, not_false_eq_true]
        exact q4
      | false =>
        rw [hf, bI_f] at r2
        have eo : openF (ruC σ a) (rsC σ r) best (pre, β) = some pre := by
          unfold openF
          rw [if_neg (by rw [hf]; decide)]
          cases best with
          | none => rfl
          | some b =>
            have := hb b rfl (pre, β) List.mem_cons_self
            dsimp only at this ⊢
            rw [if_neg (by omega)]
        rw [eo]
        obtain ⟨hc, lim', S3⟩ := kp_sch hs h0 hl (by omega) (by omega) (by omega) z3'
        have kr := s_keep (sc := sc) (d := d - 1) (σ := τ2) (m := ((asC σ (a + 1)).length : Int)) (by omega) (by omega) hc
        have F3 : FnH τ2 (kpS τ2 (asC σ (a + 1)).length) := fun c hcc => by unfold kpS; rw [su_ne (by omega), su_ne (by omega), scp_ne (by omega)]
        have F13 := F12.trans F3
        have hpn : ∀ z ∈ rest, (decide (topL z.1 < topL pre)) = z.1.all (fun v => decide (v.1 < topL pre)) := by
          intro z hzz
          obtain ⟨y1, y2⟩ := hzr z hzz
          have := topL_lt (T := topL pre) y1 (fun w hw => h0 w (y2 w hw))
          rw [Bool.eq_iff_iff, decide_eq_true_eq, this, List.all_eq_true]
          exact ⟨fun q w hw => decide_eq_true (q w hw), fun q w hw => of_decide_eq_true (q w hw)⟩
        have efold : rest.foldl (openF (ruC σ a) (rsC σ r)) (some pre) = (rest.filter fun z => z.1.all (fun v => decide (v.1 < topL pre))).foldl (openF (ruC σ a) (rsC σ r)) (some pre) := by
          rw [open_filter (T := topL pre) rest pre (Int.le_refl _), List.filter_congr hpn]
        rw [efold]
        have hlf := List.length_filter_le (fun z : List Rw × Bd => z.1.all (fun v => decide (v.1 < topL pre))) rest
        obtain ⟨τ, q1, q2, q3⟩ := ih (rest.filter fun z => z.1.all (fun v => decide (v.1 < topL pre))) (kpS τ2 (asC σ (a + 1)).length) (n + 1) lim' (some pre) (by omega) (F13.wu o Wu) (F13.wr or Wr) (by rw [(F13.at_ oa).1]; exact ha) (by rw [F13.as_ oa, F13.rs or]; exact S3) (by rw [F13.as_ oa, F13.rs or]; exact hT) (by rw [F13.as_ ob, F13.rs or]; exact hT2) (by rw [F13.rs or]; exact hs) (by rw [F13.rs or]; exact h0) (by rw [F13.rs or]; exact fun z hzz => hzr z (List.mem_filter.mp hzz).1) (by
            intro b e z hzz
            cases e
            rw [List.mem_filter] at hzz
            have := hpn z hzz.1
            rw [hzz.2] at this
            exact of_decide_eq_true this) (by
            rw [F13.rs or]
            intro q hq j w hj
            cases hq
            have hj1 := (List.getElem?_eq_some_iff.mp hj).1
            have hk : kpS τ2 (asC σ (a + 1)).length 106 j = τ1 104 j := by
              unfold kpS
              rw [su_ne (by omega), su_ne (by omega), scp_at, if_pos (by omega), e4]
              congr 1
            rw [hk]
            exact ⟨(hp1 j w hj).1, (hp1 j w hj).2.2⟩) (by omega) (by omega)
        rw [F13.ru o, F13.rs or] at q2 q3
        refine ⟨τ, F13.trans q1, q2, fun u Q => ?_⟩
        have q4 := q3 u Q
        have ec : τ2 (a + 1) 0 = ((asC σ (a + 1)).length : Int) := by rw [(F12.at_ oa).1, la]
        rw [x96_10]
        simp (disch := first | assumption | omega | exact notL_I | exact notL_N | exact notL_R | exact catS_le (Nat.le_of_ble_eq_true rfl) | exact ooRo (by assumption) | exact ooAt (by assumption) | exact ooRu (by assumption) | exact ooLo (by assumption) | exact ooHa (by assumption) | exact ooLe (by assumption) | exact ooFn | exact ooAn | exact ooPa | exact ooTo | exact ooWa | exact ooCh | rfl) only [x96_0, x96_1, x96_2, x96_5, x96_6, x96_7, x96_8, x96_12, x96_14, x96_17, x96_18, x96_19, x96_22, x96_23, x96_26, x96_29, x96_30, x96_31, x96_32, x96_35, x96_38, x96_39, x96_40, x96_41, x96_42, x96_45, x96_48, x96_51, x96_54, x96_57, x96_58, gRu_ahead, gAt_count, z4 u, r2 u, Kc_some, Kc_none, ec, kr u, if_pos, if_neg, ↓reduceIte, not_true_eq_false, not_false_eq_true]
        exact q4
theorem s_findOpen {a r d : Nat} {σ : St} (o : oRu a) (or : oRo r) (hd : 9 ≤ d) (Wu : WfRu σ a) (Wr : WfRo σ r) (ha : 1 ≤ σ (a + 1) 0) (hT : ∀ b ∈ asC σ (a + 1), ∀ w ∈ rsC σ r, fitT b w.2) (hT2 : ∀ b ∈ asC σ (a + 4), ∀ w ∈ rsC σ r, fitT b w.2) (hs : srt (rsC σ r)) (h0 : ∀ w ∈ rsC σ r, 0 ≤ w.1) :
    ∃ τ, FnH σ τ ∧ opI τ (rsC σ r) (openL (ruC σ a) (rsC σ r)) ∧ RnA sc d 96 0 [some (vR 101), some (vR a), some (vR r), none, none] σ (some (vI (bI (openL (ruC σ a) (rsC σ r)).isSome))) τ := by
  have oa := o.ahead
  have ob := o.behind
  have wa := Wu.2.2.2.1.1
  have wr := Wr.1
  have la := asC_len (σ := σ) (r := a + 1) wa.1
  have lr := rsC_len (σ := σ) (r := r) wr.1
  obtain ⟨-, F, S⟩ := bgS_v oa or Wu.2.2.2.1 Wr ha
  have bg := s_begin (sc := sc) (d := d - 1) (σ := σ) or (by omega)
  have hc : (hitsL (rsC σ r) (asC σ (a + 1)) bd0).length ≤ 64000 := by
    have h1 := hits_len (R := rsC σ r) (asC σ (a + 1)) bd0
    have h2 : (rsC σ r).length ^ (asC σ (a + 1)).length ≤ 40 ^ (asC σ (a + 1)).length := Nat.pow_le_pow_left (by omega) _
    have h3 : 40 ^ (asC σ (a + 1)).length ≤ 40 ^ 3 := Nat.pow_le_pow_right (by omega) (by omega)
    have h4 : (40 : Nat) ^ 3 = 64000 := by decide
    omega
  obtain ⟨τ, q1, q2, q3⟩ := l_findOpen (sc := sc) (d := d) o or hd 64000 (hitsL (rsC σ r) (asC σ (a + 1)) bd0) (bgS σ r) 0 (rsC σ r).length none hc (F.wu o Wu) (F.wr or Wr) (by rw [(F.at_ oa).1]; exact ha) (by rw [F.as_ oa, F.rs or]; exact S) (by rw [F.as_ oa, F.rs or]; exact hT) (by rw [F.as_ ob, F.rs or]; exact hT2) (by rw [F.rs or]; exact hs) (by rw [F.rs or]; exact h0) (by
      rw [F.rs or]
      intro z hz
      cases hA : asC σ (a + 1) with
      | nil => rw [hA, List.length_nil] at la; omega
      | cons b bs =>
        rw [hA] at hz
        exact ⟨hits_ne z hz, (hits_mem _ _ z hz).2⟩) (fun b e => by cases e) (fun q hq => by cases hq) (by omega) (by omega)
  rw [F.ru o, F.rs or] at q2 q3
  refine ⟨τ, F.trans q1, q2, fun u Q => ?_⟩
  have q4 := q3 u Q
  refine Iff.trans ?_ q4
  simp (disch := first | assumption | omega | exact notL_I | exact notL_N | exact notL_R | exact catS_le (Nat.le_of_ble_eq_true rfl) | exact ooRo (by assumption) | exact ooAt (by assumption) | exact ooRu (by assumption) | exact ooLo (by assumption) | exact ooHa (by assumption) | exact ooLe (by assumption) | exact ooFn | exact ooAn | exact ooPa | exact ooTo | exact ooWa | exact ooCh | rfl) only [x96_0, x96_1, x96_2, x96_5, x96_6, x96_7, x96_8, x96_12, x96_14, x96_17, x96_18, x96_19, x96_22, x96_23, x96_26, x96_29, x96_30, x96_31, x96_32, x96_35, x96_38, x96_39, x96_40, x96_41, x96_42, x96_45, x96_48, x96_51, x96_54, x96_57, x96_58, bg u, Kc_none]
  rfl
/-- the rows of the hit kept -/
theorem s_openNum {r d : Nat} {σ : St} {i : Int} {q : List Rw} (or : oRo r) (hd : 1 ≤ d) (Wr : WfRo σ r) (i0 : 0 ≤ i) (i1 : i < q.length) (h3 : q.length ≤ 3) (hp : opI σ (rsC σ r) (some q)) {u : Bool × Nat × Nat × Int} {Q : Rs → HS → Prop} : Ex sc d 117 0 [some (vR 101), some (vR r), some (vI i)] [] (wH σ u) Q ↔ Q (.inl (some (vI (numO q[i.toNat]?)))) (wH σ u) := by
  have wr := Wr.1
  have lr := rsC_len (σ := σ) (r := r) wr.1
  have hi : i.toNat < q.length := by omega
  obtain ⟨c0, c1⟩ := hp q rfl i.toNat _ (List.getElem?_eq_getElem hi)
  rw [Int.toNat_of_nonneg i0] at c0 c1
  have c2 := (List.getElem?_eq_some_iff.mp c1).1
  have g := rsC_get (σ := σ) (r := r) (p := σ 106 i) c0 (by omega)
  rw [c1] at g
  have e : numO q[i.toNat]? = σ (r + 1) (σ 106 i) := by
    rw [List.getElem?_eq_getElem hi, Option.some.inj g]
    rfl
  rw [e]
  simp (disch := first | assumption | omega | exact notL_I | exact notL_N | exact notL_R | exact catS_le (Nat.le_of_ble_eq_true rfl) | exact ooRo (by assumption) | exact ooAt (by assumption) | exact ooRu (by assumption) | exact ooLo (by assumption) | exact ooHa (by assumption) | exact ooLe (by assumption) | exact ooFn | exact ooAn | exact ooPa | exact ooTo | exact ooWa | exact ooCh | rfl) only [x117_0, x117_1, x117_4, x117_5, x117_6, x117_9, x117_10, x117_13, x117_14, x117_15, x117_18, x117_19, x117_20, x117_23, gFn_open, RFn_open, s_numAt, Kc_some, if_pos, if_neg, ↓reduceIte, not_true_eq_false, not_false_eq_true]
/-- the bindings of the hit kept -/
theorem l_bindOpen {a r d : Nat} (oa : oAt a) (or : oRo r) (hd : 3 ≤ d) : ∀ (m : Nat) (i : Int) (σ : St) (n : Nat) (q : List Rw), WfAt σ a → WfRo σ r → TrF σ n → 0 ≤ i → i + m = σ a 0 → (∀ b ∈ asC σ a, ∀ w ∈ rsC σ r, fitT b w.2) → (∀ (j : Nat) (w : Rw), q[j]? = some w → 0 ≤ σ 106 (i + j) ∧ (rsC σ r)[(σ 106 (i + j)).toNat]? = some w) → q.length = m → (∃ β, (q, β) ∈ hitsL (rsC σ r) (akF σ a m i) (bF σ n)) →
    ∃ τ n', FnF σ τ ∧ TrF τ n' ∧ bF τ n' = bindA (akF σ a m i) q (bF σ n) ∧ ∀ (u : Bool × Nat × Nat × Int) (Q : Rs → HS → Prop), Ex sc d 108 6 [some (vR 101), some (vR a), some (vR r), some (vI i)] [] (wH σ u) Q ↔ Q (.inl none) (wH τ u) := by
  intro m
  induction m with
  | zero =>
    intro i σ n q Wa Wr T i0 im hT hq ql hh
    have wa := Wa.1
    refine ⟨σ, n, FnF.refl, T, ?_, fun u Q => ?_⟩
    · rw [akF]
      rfl
    · rw [x108_6]
      simp (disch := first | assumption | omega | exact notL_I | exact notL_N | exact notL_R | exact catS_le (Nat.le_of_ble_eq_true rfl) | exact ooRo (by assumption) | exact ooAt (by assumption) | exact ooRu (by assumption) | exact ooLo (by assumption) | exact ooHa (by assumption) | exact ooLe (by assumption) | exact ooFn | exact ooAn | exact ooPa | exact ooTo | exact ooWa | exact ooCh | rfl) only [x108_0, x108_1, x108_4, x108_5, x108_7, x108_8, x108_11, x108_14, x108_15, x108_18, x108_19, x108_20, x108_23, x108_24, x108_27, x108_28, x108_29, x108_30, x108_33, x108_36, x108_37, x108_38, x108_39, x108_40, x108_41, x108_44, x108_45, x108_46, x108_49, x108_50, x108_53, x108_56, gAt_count, if_pos, if_neg, ↓reduceIte, not_true_eq_false, not_false_eq_true]
  | succ m ih =>
    intro i σ n q Wa Wr T i0 im hT hq ql hh
    have wa := Wa.1
    have wr := Wr.1
    have lr := rsC_len (σ := σ) (r := r) wr.1
    cases q with
    | nil => rw [List.length_nil] at ql; omega
    | cons w q =>
      obtain ⟨c0, c1⟩ := hq 0 w rfl
      rw [Int.natCast_zero, Int.add_zero] at c0 c1
      have c2 := (List.getElem?_eq_some_iff.mp c1).1
      have g := rsC_get (σ := σ) (r := r) (p := σ 106 i) c0 (by omega)
      rw [c1] at g
      have hw : rwC σ r (σ 106 i) = w := (Option.some.inj g).symm
      have hia : atK σ a i ∈ asC σ a := List.mem_of_getElem? (asC_get (σ := σ) (r := a) i0 (by omega))
      obtain ⟨β, hβ⟩ := hh
      have hfit : ∃ β', fitA (bF σ n) (atK σ a i) w.2 = some β' ∧ (q, β) ∈ hitsL (rsC σ r) (akF σ a m (i + 1)) β' := by
        rw [akF, hitsL_cons, subL, List.mem_flatMap] at hβ
        obtain ⟨v, _, hv⟩ := hβ
        cases hf : fitA (bF σ n) (atK σ a i) v.2 with
        | none => rw [hf] at hv; cases hv
        | some β' =>
          rw [hf] at hv
          obtain ⟨z, hz, e⟩ := List.mem_map.mp hv
          obtain ⟨z1, z2⟩ := z
          cases e
          exact ⟨β', hf, hz⟩
      obtain ⟨β', hf, hz⟩ := hfit
      obtain ⟨τ1, n1, F1, T1, le1, K1, hh⟩ := s_fitsC (sc := sc) (d := d - 1) (σ := σ) (i := i) (p := σ 106 i) oa or Wa Wr i0 (by omega) c0 (by omega) (by rw [hw]; exact hT _ hia _ (List.mem_of_getElem? c1)) T (by omega)
      rw [hw, hf] at hh
      rcases hh with ⟨β2, f1, f2, f3⟩ | ⟨f1, _⟩
      · cases f1
        have ek : akF τ1 a m (i + 1) = akF σ a m (i + 1) := akF_ext _ _ (fun j _ _ => by unfold atK; rw [(F1.at_ oa).2.1, (F1.at_ oa).2.2])
        have e6 : τ1 106 = σ 106 := F1.1 106 (by omega) (by omega) (by omega)
        obtain ⟨τ, n', q1, q2, q3, q4⟩ := ih (i + 1) τ1 n1 q (F1.wa oa Wa) (F1.wr or Wr) T1 (by omega) (by rw [(F1.at_ oa).1]; omega) (by rw [F1.as_ oa, F1.rs or]; exact hT) (fun j v hj => by
          rw [e6, F1.rs or]
          have := hq (j + 1) v hj
          rw [show i + 1 + (j : Int) = i + ((j + 1 : Nat) : Int) by omega]
          exact this) (by rw [List.length_cons] at ql; omega) ⟨β, by rw [F1.rs or, ek, f2]; exact hz⟩
        refine ⟨τ, n', F1.trans q1, q2, ?_, fun u Q => ?_⟩
        · rw [q3, ek, f2, akF, bindA, hf]
        · have q5 := q4 u Q
          rw [x108_6]
          simp (disch := first | assumption | omega | exact notL_I | exact notL_N | exact notL_R | exact catS_le (Nat.le_of_ble_eq_true rfl) | exact ooRo (by assumption) | exact ooAt (by assumption) | exact ooRu (by assumption) | exact ooLo (by assumption) | exact ooHa (by assumption) | exact ooLe (by assumption) | exact ooFn | exact ooAn | exact ooPa | exact ooTo | exact ooWa | exact ooCh | rfl) only [x108_0, x108_1, x108_4, x108_5, x108_7, x108_8, x108_11, x108_14, x108_15, x108_18, x108_19, x108_20, x108_23, x108_24, x108_27, x108_28, x108_29, x108_30, x108_33, x108_36, x108_37, x108_38, x108_39, x108_40, x108_41, x108_44, x108_45, x108_46, x108_49, x108_50, x108_53, x108_56, gAt_count, gFn_open, RFn_open, gRo_count, f3 u, Kc_some, if_pos, if_neg, ↓reduceIte, not_true_eq_false, not_false_eq_true]
          exact q5
      · cases f1
theorem s_bindOpen {a r d : Nat} {σ : St} {q : List Rw} (oa : oAt a) (or : oRo r) (hd : 3 ≤ d) (Wa : WfAt σ a) (Wr : WfRo σ r) (hT : ∀ b ∈ asC σ a, ∀ w ∈ rsC σ r, fitT b w.2) (hp : opI σ (rsC σ r) (some q)) (hh : ∃ β, (q, β) ∈ hitsL (rsC σ r) (asC σ a) bd0) :
    ∃ τ n', FnF σ τ ∧ TrF τ n' ∧ bF τ n' = bindA (asC σ a) q bd0 ∧ RnA sc d 108 0 [some (vR 101), some (vR a), some (vR r), none] σ none τ := by
  have wa := Wa.1
  obtain ⟨u1, u2, u3⟩ := unbind_v (σ := σ)
  have e6 : su (fl σ 102 0 26 (-1)) 101 2 0 106 = σ 106 := u1.1 106 (by omega) (by omega) (by omega)
  have ek : akF (su (fl σ 102 0 26 (-1)) 101 2 0) a (σ a 0).toNat 0 = asC σ a := akF_ext _ _ (fun j _ _ => by unfold atK; rw [(u1.at_ oa).2.1, (u1.at_ oa).2.2])
  have hl : q.length = (σ a 0).toNat := by
    obtain ⟨β, hβ⟩ := hh
    have h1 := (hits_mem _ _ _ hβ).1
    have h2 := asC_len (σ := σ) (r := a) wa.1
    dsimp only at h1
    omega
  obtain ⟨τ, n', q1, q2, q3, q4⟩ := l_bindOpen (sc := sc) (d := d) oa or hd (σ a 0).toNat 0 _ 0 q (u1.wa oa Wa) (u1.wr or Wr) u2 (by omega) (by rw [(u1.at_ oa).1]; omega) (by rw [u1.as_ oa, u1.rs or]; exact hT) (fun j w hj => by rw [e6, u1.rs or, Int.zero_add]; exact hp q rfl j w hj) hl (by rw [u1.rs or, ek, u3]; exact hh)
  refine ⟨τ, n', u1.trans q1, q2, by rw [q3, ek, u3], fun u Q => ?_⟩
  refine Iff.trans ?_ (q4 u Q)
  simp (disch := first | assumption | omega | exact notL_I | exact notL_N | exact notL_R | exact catS_le (Nat.le_of_ble_eq_true rfl) | exact ooRo (by assumption) | exact ooAt (by assumption) | exact ooRu (by assumption) | exact ooLo (by assumption) | exact ooHa (by assumption) | exact ooLe (by assumption) | exact ooFn | exact ooAn | exact ooPa | exact ooTo | exact ooWa | exact ooCh | rfl) only [x108_0, x108_1, x108_4, x108_5, x108_7, x108_8, x108_11, x108_14, x108_15, x108_18, x108_19, x108_20, x108_23, x108_24, x108_27, x108_28, x108_29, x108_30, x108_33, x108_36, x108_37, x108_38, x108_39, x108_40, x108_41, x108_44, x108_45, x108_46, x108_49, x108_50, x108_53, x108_56, s_unbind, Kc_none]
end F6
