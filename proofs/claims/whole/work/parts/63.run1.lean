/-! runs of the class: steps noted, rows planned -/
theorem oHa_far {b : Nat} (o : oHa b) : b + 83 < 101 ∨ 106 < b := by
  have h := oRo_far o.rows
  have h0 := oRu_far o.r0
  have h1 := oRu_far o.r1
  have h2 := oRu_far o.r2
  have h3 := oRu_far o.r3
  have h4 := oRu_far o.r4
  have h5 := oRu_far o.r5
  have h6 := oRu_far o.r6
  have h7 := oRu_far o.r7
  have h8 := oRu_far o.r8
  have h9 := oRu_far o.r9
  by_cases hb : b + 83 < 101 ∨ 106 < b
  · exact hb
  · exfalso
    have q := congrArg (fun q => (q.1, q.2.1)) o.2.1
    rcases (show b = 93 ∨ b = 104 ∨ b = 105 ∨ b = 106 by omega) with rfl | rfl | rfl | rfl <;> exact absurd q (by decide)
theorem skF_snoc {σ : St} {l : Nat} : ∀ (k : Nat) (i : Int), skF σ l (k + 1) i = skF σ l k i ++ [[σ (l + 1) ((i + k) * 7), σ (l + 1) ((i + k) * 7 + 1), σ (l + 1) ((i + k) * 7 + 2), σ (l + 1) ((i + k) * 7 + 3), σ (l + 1) ((i + k) * 7 + 4), σ (l + 1) ((i + k) * 7 + 5), σ (l + 1) ((i + k) * 7 + 6)]] := by
  intro k
  induction k with
  | zero => intro i; rw [skF, skF, skF, Int.natCast_zero, Int.add_zero, List.nil_append]
  | succ k ih =>
    intro i
    rw [skF, ih (i + 1), skF, List.cons_append]
    rw [show i + 1 + (k : Int) = i + ((k + 1 : Nat) : Int) by omega]
theorem stC_snoc {σ τ : St} {l : Nat} (h0 : 0 ≤ σ l 1) (h1 : τ l 1 = σ l 1 + 1) (h2 : ∀ j, 0 ≤ j → j < σ l 1 * 7 → τ (l + 1) j = σ (l + 1) j) : stC τ l = stC σ l ++ [[τ (l + 1) (σ l 1 * 7), τ (l + 1) (σ l 1 * 7 + 1), τ (l + 1) (σ l 1 * 7 + 2), τ (l + 1) (σ l 1 * 7 + 3), τ (l + 1) (σ l 1 * 7 + 4), τ (l + 1) (σ l 1 * 7 + 5), τ (l + 1) (σ l 1 * 7 + 6)]] := by
  have e : ∀ (k : Nat) (i : Int), 0 ≤ i → i + k ≤ σ l 1 → skF τ l k i = skF σ l k i := by
    intro k
    induction k with
    | zero => intro i _ _; rfl
    | succ k ih =>
      intro i i0 ik
      rw [skF, skF, ih (i + 1) (by omega) (by omega), h2 _ (by omega) (by omega), h2 _ (by omega) (by omega), h2 _ (by omega) (by omega), h2 _ (by omega) (by omega), h2 _ (by omega) (by omega), h2 _ (by omega) (by omega), h2 _ (by omega) (by omega)]
  unfold stC
  rw [h1, show (σ l 1 + 1).toNat = (σ l 1).toNat + 1 by omega, skF_snoc, e _ 0 (by omega) (by omega), show (0 : Int) + ((σ l 1).toNat : Int) = σ l 1 by omega]
theorem stC_len {σ : St} {l : Nat} (h : 0 ≤ σ l 1) : ((stC σ l).length : Int) = σ l 1 := by
  have : ∀ (k : Nat) (i : Int), (skF σ l k i).length = k := by
    intro k
    induction k with
    | zero => intro i; rfl
    | succ k ih => intro i; rw [skF, List.length_cons, ih]
  unfold stC
  rw [this]
  omega
theorem ntS_at {σ : St} {l : Nat} {r m w b j : Int} : ntS σ l r m w b (l + 1) j = if j = σ l 1 * 7 + 6 then b else if j = σ l 1 * 7 + 5 then w else if j = σ l 1 * 7 + 2 ∨ j = σ l 1 * 7 + 3 ∨ j = σ l 1 * 7 + 4 then -1 else if j = σ l 1 * 7 + 1 then m else if j = σ l 1 * 7 then r else σ (l + 1) j := by
  unfold ntS
  rw [su_ne (by omega), su_at, su_at, su_at, su_at, su_at, su_at, su_at]
  by_cases h6 : j = σ l 1 * 7 + 6
  · rw [if_pos h6, if_pos h6]
  · rw [if_neg h6, if_neg h6]
    by_cases h5 : j = σ l 1 * 7 + 5
    · rw [if_pos h5, if_pos h5]
    · rw [if_neg h5, if_neg h5]
      by_cases h4 : j = σ l 1 * 7 + 4
      · rw [if_pos (by omega), if_pos (by omega)]
      · rw [if_neg (by omega)]
        by_cases h3 : j = σ l 1 * 7 + 3
        · rw [if_pos (by omega), if_pos (by omega)]
        · rw [if_neg (by omega)]
          by_cases h2 : j = σ l 1 * 7 + 2
          · rw [if_pos (by omega), if_pos (by omega)]
          · rw [if_neg (by omega), if_neg (c := j = σ l 1 * 7 + 2 ∨ j = σ l 1 * 7 + 3 ∨ j = σ l 1 * 7 + 4) (by omega)]
            by_cases h1 : j = σ l 1 * 7 + 1
            · rw [if_pos h1, if_pos h1]
            · rw [if_neg h1, if_neg h1]
              by_cases h0 : j = σ l 1 * 7
              · rw [if_pos (by omega), if_pos h0]
              · rw [if_neg (by omega), if_neg h0]
theorem ntS_o {σ : St} {l : Nat} {r m w b : Int} : FrB l 2 σ (ntS σ l r m w b) ∧ ntS σ l r m w b l 0 = σ l 0 ∧ ntS σ l r m w b l 1 = σ l 1 + 1 := by
  unfold ntS
  refine ⟨fun c hc => ?_, ?_, ?_⟩
  · rw [su_ne (by omega), su_ne (by omega), su_ne (by omega), su_ne (by omega), su_ne (by omega), su_ne (by omega), su_ne (by omega), su_ne (by omega)]
  · rw [su_off (by omega), su_ne (by omega), su_ne (by omega), su_ne (by omega), su_ne (by omega), su_ne (by omega), su_ne (by omega), su_ne (by omega)]
  · rw [su_eq]
theorem numO_in {L q : List Rw} (hL : ∀ w ∈ L, 0 ≤ w.1 ∧ w.1 ≤ 199) (hq : ∀ w ∈ q, w ∈ L) (i : Nat) : -1 ≤ numO q[i]? ∧ numO q[i]? ≤ 199 := by
  cases h : q[i]? with
  | none => show (-1 : Int) ≤ -1 ∧ (-1 : Int) ≤ 199; omega
  | some w =>
    have := hL w (hq w (List.mem_of_getElem? h))
    show -1 ≤ w.1 ∧ w.1 ≤ 199
    omega
theorem opI.mem {τ : St} {L q : List Rw} (h : opI τ L (some q)) : ∀ w ∈ q, w ∈ L := by
  intro w hw
  obtain ⟨j, hj⟩ := List.mem_iff_getElem?.mp hw
  exact List.mem_of_getElem? (h q rfl j w hj).2
theorem rsC_in {σ : St} {r : Nat} (W : WfRo σ r) : ∀ w ∈ rsC σ r, 0 ≤ w.1 ∧ w.1 ≤ 199 := by
  intro w hw
  obtain ⟨j, hj⟩ := List.mem_iff_getElem?.mp hw
  have l := rsC_len (σ := σ) (r := r) W.1.1
  have h1 := (List.getElem?_eq_some_iff.mp hj).1
  have g := rsC_get (σ := σ) (r := r) (p := j) (by omega) (by omega)
  rw [Int.toNat_natCast, hj] at g
  rw [Option.some.inj g]
  have := W.1.2
  exact (W.2.2.1 j (by omega) (by omega)).1
section N1
variable {sc : Scr}
theorem l_noteH {b d : Nat} {x c : Int} {q : List Rw} (o : oHa b) (hd : 2 ≤ d) (x0 : 0 ≤ x) (x1 : x ≤ 9) {σ : St} (Wr : WfRo σ (b + 3)) (hp : opI σ (rsC σ (b + 3)) (some q)) (hq : (q.length : Int) = σ (b + 14 + 7 * x.toNat + 1) 0) (h3 : q.length ≤ 3) (c0 : 0 ≤ c) (c1 : c ≤ 99) {f : Int → Int} : ∀ (k : Nat) (i : Int) (τ : St), 0 ≤ i → i + k = q.length → FrB (b + 8) 2 σ τ → WfLo τ (b + 8) → τ (b + 8) 1 = c + 1 → (∀ j, τ (b + 8 + 1) j = if c * 7 + 2 ≤ j ∧ j < c * 7 + 2 + i then numO q[(j - (c * 7 + 2)).toNat]? else f j) →
    ∃ τ', FrB (b + 8) 2 σ τ' ∧ τ' (b + 8) = τ (b + 8) ∧ (∀ j, τ' (b + 8 + 1) j = if c * 7 + 2 ≤ j ∧ j < c * 7 + 2 + q.length then numO q[(j - (c * 7 + 2)).toNat]? else f j) ∧ ∀ (u : Bool × Nat × Nat × Int) (Q : Rs → HS → Prop) (l3 l4 l5 : Option V), Ex sc d 115 16 [some (vR b), some (vR 101), some (vI x), l3, l4, l5, some (vI i)] [] (wH τ u) Q ↔ Q (.inl none) (wH τ' u) := by
  have or := o.rows
  have ol := o.log
  have ou := o.ru (k := x.toNat) (by omega)
  have oa := ou.ahead
  intro k
  induction k with
  | zero =>
    intro i τ i0 ik F W e1 ef
    have hi : i = q.length := by omega
    subst hi
    have ea : τ (b + 14 + 7 * x.toNat + 1) 0 = (q.length : Int) := by rw [F _ (by omega), hq]
    refine ⟨τ, F, rfl, ef, fun u Q l3 l4 l5 => ?_⟩
    rw [x115_16]
    simp (disch := first | assumption | omega | exact notL_I | exact notL_N | exact notL_R | exact catS_le (Nat.le_of_ble_eq_true rfl) | exact ooRo (by assumption) | exact ooAt (by assumption) | exact ooRu (by assumption) | exact ooLo (by assumption) | exact ooHa (by assumption) | exact ooLe (by assumption) | exact ooFn | exact ooAn | exact ooPa | exact ooTo | exact ooWa | exact ooCh | rfl) only [x115_0, x115_1, x115_4, x115_5, x115_6, x115_8, x115_10, x115_13, x115_14, x115_18, x115_19, x115_22, x115_23, x115_24, x115_27, x115_30, x115_33, x115_34, x115_37, x115_39, x115_40, x115_41, x115_44, x115_46, x115_49, x115_52, x115_55, x115_58, gHa_rules, Rr_rules, gRu_ahead, gAt_count, ea, if_pos, if_neg, ↓reduceIte, not_true_eq_false, not_false_eq_true]
  | succ k ih =>
    intro i τ i0 ik F W e1 ef
    have ea : τ (b + 14 + 7 * x.toNat + 1) 0 = (q.length : Int) := by rw [F _ (by omega), hq]
    have Wr2 : WfRo τ (b + 3) := Wr.c (fun c c0 c1 => F c (by omega))
    have er : rsC τ (b + 3) = rsC σ (b + 3) := rsC_c (fun c c0 c1 => F c (by omega))
    have hfar := oHa_far o
    have hp2 : opI τ (rsC τ (b + 3)) (some q) := by
      rw [er]
      intro q' hq' j w hj
      rw [F 106 (by omega)]
      exact hp q' hq' j w hj
    have hn := numO_in (rsC_in Wr) hp.mem i.toNat
    have W2 : WfLo (su τ (b + 8 + 1) (c * 7 + 2 + i) (numO q[i.toNat]?)) (b + 8) := by
      obtain ⟨w0, w1, w2, w3⟩ := W
      refine ⟨by rw [su_ne (by omega)]; exact w0, by rw [su_ne (by omega)]; exact w1, fun j j0 j1 => ?_, fun j j0 j1 => by rw [su_ne (by omega)]; exact w3 j j0 j1⟩
      rw [su_at]
      split
      · omega
      · exact w2 j j0 j1
    obtain ⟨τ', q1, q2, q3, q4⟩ := ih (i + 1) (su τ (b + 8 + 1) (c * 7 + 2 + i) (numO q[i.toNat]?)) (by omega) (by omega) (F.trans (fun c hc => su_ne (by omega))) W2 (by rw [su_ne (by omega)]; exact e1) (fun j => by
      rw [su_at, ef]
      by_cases hj : j = c * 7 + 2 + i
      · subst hj
        rw [if_pos rfl, if_pos (by omega)]
        congr 3
        omega
      · rw [if_neg hj]
        by_cases h : c * 7 + 2 ≤ j ∧ j < c * 7 + 2 + i
        · rw [if_pos h, if_pos (by omega)]
        · rw [if_neg h, if_neg (by omega)])
    refine ⟨τ', q1, by rw [q2, su_ne (by omega)], q3, fun u Q l3 l4 l5 => ?_⟩
    have q5 := q4 u Q l3 l4 l5
    have on := fun u Q => s_openNum (sc := sc) (d := d - 1) (u := u) (Q := Q) (i := i) (q := q) or (by omega) Wr2 i0 (by omega) h3 hp2
    have e1' : τ (b + 8) 1 - 1 = c := by omega
    rw [x115_16]
    simp (disch := first | assumption | omega | exact notL_I | exact notL_N | exact notL_R | exact catS_le (Nat.le_of_ble_eq_true rfl) | exact ooRo (by assumption) | exact ooAt (by assumption) | exact ooRu (by assumption) | exact ooLo (by assumption) | exact ooHa (by assumption) | exact ooLe (by assumption) | exact ooFn | exact ooAn | exact ooPa | exact ooTo | exact ooWa | exact ooCh | rfl) only [x115_0, x115_1, x115_4, x115_5, x115_6, x115_8, x115_10, x115_13, x115_14, x115_18, x115_19, x115_22, x115_23, x115_24, x115_27, x115_30, x115_33, x115_34, x115_37, x115_39, x115_40, x115_41, x115_44, x115_46, x115_49, x115_52, x115_55, x115_58, gHa_rules, gHa_log, gHa_rows, Rr_rules, gRu_ahead, gAt_count, ea, on, Kc_some, Kc_none, s_noteHit, e1', if_pos, if_neg, ↓reduceIte, not_true_eq_false, not_false_eq_true]
    exact q5
theorem s_noteH {b d : Nat} {x m w v : Int} {q : List Rw} {σ : St} (o : oHa b) (hd : 2 ≤ d) (x0 : 0 ≤ x) (x1 : x ≤ 9) (Wr : WfRo σ (b + 3)) (Wl : WfLo σ (b + 8)) (hl : σ (b + 8) 1 < 100) (hp : opI σ (rsC σ (b + 3)) (some q)) (hq : (q.length : Int) = σ (b + 14 + 7 * x.toNat + 1) 0) (h3 : q.length ≤ 3) (hm : 0 ≤ m ∧ m ≤ 3) (hw : -1 ≤ w ∧ w ≤ 1099) (hv : -1 ≤ v ∧ v ≤ 1099) :
    ∃ τ, FrB (b + 8) 2 σ τ ∧ WfLo τ (b + 8) ∧ τ (b + 8) 0 = σ (b + 8) 0 ∧ τ (b + 8) 1 = σ (b + 8) 1 + 1 ∧ stC τ (b + 8) = stC σ (b + 8) ++ [stpL x m q w v] ∧ RnA sc d 115 0 [some (vR b), some (vR 101), some (vI x), some (vI m), some (vI w), some (vI v), none] σ none τ := by
  have ol := o.log
  obtain ⟨w0, w1, w2, w3⟩ := Wl
  obtain ⟨n1, n2, n3⟩ := ntS_o (σ := σ) (l := b + 8) (r := x) (m := m) (w := w) (b := v)
  have hc : 0 ≤ σ (b + 8) 1 := w1.1
  have Wn : WfLo (ntS σ (b + 8) x m w v) (b + 8) := by
    refine ⟨by rw [n2]; exact w0, by rw [n3]; omega, fun j j0 j1 => ?_, fun j j0 j1 => by rw [n1 _ (by omega)]; exact w3 j j0 j1⟩
    rw [ntS_at]
    split; omega; split; omega; split; omega; split; omega; split; omega; exact w2 j j0 j1
  obtain ⟨τ, q1, q2, q3, q4⟩ := l_noteH (sc := sc) (d := d) (c := σ (b + 8) 1) (f := ntS σ (b + 8) x m w v (b + 8 + 1)) o hd x0 x1 Wr hp hq h3 hc (by omega) q.length 0 (ntS σ (b + 8) x m w v) (by omega) (by omega) n1 Wn n3 (fun j => by rw [if_neg (by omega)])
  have t1 : τ (b + 8) 1 = σ (b + 8) 1 + 1 := by rw [q2, n3]
  have hq3 : ∀ j : Nat, q.length ≤ j → numO q[j]? = -1 := fun j hj => by rw [List.getElem?_eq_none hj]; rfl
  have ent : ∀ i : Nat, i < 3 → τ (b + 8 + 1) (σ (b + 8) 1 * 7 + 2 + i) = numO q[i]? := by
    intro i hi
    rw [q3]
    by_cases h : i < q.length
    · rw [if_pos (by omega)]
      congr 2
      omega
    · rw [if_neg (by omega), ntS_at, if_neg (by omega), if_neg (by omega), if_pos (by omega), hq3 i (by omega)]
  have e0 : τ (b + 8 + 1) (σ (b + 8) 1 * 7) = x := by rw [q3, if_neg (by omega), ntS_at, if_neg (by omega), if_neg (by omega), if_neg (by omega), if_neg (by omega), if_pos rfl]
  have e1 : τ (b + 8 + 1) (σ (b + 8) 1 * 7 + 1) = m := by rw [q3, if_neg (by omega), ntS_at, if_neg (by omega), if_neg (by omega), if_neg (by omega), if_pos rfl]
  have e5 : τ (b + 8 + 1) (σ (b + 8) 1 * 7 + 5) = w := by rw [q3, if_neg (by omega), ntS_at, if_neg (by omega), if_pos rfl]
  have e6 : τ (b + 8 + 1) (σ (b + 8) 1 * 7 + 6) = v := by rw [q3, if_neg (by omega), ntS_at, if_pos rfl]
  have hn := numO_in (rsC_in Wr) hp.mem
  refine ⟨τ, q1, ⟨by rw [q2, n2]; exact w0, by rw [t1]; omega, fun j j0 j1 => ?_, fun j j0 j1 => by rw [q1 _ (by omega)]; exact w3 j j0 j1⟩, by rw [q2, n2], t1, ?_, fun u Q => ?_⟩
  · rw [q3]
    split
    · have := hn (j - (σ (b + 8) 1 * 7 + 2)).toNat
      omega
    · exact Wn.2.2.1 j j0 j1
  · rw [stC_snoc hc t1 (fun j j0 j1 => by rw [q3, if_neg (by omega), ntS_at, if_neg (by omega), if_neg (by omega), if_neg (by omega), if_neg (by omega), if_neg (by omega)])]
    have f0 := ent 0 (by omega)
    have f1 := ent 1 (by omega)
    have f2 := ent 2 (by omega)
    rw [show σ (b + 8) 1 * 7 + 2 + ((0 : Nat) : Int) = σ (b + 8) 1 * 7 + 2 by omega] at f0
    rw [show σ (b + 8) 1 * 7 + 2 + ((1 : Nat) : Int) = σ (b + 8) 1 * 7 + 3 by omega] at f1
    rw [show σ (b + 8) 1 * 7 + 2 + ((2 : Nat) : Int) = σ (b + 8) 1 * 7 + 4 by omega] at f2
    rw [e0, e1, f0, f1, f2, e5, e6]
    rfl
  · have q5 := q4 u Q (some (vI m)) (some (vI w)) (some (vI v))
    have ns := fun u Q => s_noteStep (sc := sc) (σ := σ) (u := u) (Q := Q) (d := d - 1) (l := b + 8) (x := x) (m := m) (w := w) (b := v) ol ⟨w0, w1, w2, w3⟩ hl
    refine Iff.trans ?_ q5
    simp (disch := first | assumption | omega | exact notL_I | exact notL_N | exact notL_R | exact catS_le (Nat.le_of_ble_eq_true rfl) | exact ooRo (by assumption) | exact ooAt (by assumption) | exact ooRu (by assumption) | exact ooLo (by assumption) | exact ooHa (by assumption) | exact ooLe (by assumption) | exact ooFn | exact ooAn | exact ooPa | exact ooTo | exact ooWa | exact ooCh | rfl) only [x115_0, x115_1, x115_4, x115_5, x115_6, x115_8, x115_10, x115_13, x115_14, x115_18, x115_19, x115_22, x115_23, x115_24, x115_27, x115_30, x115_33, x115_34, x115_37, x115_39, x115_40, x115_41, x115_44, x115_46, x115_49, x115_52, x115_55, x115_58, gHa_log, ns, Kc_none]
/-- an atom planned -/
theorem s_plan {a b d n : Nat} {σ : St} {i : Int} (o : oHa b) (oa : oAt a) (hd : 2 ≤ d) (Wa : WfAt σ a) (Wp : WfAt σ (b + 11)) (Wr : WfRo σ (b + 3)) (T : TrF σ n) (i0 : 0 ≤ i) (i1 : i < σ a 0) (hp : σ (b + 11) 0 < 3) {u : Bool × Nat × Nat × Int} {Q : Rs → HS → Prop} :
    Ex sc d 111 0 [some (vR b), some (vR 101), some (vR a), some (vI i), none, none, none, none] [] (wH σ u) Q ↔ if findL (rsC σ (b + 3)) (grA (bF σ n) (atK σ a i)) = none ∧ grA (bF σ n) (atK σ a i) ∉ asC σ (b + 11) then Q (.inl none) (wH (adA σ (b + 11) (grA (bF σ n) (atK σ a i)).1 (grA (bF σ n) (atK σ a i)).2.1 (grA (bF σ n) (atK σ a i)).2.2.1 (grA (bF σ n) (atK σ a i)).2.2.2) u) else Q (.inl none) (wH σ u) := by
  have or := o.rows
  have op := o.planned
  have wa := Wa.1
  have wt := Wa.2.1 i i0 (by omega)
  have p0 := Wa.2.2 (i * 3) (by omega) (by omega)
  have p1 := Wa.2.2 (i * 3 + 1) (by omega) (by omega)
  have p2 := Wa.2.2 (i * 3 + 2) (by omega) (by omega)
  have v0 := T.worth_in p0.1 p0.2
  have v1 := T.worth_in p1.1 p1.2
  have v2 := T.worth_in p2.1 p2.2
  have eg : grA (bF σ n) (atK σ a i) = (σ (a + 1) i, worthB (σ 102) (σ (a + 2) (i * 3)), worthB (σ 102) (σ (a + 2) (i * 3 + 1)), worthB (σ 102) (σ (a + 2) (i * 3 + 2))) := by
    unfold grA atK
    dsimp only
    rw [T.worth p0.1 p0.2, T.worth p1.1 p1.2, T.worth p2.1 p2.2]
  rw [eg]
  dsimp only
  have hz : i * 3 + 0 = i * 3 := Int.add_zero _
  have pf := pos_find (L := rsC σ (b + 3)) (g := (σ (a + 1) i, worthB (σ 102) (σ (a + 2) (i * 3)), worthB (σ 102) (σ (a + 2) (i * 3 + 1)), worthB (σ 102) (σ (a + 2) (i * 3 + 2))))
  have fc := fun u Q => s_findC (sc := sc) (σ := σ) (u := u) (Q := Q) (d := d - 1) (r := b + 3) (t := σ (a + 1) i) (x := worthB (σ 102) (σ (a + 2) (i * 3))) (y := worthB (σ 102) (σ (a + 2) (i * 3 + 1))) (z := worthB (σ 102) (σ (a + 2) (i * 3 + 2))) or ⟨by omega, by omega⟩ ⟨by omega, by omega⟩ ⟨by omega, by omega⟩ ⟨by omega, by omega⟩ Wr
  have hb := fun u Q => s_hasAtom (sc := sc) (σ := σ) (u := u) (Q := Q) (d := d - 1) (a := b + 11) (t := σ (a + 1) i) (x := worthB (σ 102) (σ (a + 2) (i * 3))) (y := worthB (σ 102) (σ (a + 2) (i * 3 + 1))) (z := worthB (σ 102) (σ (a + 2) (i * 3 + 2))) op ⟨by omega, by omega⟩ ⟨by omega, by omega⟩ ⟨by omega, by omega⟩ ⟨by omega, by omega⟩ Wp
  have lr := rsC_len (σ := σ) (r := b + 3) Wr.1.1
  have wr := Wr.1
  have pin : -1 ≤ posF (fun w => decide (w.2 = (σ (a + 1) i, worthB (σ 102) (σ (a + 2) (i * 3)), worthB (σ 102) (σ (a + 2) (i * 3 + 1)), worthB (σ 102) (σ (a + 2) (i * 3 + 2))))) (rsC σ (b + 3)) 0 ∧ posF (fun w => decide (w.2 = (σ (a + 1) i, worthB (σ 102) (σ (a + 2) (i * 3)), worthB (σ 102) (σ (a + 2) (i * 3 + 1)), worthB (σ 102) (σ (a + 2) (i * 3 + 2))))) (rsC σ (b + 3)) 0 ≤ 40 := by
    by_cases h : posF (fun w => decide (w.2 = (σ (a + 1) i, worthB (σ 102) (σ (a + 2) (i * 3)), worthB (σ 102) (σ (a + 2) (i * 3 + 1)), worthB (σ 102) (σ (a + 2) (i * 3 + 2))))) (rsC σ (b + 3)) 0 = -1
    · omega
    · have := pos_some (rsC σ (b + 3)) 0 _ rfl h
      omega
  generalize posF (fun w => decide (w.2 = (σ (a + 1) i, worthB (σ 102) (σ (a + 2) (i * 3)), worthB (σ 102) (σ (a + 2) (i * 3 + 1)), worthB (σ 102) (σ (a + 2) (i * 3 + 2))))) (rsC σ (b + 3)) 0 = pp at *
  by_cases hf : pp = -1
  · by_cases hm : (σ (a + 1) i, worthB (σ 102) (σ (a + 2) (i * 3)), worthB (σ 102) (σ (a + 2) (i * 3 + 1)), worthB (σ 102) (σ (a + 2) (i * 3 + 2))) ∈ asC σ (b + 11)
    · rw [if_neg (fun z => z.2 hm)]
      rw [decide_eq_true hm, bI_t] at hb
      simp (disch := first | assumption | omega | exact notL_I | exact notL_N | exact notL_R | exact catS_le (Nat.le_of_ble_eq_true rfl) | exact ooRo (by assumption) | exact ooAt (by assumption) | exact ooRu (by assumption) | exact ooLo (by assumption) | exact ooHa (by assumption) | exact ooLe (by assumption) | exact ooFn | exact ooAn | exact ooPa | exact ooTo | exact ooWa | exact ooCh | rfl) only [x111_0, x111_1, x111_4, x111_5, x111_6, x111_8, x111_9, x111_10, x111_11, x111_12, x111_15, x111_18, x111_20, x111_21, x111_22, x111_23, x111_24, x111_27, x111_30, x111_32, x111_33, x111_34, x111_35, x111_36, x111_39, x111_42, x111_44, x111_45, x111_48, x111_50, x111_52, x111_54, x111_56, x111_59, x111_60, x111_63, x111_64, x111_67, x111_69, x111_71, x111_73, x111_75, x111_78, x111_81, x111_82, x111_85, x111_87, x111_89, x111_91, x111_93, x111_96, gAt_table, RAt_table, s_placeAt, s_termOf, gHa_rows, gHa_planned, fc, hb, hz, Kc_some, Kc_none, if_pos, if_neg, ↓reduceIte, not_true_eq_false, not_false_eq_true]
    · rw [if_pos ⟨pf.mp hf, hm⟩]
      rw [decide_eq_false hm, bI_f] at hb
      simp (disch := first | assumption | omega | exact notL_I | exact notL_N | exact notL_R | exact catS_le (Nat.le_of_ble_eq_true rfl) | exact ooRo (by assumption) | exact ooAt (by assumption) | exact ooRu (by assumption) | exact ooLo (by assumption) | exact ooHa (by assumption) | exact ooLe (by assumption) | exact ooFn | exact ooAn | exact ooPa | exact ooTo | exact ooWa | exact ooCh | rfl) only [x111_0, x111_1, x111_4, x111_5, x111_6, x111_8, x111_9, x111_10, x111_11, x111_12, x111_15, x111_18, x111_20, x111_21, x111_22, x111_23, x111_24, x111_27, x111_30, x111_32, x111_33, x111_34, x111_35, x111_36, x111_39, x111_42, x111_44, x111_45, x111_48, x111_50, x111_52, x111_54, x111_56, x111_59, x111_60, x111_63, x111_64, x111_67, x111_69, x111_71, x111_73, x111_75, x111_78, x111_81, x111_82, x111_85, x111_87, x111_89, x111_91, x111_93, x111_96, gAt_table, RAt_table, s_placeAt, s_termOf, gHa_rows, gHa_planned, fc, hb, hz, s_addA, Kc_some, Kc_none, if_pos, if_neg, ↓reduceIte, not_true_eq_false, not_false_eq_true]
  · rw [if_neg (fun z => hf (pf.mpr z.1))]
    simp (disch := first | assumption | omega | exact notL_I | exact notL_N | exact notL_R | exact catS_le (Nat.le_of_ble_eq_true rfl) | exact ooRo (by assumption) | exact ooAt (by assumption) | exact ooRu (by assumption) | exact ooLo (by assumption) | exact ooHa (by assumption) | exact ooLe (by assumption) | exact ooFn | exact ooAn | exact ooPa | exact ooTo | exact ooWa | exact ooCh | rfl) only [x111_0, x111_1, x111_4, x111_5, x111_6, x111_8, x111_9, x111_10, x111_11, x111_12, x111_15, x111_18, x111_20, x111_21, x111_22, x111_23, x111_24, x111_27, x111_30, x111_32, x111_33, x111_34, x111_35, x111_36, x111_39, x111_42, x111_44, x111_45, x111_48, x111_50, x111_52, x111_54, x111_56, x111_59, x111_60, x111_63, x111_64, x111_67, x111_69, x111_71, x111_73, x111_75, x111_78, x111_81, x111_82, x111_85, x111_87, x111_89, x111_91, x111_93, x111_96, gAt_table, RAt_table, s_placeAt, s_termOf, gHa_rows, gHa_planned, fc, hz, Kc_some, Kc_none, if_pos, if_neg, ↓reduceIte, not_true_eq_false, not_false_eq_true]
end N1
