/-! the start: the constructors' cells are those of the calls -/
def sg0 : St := wn (wn (fun _ => z0) 0 373 chP) 373 31 moP
def uu0 : Bool × Nat × Nat × Int := (true, 405, (wS.map csz).sum, 0)
theorem wS_eq : chS 0 ++ moS 373 ++ [(0, 2, 1, [])] = wS := by decide +kernel
theorem wS_len : wS.length = 405 := by decide +kernel
theorem wS_sum : (wS.map csz).sum ≤ 7000000 := by decide +kernel
theorem sg0_404 : ∀ id, ov sg0 0 id = sg0 id := by
  intro id
  unfold ov
  by_cases h : id = 404
  · subst h
    rw [if_pos rfl]
    funext j
    have e : sg0 404 = z0 := by unfold sg0; rw [wn_out (by omega), wn_out (by omega)]
    rw [e]
    show (if j = 0 then (0 : Int) else 0) = 0
    split <;> rfl
  · rw [if_neg h]
theorem bH_wH : bH wS sg0 = wH sg0 uu0 := by
  unfold bH wH
  refine Prod.ext (funext fun id => ?_) ?_
  · show wcE (wS.getD id (9, 0, 0, [])) (sg0 id) = wcE (shp id) (ov sg0 0 id)
    rw [sg0_404]
    rfl
  · show (wS.length, true, wS.length, (wS.map csz).sum) = (NW + 1, true, 405, (wS.map csz).sum)
    rw [wS_len]
    rfl
section St0
variable {sc : Scr} {d : Nat} {Q : Rs → HS → Prop}
theorem start_at (hd : 10 ≤ d) : Ex sc d 274 0 [some (vS 9), none, none, none, none, none, none] [] (bH [] (fun _ => z0)) Q ↔ Ex sc d 274 23 [some (vS 9), some (vR 0), some (vR 373), some (vR 404), some (vI 0), none, none] [] (wH sg0 uu0) Q := by
  have k1 := fun (Q : Rs → HS → Prop) => (k_ch (sc := sc) (d := d - 1) (by omega)).2 [] (fun _ => z0) Q (fun _ _ => rfl)
  have n1 : ∀ f, Nw (bH [] (fun _ => z0)) (eO 11 (dflt 11)) (mNf.getD 11 0) f = f 0 (bH ([] ++ [(2, 11, 0, [])]) (fun _ => z0)) := fun f => Nw_g (qs := []) (q := (2, 11, 0, [])) (σ := fun _ => z0) (k := mNf.getD 11 0) (e := eO 11 (dflt 11)) (f := f) rfl rfl
  have k1' : ∀ (Q : Rs → HS → Prop), Ex sc (d - 1) 0 0 [some (vR 0), none] [] (bH ([] ++ [(2, 11, 0, [])]) (fun _ => z0)) Q ↔ Q (.inl none) (bH (chS 0) (wn (fun _ => z0) 0 373 chP)) := k1
  have l1 : (chS 0).length = 373 := (k_ch (sc := sc) (d := 3) (Nat.le_refl _)).1 0
  generalize hS : wn (fun _ => z0) 0 373 chP = S at *
  have hz : ∀ id, (chS 0).length ≤ id → S id = z0 := fun id h => by rw [← hS, wn_out (by omega)]
  have k2 := fun (Q : Rs → HS → Prop) => (k_mo (sc := sc) (d := d - 1) (by omega)).2 (chS 0) S Q hz
  rw [l1] at k2
  have n2 : ∀ f, Nw (bH (chS 0) S) (eO 12 (dflt 12)) (mNf.getD 12 0) f = f 373 (bH (chS 0 ++ [(2, 12, 0, [])]) S) := fun f => by
    have e := Nw_g (qs := chS 0) (q := (2, 12, 0, [])) (σ := S) (k := mNf.getD 12 0) (e := eO 12 (dflt 12)) (f := f) (by rw [hz _ (Nat.le_refl _)]; rfl) rfl
    rw [l1] at e
    exact e
  have l2 : (chS 0 ++ moS 373).length = 404 := by
    rw [List.length_append, l1]
    rfl
  have sg : wn S 373 31 moP = sg0 := by rw [← hS]; rfl
  rw [sg] at k2
  have n3 : ∀ f, Nw (bH (chS 0 ++ moS 373) sg0) (eA 2 (Int.toNat 1) (fun _ => 0)) (Int.toNat 1) f = f 404 (bH wS sg0) := fun f => by
    have z : sg0 404 = z0 := by unfold sg0; rw [wn_out (by omega), wn_out (by omega)]
    have e := Nw_g (qs := chS 0 ++ moS 373) (q := (0, 2, 1, [])) (σ := sg0) (k := 1) (e := eA 2 1 (fun _ => 0)) (f := f) (by rw [l2, z]; rfl) rfl
    rw [l2, wS_eq] at e
    exact e
  have o1 : isObj (bH ([] ++ [(2, 11, 0, [])]) (fun _ => z0)) 11 (vR 0) = true := oB (L := []) (R := []) (c := 11) (m := 0)
  have o2 : isObj (bH (chS 0 ++ [(2, 12, 0, [])]) S) 12 (vR 373) = true := by
    have := oB (L := chS 0) (R := []) (c := 12) (m := 0) (w := []) (σ := S)
    rw [l1] at this
    exact this
  rw [bH_wH] at n3
  have nS : notL (some (vS 9)) = true := rfl
  simp (disch := first | assumption | omega | exact notL_I | exact notL_N | exact notL_R | rfl | exact catS_le (Nat.le_of_ble_eq_true rfl) | exact Nat.le_of_ble_eq_true rfl) only [x274_0, n1, x274_3, x274_4, k1', Kc_none, x274_7, x274_8, n2, x274_11, x274_12, k2, x274_15, x274_16, x274_17, n3, x274_19, x274_20, x274_21]
end St0
