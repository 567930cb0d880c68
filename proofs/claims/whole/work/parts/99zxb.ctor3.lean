/-! the class's constructor (wip/whole/gen15.py) -/
theorem hallS_len {a : Nat} : (hallS a).length = 84 := by unfold hallS; rw [List.length_cons, hallT_len]
theorem parS_len {a : Nat} : (parS a).length = 7 := rfl
theorem ruleS_len {a : Nat} : (ruleS a).length = 7 := rfl
theorem finS_len {a : Nat} : (finS a).length = 6 := rfl
theorem leadS_len {a : Nat} : (leadS a).length = 5 := rfl
theorem waysS_len {a : Nat} : (waysS a).length = 2 := rfl
theorem ansS_len {a : Nat} : (ansS a).length = 2 := rfl
section Cf
variable {sc : Scr} {d : Nat} {L R : List Sh} {w : List (Nat × Nat)} {σ : St} {Q : Rs → HS → Prop}
theorem n0_12 (hd : 3 ≤ d) (hz : ∀ id, L.length + (R.length + 1) ≤ id → σ id = z0) (hw : lk2 w 1 = none) : Ex sc d 0 12 [some (vR L.length), none] [] (bH (L ++ (2, 11, 0, w) :: R) σ) Q ↔ Ex sc d 0 23 [some (vR L.length), none] [] (bH (L ++ (2, 11, 0, w ++ [(1, L.length + (R.length + 1))]) :: (R ++ hallS (L.length + (R.length + 1)))) (wn σ (L.length + (R.length + 1)) 84 hallP)) Q := by
  have n1 := fun (L R : List Sh) (o : Sh) (σ : St) (Q : Rs → HS → Prop) hz => (k_hall (sc := sc) (d := d - 1) (by omega)).nest (L := L) (R := R) (o := o) (σ := σ) (Q := Q) hz
  simp (disch := first | decide | rfl | assumption | exact hz _ (by omega) | omega | exact hz1 _ (by omega) | (rw [su_ne (by omega)]; exact hz1 _ (by omega)) | (intro id hid; exact hz id (by omega)) | (intro id hid; exact hz1 id (by omega)) | (intro id hid; rw [su_ne (by omega)]; exact hz1 id (by omega)) | (intro id hid hid2; exact hz id (by omega)) | (intro id hid hid2; exact hz1 id (by omega)) | (intro id hid hid2; rw [su_ne (by omega)]; exact hz1 id (by omega)) | exact ho _ | exact oBn | exact oB | exact notL_I | exact notL_N | exact notL_R | exact catS_le (Nat.le_of_ble_eq_true rfl) | exact Nat.le_of_ble_eq_true rfl | (refine id ?_; simp only [lk2, List.nil_append, List.cons_append, Option.isSome]; done)) only [x0_12, x0_13, x0_16, x0_17, x0_20, Nw_o, n1, Pf_br, Kc_none]
theorem n0_37 (hd : 3 ≤ d) (hz : ∀ id, L.length + (R.length + 1) ≤ id → σ id = z0) (hw : lk2 w 4 = none) : Ex sc d 0 37 [some (vR L.length), none] [] (bH (L ++ (2, 11, 0, w) :: R) σ) Q ↔ Ex sc d 0 48 [some (vR L.length), none] [] (bH (L ++ (2, 11, 0, w ++ [(4, L.length + (R.length + 1))]) :: (R ++ parS (L.length + (R.length + 1)))) (wn σ (L.length + (R.length + 1)) 7 parP)) Q := by
  have n1 := fun (L R : List Sh) (o : Sh) (σ : St) (Q : Rs → HS → Prop) hz => (k_par (sc := sc) (d := d - 1) (by omega)).nest (L := L) (R := R) (o := o) (σ := σ) (Q := Q) hz
  simp (disch := first | decide | rfl | assumption | exact hz _ (by omega) | omega | exact hz1 _ (by omega) | (rw [su_ne (by omega)]; exact hz1 _ (by omega)) | (intro id hid; exact hz id (by omega)) | (intro id hid; exact hz1 id (by omega)) | (intro id hid; rw [su_ne (by omega)]; exact hz1 id (by omega)) | (intro id hid hid2; exact hz id (by omega)) | (intro id hid hid2; exact hz1 id (by omega)) | (intro id hid hid2; rw [su_ne (by omega)]; exact hz1 id (by omega)) | exact ho _ | exact oBn | exact oB | exact notL_I | exact notL_N | exact notL_R | exact catS_le (Nat.le_of_ble_eq_true rfl) | exact Nat.le_of_ble_eq_true rfl | (refine id ?_; simp only [lk2, List.nil_append, List.cons_append, Option.isSome]; done)) only [x0_37, x0_38, x0_41, x0_42, x0_45, Nw_o, n1, Pf_br, Kc_none]
theorem n0_48 (hd : 3 ≤ d) (hz : ∀ id, L.length + (R.length + 1) ≤ id → σ id = z0) (hw : lk2 w 5 = none) : Ex sc d 0 48 [some (vR L.length), none] [] (bH (L ++ (2, 11, 0, w) :: R) σ) Q ↔ Ex sc d 0 59 [some (vR L.length), none] [] (bH (L ++ (2, 11, 0, w ++ [(5, L.length + (R.length + 1))]) :: (R ++ ruleS (L.length + (R.length + 1)))) (wn σ (L.length + (R.length + 1)) 7 ruleP)) Q := by
  have n1 := fun (L R : List Sh) (o : Sh) (σ : St) (Q : Rs → HS → Prop) hz => (k_rule (sc := sc) (d := d - 1) (by omega)).nest (L := L) (R := R) (o := o) (σ := σ) (Q := Q) hz
  simp (disch := first | decide | rfl | assumption | exact hz _ (by omega) | omega | exact hz1 _ (by omega) | (rw [su_ne (by omega)]; exact hz1 _ (by omega)) | (intro id hid; exact hz id (by omega)) | (intro id hid; exact hz1 id (by omega)) | (intro id hid; rw [su_ne (by omega)]; exact hz1 id (by omega)) | (intro id hid hid2; exact hz id (by omega)) | (intro id hid hid2; exact hz1 id (by omega)) | (intro id hid hid2; rw [su_ne (by omega)]; exact hz1 id (by omega)) | exact ho _ | exact oBn | exact oB | exact notL_I | exact notL_N | exact notL_R | exact catS_le (Nat.le_of_ble_eq_true rfl) | exact Nat.le_of_ble_eq_true rfl | (refine id ?_; simp only [lk2, List.nil_append, List.cons_append, Option.isSome]; done)) only [x0_48, x0_49, x0_52, x0_53, x0_56, Nw_o, n1, Pf_br, Kc_none]
theorem n0_59 (hd : 3 ≤ d) (hz : ∀ id, L.length + (R.length + 1) ≤ id → σ id = z0) (hw : lk2 w 6 = none) : Ex sc d 0 59 [some (vR L.length), none] [] (bH (L ++ (2, 11, 0, w) :: R) σ) Q ↔ Ex sc d 0 70 [some (vR L.length), none] [] (bH (L ++ (2, 11, 0, w ++ [(6, L.length + (R.length + 1))]) :: (R ++ finS (L.length + (R.length + 1)))) (wn σ (L.length + (R.length + 1)) 6 finP)) Q := by
  have n1 := fun (L R : List Sh) (o : Sh) (σ : St) (Q : Rs → HS → Prop) hz => (k_fin (sc := sc) (d := d - 1) (by omega)).nest (L := L) (R := R) (o := o) (σ := σ) (Q := Q) hz
  simp (disch := first | decide | rfl | assumption | exact hz _ (by omega) | omega | exact hz1 _ (by omega) | (rw [su_ne (by omega)]; exact hz1 _ (by omega)) | (intro id hid; exact hz id (by omega)) | (intro id hid; exact hz1 id (by omega)) | (intro id hid; rw [su_ne (by omega)]; exact hz1 id (by omega)) | (intro id hid hid2; exact hz id (by omega)) | (intro id hid hid2; exact hz1 id (by omega)) | (intro id hid hid2; rw [su_ne (by omega)]; exact hz1 id (by omega)) | exact ho _ | exact oBn | exact oB | exact notL_I | exact notL_N | exact notL_R | exact catS_le (Nat.le_of_ble_eq_true rfl) | exact Nat.le_of_ble_eq_true rfl | (refine id ?_; simp only [lk2, List.nil_append, List.cons_append, Option.isSome]; done)) only [x0_59, x0_60, x0_63, x0_64, x0_67, Nw_o, n1, Pf_br, Kc_none]
theorem n0_70 (hd : 3 ≤ d) (hz : ∀ id, L.length + (R.length + 1) ≤ id → σ id = z0) (hw : lk2 w 7 = none) : Ex sc d 0 70 [some (vR L.length), none] [] (bH (L ++ (2, 11, 0, w) :: R) σ) Q ↔ Ex sc d 0 81 [some (vR L.length), none] [] (bH (L ++ (2, 11, 0, w ++ [(7, L.length + (R.length + 1))]) :: (R ++ leadS (L.length + (R.length + 1)))) (wn σ (L.length + (R.length + 1)) 5 leadP)) Q := by
  have n1 := fun (L R : List Sh) (o : Sh) (σ : St) (Q : Rs → HS → Prop) hz => (k_lead (sc := sc) (d := d - 1) (by omega)).nest (L := L) (R := R) (o := o) (σ := σ) (Q := Q) hz
  simp (disch := first | decide | rfl | assumption | exact hz _ (by omega) | omega | exact hz1 _ (by omega) | (rw [su_ne (by omega)]; exact hz1 _ (by omega)) | (intro id hid; exact hz id (by omega)) | (intro id hid; exact hz1 id (by omega)) | (intro id hid; rw [su_ne (by omega)]; exact hz1 id (by omega)) | (intro id hid hid2; exact hz id (by omega)) | (intro id hid hid2; exact hz1 id (by omega)) | (intro id hid hid2; rw [su_ne (by omega)]; exact hz1 id (by omega)) | exact ho _ | exact oBn | exact oB | exact notL_I | exact notL_N | exact notL_R | exact catS_le (Nat.le_of_ble_eq_true rfl) | exact Nat.le_of_ble_eq_true rfl | (refine id ?_; simp only [lk2, List.nil_append, List.cons_append, Option.isSome]; done)) only [x0_70, x0_71, x0_74, x0_75, x0_78, Nw_o, n1, Pf_br, Kc_none]
theorem n0_81 (hd : 3 ≤ d) (hz : ∀ id, L.length + (R.length + 1) ≤ id → σ id = z0) (hw : lk2 w 8 = none) : Ex sc d 0 81 [some (vR L.length), none] [] (bH (L ++ (2, 11, 0, w) :: R) σ) Q ↔ Ex sc d 0 92 [some (vR L.length), none] [] (bH (L ++ (2, 11, 0, w ++ [(8, L.length + (R.length + 1))]) :: (R ++ leadS (L.length + (R.length + 1)))) (wn σ (L.length + (R.length + 1)) 5 leadP)) Q := by
  have n1 := fun (L R : List Sh) (o : Sh) (σ : St) (Q : Rs → HS → Prop) hz => (k_lead (sc := sc) (d := d - 1) (by omega)).nest (L := L) (R := R) (o := o) (σ := σ) (Q := Q) hz
  simp (disch := first | decide | rfl | assumption | exact hz _ (by omega) | omega | exact hz1 _ (by omega) | (rw [su_ne (by omega)]; exact hz1 _ (by omega)) | (intro id hid; exact hz id (by omega)) | (intro id hid; exact hz1 id (by omega)) | (intro id hid; rw [su_ne (by omega)]; exact hz1 id (by omega)) | (intro id hid hid2; exact hz id (by omega)) | (intro id hid hid2; exact hz1 id (by omega)) | (intro id hid hid2; rw [su_ne (by omega)]; exact hz1 id (by omega)) | exact ho _ | exact oBn | exact oB | exact notL_I | exact notL_N | exact notL_R | exact catS_le (Nat.le_of_ble_eq_true rfl) | exact Nat.le_of_ble_eq_true rfl | (refine id ?_; simp only [lk2, List.nil_append, List.cons_append, Option.isSome]; done)) only [x0_81, x0_82, x0_85, x0_86, x0_89, Nw_o, n1, Pf_br, Kc_none]
theorem n0_92 (hd : 3 ≤ d) (hz : ∀ id, L.length + (R.length + 1) ≤ id → σ id = z0) (hw : lk2 w 9 = none) : Ex sc d 0 92 [some (vR L.length), none] [] (bH (L ++ (2, 11, 0, w) :: R) σ) Q ↔ Ex sc d 0 103 [some (vR L.length), none] [] (bH (L ++ (2, 11, 0, w ++ [(9, L.length + (R.length + 1))]) :: (R ++ waysS (L.length + (R.length + 1)))) (wn σ (L.length + (R.length + 1)) 2 zP)) Q := by
  have n1 := fun (L R : List Sh) (o : Sh) (σ : St) (Q : Rs → HS → Prop) hz => (k_ways (sc := sc) (d := d - 1)).nest (L := L) (R := R) (o := o) (σ := σ) (Q := Q) hz
  simp (disch := first | decide | rfl | assumption | exact hz _ (by omega) | omega | exact hz1 _ (by omega) | (rw [su_ne (by omega)]; exact hz1 _ (by omega)) | (intro id hid; exact hz id (by omega)) | (intro id hid; exact hz1 id (by omega)) | (intro id hid; rw [su_ne (by omega)]; exact hz1 id (by omega)) | (intro id hid hid2; exact hz id (by omega)) | (intro id hid hid2; exact hz1 id (by omega)) | (intro id hid hid2; rw [su_ne (by omega)]; exact hz1 id (by omega)) | exact ho _ | exact oBn | exact oB | exact notL_I | exact notL_N | exact notL_R | exact catS_le (Nat.le_of_ble_eq_true rfl) | exact Nat.le_of_ble_eq_true rfl | (refine id ?_; simp only [lk2, List.nil_append, List.cons_append, Option.isSome]; done)) only [x0_92, x0_93, x0_96, x0_97, x0_100, Nw_o, n1, Pf_br, Kc_none]
theorem n0_103 (hd : 3 ≤ d) (hz : ∀ id, L.length + (R.length + 1) ≤ id → σ id = z0) (hw : lk2 w 10 = none) : Ex sc d 0 103 [some (vR L.length), none] [] (bH (L ++ (2, 11, 0, w) :: R) σ) Q ↔ Ex sc d 0 114 [some (vR L.length), none] [] (bH (L ++ (2, 11, 0, w ++ [(10, L.length + (R.length + 1))]) :: (R ++ ansS (L.length + (R.length + 1)))) (wn σ (L.length + (R.length + 1)) 2 zP)) Q := by
  have n1 := fun (L R : List Sh) (o : Sh) (σ : St) (Q : Rs → HS → Prop) hz => (k_ans (sc := sc) (d := d - 1)).nest (L := L) (R := R) (o := o) (σ := σ) (Q := Q) hz
  simp (disch := first | decide | rfl | assumption | exact hz _ (by omega) | omega | exact hz1 _ (by omega) | (rw [su_ne (by omega)]; exact hz1 _ (by omega)) | (intro id hid; exact hz id (by omega)) | (intro id hid; exact hz1 id (by omega)) | (intro id hid; rw [su_ne (by omega)]; exact hz1 id (by omega)) | (intro id hid hid2; exact hz id (by omega)) | (intro id hid hid2; exact hz1 id (by omega)) | (intro id hid hid2; rw [su_ne (by omega)]; exact hz1 id (by omega)) | exact ho _ | exact oBn | exact oB | exact notL_I | exact notL_N | exact notL_R | exact catS_le (Nat.le_of_ble_eq_true rfl) | exact Nat.le_of_ble_eq_true rfl | (refine id ?_; simp only [lk2, List.nil_append, List.cons_append, Option.isSome]; done)) only [x0_103, x0_104, x0_107, x0_108, x0_111, Nw_o, n1, Pf_br, Kc_none]
theorem n0_23 (hz : ∀ id, L.length + (R.length + 1) ≤ id → σ id = z0) (h0 : σ L.length = z0) (hw : lk2 w 2 = none) (hw3 : lk2 (w ++ [(2, L.length + (R.length + 1))]) 3 = none) : Ex sc d 0 23 [some (vR L.length), none] [] (bH (L ++ (2, 11, 0, w) :: R) σ) Q ↔ Ex sc d 0 37 [some (vR L.length), none] [] (bH (L ++ (2, 11, 0, w ++ [(2, L.length + (R.length + 1))]) :: (R ++ [(0, 0, 1000, [])])) σ) Q := by
  simp (disch := first | decide | rfl | assumption | exact hz _ (by omega) | omega | exact hz1 _ (by omega) | (rw [su_ne (by omega)]; exact hz1 _ (by omega)) | (intro id hid; exact hz id (by omega)) | (intro id hid; exact hz1 id (by omega)) | (intro id hid; rw [su_ne (by omega)]; exact hz1 id (by omega)) | (intro id hid hid2; exact hz id (by omega)) | (intro id hid hid2; exact hz1 id (by omega)) | (intro id hid hid2; rw [su_ne (by omega)]; exact hz1 id (by omega)) | exact ho _ | exact oBn | exact oB | exact notL_I | exact notL_N | exact notL_R | exact catS_le (Nat.le_of_ble_eq_true rfl) | exact Nat.le_of_ble_eq_true rfl | (refine id ?_; simp only [lk2, List.nil_append, List.cons_append, Option.isSome]; done)) only [x0_23, x0_24, x0_27, x0_29, x0_32, x0_33, x0_34, Nw_a, Pf_br, Pf_bi, su_z]
  exact Iff.rfl
theorem n0_0 (hz : ∀ id, L.length ≤ id → σ id = z0) : Ex sc d 0 0 [some (vR L.length), none] [] (bH (L ++ [(2, 11, 0, [])]) σ) Q ↔ Ex sc d 0 12 [some (vR L.length), none] [] (bH (L ++ (2, 11, 0, [(0, L.length + 1)]) :: [(1, 3, 3, [])]) σ) Q := by
  simp (disch := first | decide | rfl | assumption | exact hz _ (by omega) | omega | exact hz1 _ (by omega) | (rw [su_ne (by omega)]; exact hz1 _ (by omega)) | (intro id hid; exact hz id (by omega)) | (intro id hid; exact hz1 id (by omega)) | (intro id hid; rw [su_ne (by omega)]; exact hz1 id (by omega)) | (intro id hid hid2; exact hz id (by omega)) | (intro id hid hid2; exact hz1 id (by omega)) | (intro id hid hid2; rw [su_ne (by omega)]; exact hz1 id (by omega)) | exact ho _ | exact oBn | exact oB | exact notL_I | exact notL_N | exact notL_R | exact catS_le (Nat.le_of_ble_eq_true rfl) | exact Nat.le_of_ble_eq_true rfl | (refine id ?_; simp only [lk2, List.nil_append, List.cons_append, Option.isSome]; done)) only [x0_0, x0_1, x0_4, x0_5, x0_6, x0_9, Nw_r, Pf_br]
  exact Iff.rfl
end Cf
def chO (b : Nat) : Sh := (2, 11, 0, [(0, b + 1), (1, b + 2), (2, b + 86), (4, b + 87), (5, b + 94), (6, b + 101), (7, b + 107), (8, b + 112), (9, b + 117), (10, b + 119)])
def wh (b : Nat) : Nat → List (Nat × Nat)
  | 0 => []
  | i + 1 => wh b i ++ [(i, b + 121 + 84 * i)]
def hls (b : Nat) : Nat → List Sh
  | 0 => []
  | i + 1 => hls b i ++ hallS (b + 121 + 84 * i)
def chR (b i : Nat) : List Sh := hallS (b + 2) ++ ((0, 0, 1000, []) :: (parS (b + 87) ++ (ruleS (b + 94) ++ (finS (b + 101) ++ (leadS (b + 107) ++ (leadS (b + 112) ++ (waysS (b + 117) ++ (ansS (b + 119) ++ hls b i))))))))
def chS (b : Nat) : List Sh := chO b :: (1, 3, 3, wh b 3) :: chR b 3
def chP (o : Nat) (j : Int) : Int := if o < 2 then 0 else if o < 86 then hallP (o - 2) j else if o < 87 then 0 else if o < 94 then parP (o - 87) j else if o < 101 then ruleP (o - 94) j else if o < 107 then finP (o - 101) j else if o < 112 then leadP (o - 107) j else if o < 117 then leadP (o - 112) j else if o < 121 then 0 else hallP ((o - 121) % 84) j
theorem hls_len {b : Nat} : ∀ i, (hls b i).length = 84 * i := by
  intro i
  induction i with
  | zero => rfl
  | succ i ih => rw [hls, List.length_append, ih, hallS_len]; omega
theorem chR_len {b i : Nat} : (chR b i).length = 119 + 84 * i := by
  unfold chR
  simp only [List.length_append, List.length_cons, hallS_len, parS_len, ruleS_len, finS_len, leadS_len, waysS_len, ansS_len, hls_len]
  omega
theorem wh_none {b : Nat} : ∀ i k, i ≤ k → lk2 (wh b i) k = none := by
  intro i
  induction i with
  | zero => intro k _; rfl
  | succ i ih =>
    intro k h
    rw [wh, lk2_app _ _ (ih i (Nat.le_refl _)), if_neg (by omega)]
    exact ih k (by omega)
section Cg
variable {sc : Scr} {d : Nat} {L R : List Sh} {w : List (Nat × Nat)} {σ : St} {Q : Rs → HS → Prop}
theorem n0_all (hd : 3 ≤ d) (hz : ∀ id, L.length ≤ id → σ id = z0) : Ex sc d 0 0 [some (vR L.length), none] [] (bH (L ++ [(2, 11, 0, [])]) σ) Q ↔ Ex sc d 0 116 [some (vR L.length), some (vI 0)] [] (bH (L ++ chO L.length :: (1, 3, 3, wh L.length 0) :: chR L.length 0) (wn σ L.length 121 chP)) Q := by
  have s := n0_0 (sc := sc) (d := d) (L := L) (σ := σ) (Q := Q) hz
  have e0 : L.length + (([(1, 3, 3, [])] : List Sh).length + 1) = L.length + 2 := by simp only [List.length_append, List.length_cons, List.length_nil, hallS_len, parS_len, ruleS_len, finS_len, leadS_len, waysS_len, ansS_len]
  have yz0 : ∀ id, L.length + 2 ≤ id → (σ : St) id = z0 := fun id h => by
    exact hz id (by omega)
  have s0 := n0_12 (sc := sc) (d := d) (L := L) (R := [(1, 3, 3, [])]) (w := [(0, L.length + 1)]) (σ := σ) (Q := Q) hd (by rw [e0]; exact yz0) rfl
  rw [e0] at s0
  have e1 : L.length + ((([(1, 3, 3, [])] ++ hallS (L.length + 2)) : List Sh).length + 1) = L.length + 86 := by simp only [List.length_append, List.length_cons, List.length_nil, hallS_len, parS_len, ruleS_len, finS_len, leadS_len, waysS_len, ansS_len]
  have yz1 : ∀ id, L.length + 86 ≤ id → ((wn σ (L.length + 2) 84 hallP) : St) id = z0 := fun id h => by
    simp (disch := omega) only [wn_out]
    exact hz id (by omega)
  have s1 := n0_23 (sc := sc) (d := d) (L := L) (R := ([(1, 3, 3, [])] ++ hallS (L.length + 2))) (w := ([(0, L.length + 1)] ++ [(1, L.length + 2)])) (σ := (wn σ (L.length + 2) 84 hallP)) (Q := Q) (by rw [e1]; exact yz1) (by rw [wn_out (by omega)]; exact hz _ (Nat.le_refl _)) rfl rfl
  rw [e1] at s1
  have e2 : L.length + (((([(1, 3, 3, [])] ++ hallS (L.length + 2)) ++ [(0, 0, 1000, [])]) : List Sh).length + 1) = L.length + 87 := by simp only [List.length_append, List.length_cons, List.length_nil, hallS_len, parS_len, ruleS_len, finS_len, leadS_len, waysS_len, ansS_len]
  have yz2 : ∀ id, L.length + 87 ≤ id → ((wn σ (L.length + 2) 84 hallP) : St) id = z0 := fun id h => by
    simp (disch := omega) only [wn_out]
    exact hz id (by omega)
  have s2 := n0_37 (sc := sc) (d := d) (L := L) (R := (([(1, 3, 3, [])] ++ hallS (L.length + 2)) ++ [(0, 0, 1000, [])])) (w := (([(0, L.length + 1)] ++ [(1, L.length + 2)]) ++ [(2, L.length + 86)])) (σ := (wn σ (L.length + 2) 84 hallP)) (Q := Q) hd (by rw [e2]; exact yz2) rfl
  rw [e2] at s2
  have e3 : L.length + ((((([(1, 3, 3, [])] ++ hallS (L.length + 2)) ++ [(0, 0, 1000, [])]) ++ parS (L.length + 87)) : List Sh).length + 1) = L.length + 94 := by simp only [List.length_append, List.length_cons, List.length_nil, hallS_len, parS_len, ruleS_len, finS_len, leadS_len, waysS_len, ansS_len]
  have yz3 : ∀ id, L.length + 94 ≤ id → ((wn (wn σ (L.length + 2) 84 hallP) (L.length + 87) 7 parP) : St) id = z0 := fun id h => by
    simp (disch := omega) only [wn_out]
    exact hz id (by omega)
  have s3 := n0_48 (sc := sc) (d := d) (L := L) (R := ((([(1, 3, 3, [])] ++ hallS (L.length + 2)) ++ [(0, 0, 1000, [])]) ++ parS (L.length + 87))) (w := ((([(0, L.length + 1)] ++ [(1, L.length + 2)]) ++ [(2, L.length + 86)]) ++ [(4, L.length + 87)])) (σ := (wn (wn σ (L.length + 2) 84 hallP) (L.length + 87) 7 parP)) (Q := Q) hd (by rw [e3]; exact yz3) rfl
  rw [e3] at s3
  have e4 : L.length + (((((([(1, 3, 3, [])] ++ hallS (L.length + 2)) ++ [(0, 0, 1000, [])]) ++ parS (L.length + 87)) ++ ruleS (L.length + 94)) : List Sh).length + 1) = L.length + 101 := by simp only [List.length_append, List.length_cons, List.length_nil, hallS_len, parS_len, ruleS_len, finS_len, leadS_len, waysS_len, ansS_len]
  have yz4 : ∀ id, L.length + 101 ≤ id → ((wn (wn (wn σ (L.length + 2) 84 hallP) (L.length + 87) 7 parP) (L.length + 94) 7 ruleP) : St) id = z0 := fun id h => by
    simp (disch := omega) only [wn_out]
    exact hz id (by omega)
  have s4 := n0_59 (sc := sc) (d := d) (L := L) (R := (((([(1, 3, 3, [])] ++ hallS (L.length + 2)) ++ [(0, 0, 1000, [])]) ++ parS (L.length + 87)) ++ ruleS (L.length + 94))) (w := (((([(0, L.length + 1)] ++ [(1, L.length + 2)]) ++ [(2, L.length + 86)]) ++ [(4, L.length + 87)]) ++ [(5, L.length + 94)])) (σ := (wn (wn (wn σ (L.length + 2) 84 hallP) (L.length + 87) 7 parP) (L.length + 94) 7 ruleP)) (Q := Q) hd (by rw [e4]; exact yz4) rfl
  rw [e4] at s4
  have e5 : L.length + ((((((([(1, 3, 3, [])] ++ hallS (L.length + 2)) ++ [(0, 0, 1000, [])]) ++ parS (L.length + 87)) ++ ruleS (L.length + 94)) ++ finS (L.length + 101)) : List Sh).length + 1) = L.length + 107 := by simp only [List.length_append, List.length_cons, List.length_nil, hallS_len, parS_len, ruleS_len, finS_len, leadS_len, waysS_len, ansS_len]
  have yz5 : ∀ id, L.length + 107 ≤ id → ((wn (wn (wn (wn σ (L.length + 2) 84 hallP) (L.length + 87) 7 parP) (L.length + 94) 7 ruleP) (L.length + 101) 6 finP) : St) id = z0 := fun id h => by
    simp (disch := omega) only [wn_out]
    exact hz id (by omega)
  have s5 := n0_70 (sc := sc) (d := d) (L := L) (R := ((((([(1, 3, 3, [])] ++ hallS (L.length + 2)) ++ [(0, 0, 1000, [])]) ++ parS (L.length + 87)) ++ ruleS (L.length + 94)) ++ finS (L.length + 101))) (w := ((((([(0, L.length + 1)] ++ [(1, L.length + 2)]) ++ [(2, L.length + 86)]) ++ [(4, L.length + 87)]) ++ [(5, L.length + 94)]) ++ [(6, L.length + 101)])) (σ := (wn (wn (wn (wn σ (L.length + 2) 84 hallP) (L.length + 87) 7 parP) (L.length + 94) 7 ruleP) (L.length + 101) 6 finP)) (Q := Q) hd (by rw [e5]; exact yz5) rfl
  rw [e5] at s5
  have e6 : L.length + (((((((([(1, 3, 3, [])] ++ hallS (L.length + 2)) ++ [(0, 0, 1000, [])]) ++ parS (L.length + 87)) ++ ruleS (L.length + 94)) ++ finS (L.length + 101)) ++ leadS (L.length + 107)) : List Sh).length + 1) = L.length + 112 := by simp only [List.length_append, List.length_cons, List.length_nil, hallS_len, parS_len, ruleS_len, finS_len, leadS_len, waysS_len, ansS_len]
  have yz6 : ∀ id, L.length + 112 ≤ id → ((wn (wn (wn (wn (wn σ (L.length + 2) 84 hallP) (L.length + 87) 7 parP) (L.length + 94) 7 ruleP) (L.length + 101) 6 finP) (L.length + 107) 5 leadP) : St) id = z0 := fun id h => by
    simp (disch := omega) only [wn_out]
    exact hz id (by omega)
  have s6 := n0_81 (sc := sc) (d := d) (L := L) (R := (((((([(1, 3, 3, [])] ++ hallS (L.length + 2)) ++ [(0, 0, 1000, [])]) ++ parS (L.length + 87)) ++ ruleS (L.length + 94)) ++ finS (L.length + 101)) ++ leadS (L.length + 107))) (w := (((((([(0, L.length + 1)] ++ [(1, L.length + 2)]) ++ [(2, L.length + 86)]) ++ [(4, L.length + 87)]) ++ [(5, L.length + 94)]) ++ [(6, L.length + 101)]) ++ [(7, L.length + 107)])) (σ := (wn (wn (wn (wn (wn σ (L.length + 2) 84 hallP) (L.length + 87) 7 parP) (L.length + 94) 7 ruleP) (L.length + 101) 6 finP) (L.length + 107) 5 leadP)) (Q := Q) hd (by rw [e6]; exact yz6) rfl
  rw [e6] at s6
  have e7 : L.length + ((((((((([(1, 3, 3, [])] ++ hallS (L.length + 2)) ++ [(0, 0, 1000, [])]) ++ parS (L.length + 87)) ++ ruleS (L.length + 94)) ++ finS (L.length + 101)) ++ leadS (L.length + 107)) ++ leadS (L.length + 112)) : List Sh).length + 1) = L.length + 117 := by simp only [List.length_append, List.length_cons, List.length_nil, hallS_len, parS_len, ruleS_len, finS_len, leadS_len, waysS_len, ansS_len]
  have yz7 : ∀ id, L.length + 117 ≤ id → ((wn (wn (wn (wn (wn (wn σ (L.length + 2) 84 hallP) (L.length + 87) 7 parP) (L.length + 94) 7 ruleP) (L.length + 101) 6 finP) (L.length + 107) 5 leadP) (L.length + 112) 5 leadP) : St) id = z0 := fun id h => by
    simp (disch := omega) only [wn_out]
    exact hz id (by omega)
  have s7 := n0_92 (sc := sc) (d := d) (L := L) (R := ((((((([(1, 3, 3, [])] ++ hallS (L.length + 2)) ++ [(0, 0, 1000, [])]) ++ parS (L.length + 87)) ++ ruleS (L.length + 94)) ++ finS (L.length + 101)) ++ leadS (L.length + 107)) ++ leadS (L.length + 112))) (w := ((((((([(0, L.length + 1)] ++ [(1, L.length + 2)]) ++ [(2, L.length + 86)]) ++ [(4, L.length + 87)]) ++ [(5, L.length + 94)]) ++ [(6, L.length + 101)]) ++ [(7, L.length + 107)]) ++ [(8, L.length + 112)])) (σ := (wn (wn (wn (wn (wn (wn σ (L.length + 2) 84 hallP) (L.length + 87) 7 parP) (L.length + 94) 7 ruleP) (L.length + 101) 6 finP) (L.length + 107) 5 leadP) (L.length + 112) 5 leadP)) (Q := Q) hd (by rw [e7]; exact yz7) rfl
  rw [e7] at s7
  have e8 : L.length + (((((((((([(1, 3, 3, [])] ++ hallS (L.length + 2)) ++ [(0, 0, 1000, [])]) ++ parS (L.length + 87)) ++ ruleS (L.length + 94)) ++ finS (L.length + 101)) ++ leadS (L.length + 107)) ++ leadS (L.length + 112)) ++ waysS (L.length + 117)) : List Sh).length + 1) = L.length + 119 := by simp only [List.length_append, List.length_cons, List.length_nil, hallS_len, parS_len, ruleS_len, finS_len, leadS_len, waysS_len, ansS_len]
  have yz8 : ∀ id, L.length + 119 ≤ id → ((wn (wn (wn (wn (wn (wn (wn σ (L.length + 2) 84 hallP) (L.length + 87) 7 parP) (L.length + 94) 7 ruleP) (L.length + 101) 6 finP) (L.length + 107) 5 leadP) (L.length + 112) 5 leadP) (L.length + 117) 2 zP) : St) id = z0 := fun id h => by
    simp (disch := omega) only [wn_out]
    exact hz id (by omega)
  have s8 := n0_103 (sc := sc) (d := d) (L := L) (R := (((((((([(1, 3, 3, [])] ++ hallS (L.length + 2)) ++ [(0, 0, 1000, [])]) ++ parS (L.length + 87)) ++ ruleS (L.length + 94)) ++ finS (L.length + 101)) ++ leadS (L.length + 107)) ++ leadS (L.length + 112)) ++ waysS (L.length + 117))) (w := (((((((([(0, L.length + 1)] ++ [(1, L.length + 2)]) ++ [(2, L.length + 86)]) ++ [(4, L.length + 87)]) ++ [(5, L.length + 94)]) ++ [(6, L.length + 101)]) ++ [(7, L.length + 107)]) ++ [(8, L.length + 112)]) ++ [(9, L.length + 117)])) (σ := (wn (wn (wn (wn (wn (wn (wn σ (L.length + 2) 84 hallP) (L.length + 87) 7 parP) (L.length + 94) 7 ruleP) (L.length + 101) 6 finP) (L.length + 107) 5 leadP) (L.length + 112) 5 leadP) (L.length + 117) 2 zP)) (Q := Q) hd (by rw [e8]; exact yz8) rfl
  rw [e8] at s8
  have eS : (wn (wn (wn (wn (wn (wn (wn (wn σ (L.length + 2) 84 hallP) (L.length + 87) 7 parP) (L.length + 94) 7 ruleP) (L.length + 101) 6 finP) (L.length + 107) 5 leadP) (L.length + 112) 5 leadP) (L.length + 117) 2 zP) (L.length + 119) 2 zP) = wn σ L.length 121 chP := by
    funext id j
    unfold chP
    by_cases h1 : id < L.length + 2
    · by_cases h0 : L.length ≤ id
      · have := congrFun (hz id h0) j
        simp (disch := omega) only [wn, if_pos, if_neg]
        exact this
      · simp (disch := omega) only [wn, if_pos, if_neg]
    · by_cases h2 : id < L.length + 86
      · simp (disch := omega) only [wn, if_pos, if_neg]
        rw [show id - (L.length + 2) = id - L.length - 2 by omega]
      · by_cases h3 : id < L.length + 87
        · have := congrFun (hz id (by omega)) j
          simp (disch := omega) only [wn, if_pos, if_neg]
          exact this
        · by_cases h4 : id < L.length + 94
          · simp (disch := omega) only [wn, if_pos, if_neg]
            rw [show id - (L.length + 87) = id - L.length - 87 by omega]
          · by_cases h5 : id < L.length + 101
            · simp (disch := omega) only [wn, if_pos, if_neg]
              rw [show id - (L.length + 94) = id - L.length - 94 by omega]
            · by_cases h6 : id < L.length + 107
              · simp (disch := omega) only [wn, if_pos, if_neg]
                rw [show id - (L.length + 101) = id - L.length - 101 by omega]
              · by_cases h7 : id < L.length + 112
                · simp (disch := omega) only [wn, if_pos, if_neg]
                  rw [show id - (L.length + 107) = id - L.length - 107 by omega]
                · by_cases h8 : id < L.length + 117
                  · simp (disch := omega) only [wn, if_pos, if_neg]
                    rw [show id - (L.length + 112) = id - L.length - 112 by omega]
                  · by_cases h9 : id < L.length + 119
                    · simp (disch := omega) only [wn, if_pos, if_neg]
                      rfl
                    · by_cases h10 : id < L.length + 121
                      · simp (disch := omega) only [wn, if_pos, if_neg]
                        rfl
                      · simp (disch := omega) only [wn, if_pos, if_neg]
  have eT : ((((((((([(1, 3, 3, [])] ++ hallS (L.length + 2)) ++ [(0, 0, 1000, [])]) ++ parS (L.length + 87)) ++ ruleS (L.length + 94)) ++ finS (L.length + 101)) ++ leadS (L.length + 107)) ++ leadS (L.length + 112)) ++ waysS (L.length + 117)) ++ ansS (L.length + 119)) = ((1, 3, 3, wh L.length 0) : Sh) :: chR L.length 0 := by
    unfold chR wh hls
    simp only [List.append_assoc, List.cons_append, List.nil_append, List.append_nil]
  rw [s, s0, s1, s2, s3, s4, s5, s6, s7, s8, eS, eT]
  simp (disch := first | decide | rfl | assumption | exact hz _ (by omega) | omega | exact hz1 _ (by omega) | (rw [su_ne (by omega)]; exact hz1 _ (by omega)) | (intro id hid; exact hz id (by omega)) | (intro id hid; exact hz1 id (by omega)) | (intro id hid; rw [su_ne (by omega)]; exact hz1 id (by omega)) | (intro id hid hid2; exact hz id (by omega)) | (intro id hid hid2; exact hz1 id (by omega)) | (intro id hid hid2; rw [su_ne (by omega)]; exact hz1 id (by omega)) | exact ho _ | exact oBn | exact oB | exact notL_I | exact notL_N | exact notL_R | exact catS_le (Nat.le_of_ble_eq_true rfl) | exact Nat.le_of_ble_eq_true rfl | (refine id ?_; simp only [lk2, List.nil_append, List.cons_append, Option.isSome]; done)) only [x0_114, x0_115]
  exact Iff.rfl
theorem l_chB (hd : 3 ≤ d) (hz0 : ∀ id, L.length ≤ id → σ id = z0) : ∀ (k i : Nat), i + k = 3 →
    (Ex sc d 0 116 [some (vR L.length), some (vI (i : Int))] [] (bH (L ++ chO L.length :: (1, 3, 3, wh L.length i) :: chR L.length i) (wn σ L.length (121 + 84 * i) chP)) Q ↔ Q (.inl none) (bH (L ++ chS L.length) (wn σ L.length 373 chP))) := by
  intro k
  induction k with
  | zero =>
    intro i ik
    have hi : i = 3 := by omega
    subst hi
    rw [x0_116]
    simp (disch := first | decide | rfl | assumption | exact hz _ (by omega) | omega | exact hz1 _ (by omega) | (rw [su_ne (by omega)]; exact hz1 _ (by omega)) | (intro id hid; exact hz id (by omega)) | (intro id hid; exact hz1 id (by omega)) | (intro id hid; rw [su_ne (by omega)]; exact hz1 id (by omega)) | (intro id hid hid2; exact hz id (by omega)) | (intro id hid hid2; exact hz1 id (by omega)) | (intro id hid hid2; rw [su_ne (by omega)]; exact hz1 id (by omega)) | exact ho _ | exact oBn | exact oB | exact notL_I | exact notL_N | exact notL_R | exact catS_le (Nat.le_of_ble_eq_true rfl) | exact Nat.le_of_ble_eq_true rfl | (refine id ?_; simp only [lk2, List.nil_append, List.cons_append, Option.isSome]; done)) only [x0_0, x0_1, x0_4, x0_5, x0_6, x0_9, x0_12, x0_13, x0_16I, x0_16, x0_17, x0_20, x0_23, x0_24, x0_27, x0_29, x0_32, x0_33, x0_34, x0_37, x0_38, x0_41I, x0_41, x0_42, x0_45, x0_48, x0_49, x0_52I, x0_52, x0_53, x0_56, x0_59, x0_60, x0_63I, x0_63, x0_64, x0_67, x0_70, x0_71, x0_74I, x0_74, x0_75, x0_78, x0_81, x0_82, x0_85I, x0_85, x0_86, x0_89, x0_92, x0_93, x0_96I, x0_96, x0_97, x0_100, x0_103, x0_104, x0_107I, x0_107, x0_108, x0_111, x0_114, x0_115, x0_117, x0_118, x0_121, x0_122, x0_125, x0_126, x0_129I, x0_129, x0_130, x0_133, x0_134, x0_137, x0_140, if_pos, if_neg, ↓reduceIte, not_true_eq_false, not_false_eq_true]
    exact Iff.rfl
  | succ k ih =>
    intro i ik
    have h := ih (i + 1) (by omega)
    rw [show ((i + 1 : Nat) : Int) = (i : Int) + 1 by omega] at h
    generalize hS : wn σ L.length (121 + 84 * i) chP = S at *
    have aid : L.length + ((((1, 3, 3, wh L.length i) : Sh) :: chR L.length i).length + 1) = L.length + 121 + 84 * i := by
      rw [List.length_cons, chR_len]
      omega
    have hz1 : ∀ id, L.length + ((((1, 3, 3, wh L.length i) : Sh) :: chR L.length i).length + 1) ≤ id → S id = z0 := fun id h => by
      rw [aid] at h
      rw [← hS, wn_out (by omega)]
      exact hz0 id (by omega)
    have n1 := fun (L R : List Sh) (o : Sh) (σ : St) (Q : Rs → HS → Prop) hz => (k_hall (sc := sc) (d := d - 1) (by omega)).nest (L := L) (R := R) (o := o) (σ := σ) (Q := Q) hz
    have hw : lk2 (wh L.length i) ((i : Int)).toNat = none := wh_none _ _ (by omega)
    have ho : ∀ τ : St, isObj (bH (L ++ chO L.length :: ((((1, 3, 3, wh L.length i) : Sh) :: chR L.length i) ++ hallS (L.length + ((((1, 3, 3, wh L.length i) : Sh) :: chR L.length i).length + 1)))) τ) 3 (vR (L.length + ((((1, 3, 3, wh L.length i) : Sh) :: chR L.length i).length + 1))) = true := fun τ => oBn (c := 3) (m := 0) (R := ((1, 3, 3, wh L.length i) : Sh) :: chR L.length i)
    have gl : ∀ f, Gf (bH (L ++ chO L.length :: (((1, 3, 3, wh L.length i) : Sh) :: chR L.length i)) S) 11 L.length 0 f = f (vR (L.length + 1)) := fun f => Gf_br (c := 11) (k := 0) rfl
    have st : ∀ f, Sr (bH (L ++ chO L.length :: ((((1, 3, 3, wh L.length i) : Sh) :: chR L.length i) ++ hallS (L.length + ((((1, 3, 3, wh L.length i) : Sh) :: chR L.length i).length + 1)))) (wn S (L.length + ((((1, 3, 3, wh L.length i) : Sh) :: chR L.length i).length + 1)) 84 hallP)) (L.length + 1) (i : Int) (L.length + ((((1, 3, 3, wh L.length i) : Sh) :: chR L.length i).length + 1)) f = f (bH (L ++ chO L.length :: (1, 3, 3, wh L.length (i + 1)) :: chR L.length (i + 1)) (wn σ L.length (121 + 84 * (i + 1)) chP)) := by
      intro f
      rw [Sr_1 (Or.inl rfl) (by omega) (by omega) (by decide) hw (ho _)]
      congr 2
      · rw [List.cons_append, wh, aid]
        have e1 : chR L.length i ++ hallS (L.length + 121 + 84 * i) = chR L.length (i + 1) := by
          unfold chR
          rw [hls]
          simp only [List.append_assoc, List.cons_append]
        rw [e1]
        rfl
      · rw [aid, ← hS]
        funext id j
        unfold wn
        by_cases h1 : L.length + 121 + 84 * i ≤ id ∧ id < L.length + 121 + 84 * i + 84
        · rw [if_pos h1, if_pos (by omega)]
          unfold chP
          simp (disch := omega) only [if_neg]
          rw [show (id - L.length - 121) % 84 = id - (L.length + 121 + 84 * i) by omega]
        · rw [if_neg h1]
          by_cases h2 : L.length ≤ id ∧ id < L.length + (121 + 84 * i)
          · rw [if_pos h2, if_pos (by omega)]
          · rw [if_neg h2, if_neg (by omega)]
    rw [x0_116]
    simp (disch := first | decide | rfl | assumption | exact hz _ (by omega) | omega | exact hz1 _ (by omega) | (rw [su_ne (by omega)]; exact hz1 _ (by omega)) | (intro id hid; exact hz id (by omega)) | (intro id hid; exact hz1 id (by omega)) | (intro id hid; rw [su_ne (by omega)]; exact hz1 id (by omega)) | (intro id hid hid2; exact hz id (by omega)) | (intro id hid hid2; exact hz1 id (by omega)) | (intro id hid hid2; rw [su_ne (by omega)]; exact hz1 id (by omega)) | exact ho _ | exact oBn | exact oB | exact notL_I | exact notL_N | exact notL_R | exact catS_le (Nat.le_of_ble_eq_true rfl) | exact Nat.le_of_ble_eq_true rfl | (refine id ?_; simp only [lk2, List.nil_append, List.cons_append, Option.isSome]; done)) only [x0_0, x0_1, x0_4, x0_5, x0_6, x0_9, x0_12, x0_13, x0_16I, x0_16, x0_17, x0_20, x0_23, x0_24, x0_27, x0_29, x0_32, x0_33, x0_34, x0_37, x0_38, x0_41I, x0_41, x0_42, x0_45, x0_48, x0_49, x0_52I, x0_52, x0_53, x0_56, x0_59, x0_60, x0_63I, x0_63, x0_64, x0_67, x0_70, x0_71, x0_74I, x0_74, x0_75, x0_78, x0_81, x0_82, x0_85I, x0_85, x0_86, x0_89, x0_92, x0_93, x0_96I, x0_96, x0_97, x0_100, x0_103, x0_104, x0_107I, x0_107, x0_108, x0_111, x0_114, x0_115, x0_117, x0_118, x0_121, x0_122, x0_125, x0_126, x0_129I, x0_129, x0_130, x0_133, x0_134, x0_137, x0_140, gl, Nw_o, n1, st, Kc_none, if_pos, if_neg, ↓reduceIte, not_true_eq_false, not_false_eq_true]
    exact h
theorem k_ch (hd : 3 ≤ d) : Ct sc d 0 11 [none] 373 chS chP := by
  refine ⟨fun b => by unfold chS; rw [List.length_cons, List.length_cons, chR_len], fun L σ Q hz => ?_⟩
  rw [n0_all hd hz]
  exact l_chB (sc := sc) (d := d) hd (L := L) (σ := σ) (Q := Q) hz 3 0 (by omega)
end Cg
