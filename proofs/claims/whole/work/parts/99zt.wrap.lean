/-! the wrappers of the law: what is thrown is told as a number (wip/whole/gen13.py) -/
/-- a wrapper and the reference behind it: a long put, or a number told -/
def Wk (g : Int → Int) (sc : Scr) (d yw : Nat) (lw : LV) (yr : Nat) (lr : LV) (σ : St) : Prop :=
  (∃ (A : AS) (τ ρ : St) (v : Int), VV A ρ ∧ inR v ∧ ρ 373 0 = 0 ∧ (∀ (u : Bool × Nat × Nat × Int) (Q : Rs → HS → Prop), Ex sc d yw 0 lw [] (wH σ u) Q ↔ Q (.inl (some (vI 0))) (wH τ (stU u (g v)))) ∧ RnA sc d yr 0 lr τ (some (vI v)) ρ) ∨
  (∃ (A : AS) (τ ρ : St) (v : Int) (k : Nat), VV A ρ ∧ inR v ∧ (k = 1 ∨ k = 2) ∧ ρ 373 0 = (k : Int) ∧ (∀ (u : Bool × Nat × Nat × Int) (Q : Rs → HS → Prop), Ex sc d yw 0 lw [] (wH σ u) Q ↔ Q (.inl (some (vI (k : Int)))) (wH τ (thU u))) ∧ RnA sc d yr 0 lr τ (some (vI v)) ρ)
theorem catK {sc : Scr} {d y pc nx : Nat} {lv : LV} {r : List V} {Q : Rs → HS → Prop} {k j pc2 : Nat} {hs : HS} (h1 : isV y pc = true) (h2 : hnd y pc k = some (j, pc2)) : Kc sc d y pc nx lv r Q (.inr k) hs ↔ Ex sc d y pc2 (lv.map (fun _ => none)) [] hs Q := by
  unfold Kc
  dsimp only
  rw [if_pos h1, h2]
def g01 (v : Int) : Int := if v = 0 then 0 else 1
section Wr
variable {sc : Scr} {d : Nat} {σ : St}
theorem w_load {a1 : Int} (hd : 2 ≤ d) (L : Lk sc (d - 1) 22 [some (vR 0), some (vI a1), none] 181 [some (vR 373), some (vI a1), none] σ) : Wk id sc d 21 [some (vR 0), some (vI a1), some (vR 404), none] 181 [some (vR 373), some (vI a1), none] σ := by
  obtain ⟨A, τ, ρ, r, v, V, hv, hm, hr⟩ := L
  have iv : inR v := by
    rcases hv with z | z | z
    · cases z
    · cases z
    · exact z
  have hr2 := hr.dep
  rw [Nat.sub_add_cancel (show 1 ≤ d by omega)] at hr2
  cases r with
  | inl w =>
    obtain ⟨e, z0, rc⟩ := hm
    subst e
    unfold RnA at rc
    refine Or.inl ⟨A, τ, ρ, w, V, iv, z0, fun u Q => ?_, hr2⟩
    simp (disch := first | assumption | omega | exact notL_I | exact notL_N | exact notL_R | exact oM | exact ooCh | exact catS_le (Nat.le_of_ble_eq_true rfl) | exact Nat.le_of_ble_eq_true rfl | rfl) only [x21_0, x21_1, x21_2, x21_3, x21_4, x21_7, x21_8, x21_9, x21_12, x21_13, x21_14, x21_15, x21_16, rc, WL_, Kc_some, id_eq, if_pos, if_neg, ↓reduceIte, not_true_eq_false, not_false_eq_true]
  | inr k =>
    obtain ⟨hk, z0, rc⟩ := hm
    rcases hk with e | e
    · obtain ⟨e, -⟩ := e
      subst e
      have ck := fun nx lv r Q hs => catK (sc := sc) (d := d) (y := 21) (pc := 4) (nx := nx) (lv := lv) (r := r) (Q := Q) (k := 1) (hs := hs) rfl rfl
      refine Or.inr ⟨A, τ, ρ, v, 1, V, iv, Or.inl rfl, z0, fun u Q => ?_, hr2⟩
      simp (disch := first | assumption | omega | exact notL_I | exact notL_N | exact notL_R | exact oM | exact ooCh | exact catS_le (Nat.le_of_ble_eq_true rfl) | exact Nat.le_of_ble_eq_true rfl | rfl) only [x21_0, x21_1, x21_2, x21_3, x21_4, x21_7, x21_8, x21_9, x21_12, x21_13, x21_14, x21_15, x21_16, rc, ck, List.map_cons, List.map_nil, Int.natCast_one]
    · cases e.2
theorem w_copy {a1 a2 : Int} (hd : 2 ≤ d) (L : Lk sc (d - 1) 74 [some (vR 0), some (vI a1), some (vI a2), none, none] 217 [some (vR 373), some (vI a1), some (vI a2)] σ) : Wk id sc d 73 [some (vR 0), some (vI a1), some (vI a2), some (vR 404), none] 217 [some (vR 373), some (vI a1), some (vI a2)] σ := by
  obtain ⟨A, τ, ρ, r, v, V, hv, hm, hr⟩ := L
  have iv : inR v := by
    rcases hv with z | z | z
    · cases z
    · cases z
    · exact z
  have hr2 := hr.dep
  rw [Nat.sub_add_cancel (show 1 ≤ d by omega)] at hr2
  cases r with
  | inl w =>
    obtain ⟨e, z0, rc⟩ := hm
    subst e
    unfold RnA at rc
    refine Or.inl ⟨A, τ, ρ, w, V, iv, z0, fun u Q => ?_, hr2⟩
    simp (disch := first | assumption | omega | exact notL_I | exact notL_N | exact notL_R | exact oM | exact ooCh | exact catS_le (Nat.le_of_ble_eq_true rfl) | exact Nat.le_of_ble_eq_true rfl | rfl) only [x73_0, x73_1, x73_2, x73_3, x73_4, x73_5, x73_8, x73_9, x73_10, x73_13, x73_15, x73_16, x73_17, x73_18, rc, WL_, Kc_some, id_eq, if_pos, if_neg, ↓reduceIte, not_true_eq_false, not_false_eq_true]
  | inr k =>
    obtain ⟨hk, z0, rc⟩ := hm
    rcases hk with e | e
    · obtain ⟨e, -⟩ := e
      subst e
      have ck := fun nx lv r Q hs => catK (sc := sc) (d := d) (y := 73) (pc := 5) (nx := nx) (lv := lv) (r := r) (Q := Q) (k := 1) (hs := hs) rfl rfl
      refine Or.inr ⟨A, τ, ρ, v, 1, V, iv, Or.inl rfl, z0, fun u Q => ?_, hr2⟩
      simp (disch := first | assumption | omega | exact notL_I | exact notL_N | exact notL_R | exact oM | exact ooCh | exact catS_le (Nat.le_of_ble_eq_true rfl) | exact Nat.le_of_ble_eq_true rfl | rfl) only [x73_0, x73_1, x73_2, x73_3, x73_4, x73_5, x73_8, x73_9, x73_10, x73_13, x73_15, x73_16, x73_17, x73_18, rc, ck, List.map_cons, List.map_nil, Int.natCast_one]
    · cases e.2
theorem w_look {a1 a2 : Int} (hd : 2 ≤ d) (L : Lk sc (d - 1) 76 [some (vR 0), some (vI a1), some (vI a2), none] 218 [some (vR 373), some (vI a1), some (vI a2)] σ) : Wk id sc d 75 [some (vR 0), some (vI a1), some (vI a2), some (vR 404), none] 218 [some (vR 373), some (vI a1), some (vI a2)] σ := by
  obtain ⟨A, τ, ρ, r, v, V, hv, hm, hr⟩ := L
  have iv : inR v := by
    rcases hv with z | z | z
    · cases z
    · cases z
    · exact z
  have hr2 := hr.dep
  rw [Nat.sub_add_cancel (show 1 ≤ d by omega)] at hr2
  cases r with
  | inl w =>
    obtain ⟨e, z0, rc⟩ := hm
    subst e
    unfold RnA at rc
    refine Or.inl ⟨A, τ, ρ, w, V, iv, z0, fun u Q => ?_, hr2⟩
    simp (disch := first | assumption | omega | exact notL_I | exact notL_N | exact notL_R | exact oM | exact ooCh | exact catS_le (Nat.le_of_ble_eq_true rfl) | exact Nat.le_of_ble_eq_true rfl | rfl) only [x75_0, x75_1, x75_2, x75_3, x75_4, x75_5, x75_8, x75_9, x75_10, x75_13, x75_15, x75_16, x75_17, x75_18, rc, WL_, Kc_some, id_eq, if_pos, if_neg, ↓reduceIte, not_true_eq_false, not_false_eq_true]
  | inr k =>
    obtain ⟨hk, z0, rc⟩ := hm
    rcases hk with e | e
    · obtain ⟨e, -⟩ := e
      subst e
      have ck := fun nx lv r Q hs => catK (sc := sc) (d := d) (y := 75) (pc := 5) (nx := nx) (lv := lv) (r := r) (Q := Q) (k := 1) (hs := hs) rfl rfl
      refine Or.inr ⟨A, τ, ρ, v, 1, V, iv, Or.inl rfl, z0, fun u Q => ?_, hr2⟩
      simp (disch := first | assumption | omega | exact notL_I | exact notL_N | exact notL_R | exact oM | exact ooCh | exact catS_le (Nat.le_of_ble_eq_true rfl) | exact Nat.le_of_ble_eq_true rfl | rfl) only [x75_0, x75_1, x75_2, x75_3, x75_4, x75_5, x75_8, x75_9, x75_10, x75_13, x75_15, x75_16, x75_17, x75_18, rc, ck, List.map_cons, List.map_nil, Int.natCast_one]
    · cases e.2
theorem w_row {a1 a2 a3 : Int} (hd : 2 ≤ d) (L : Lk sc (d - 1) 81 [some (vR 0), some (vI a1), some (vI a2), some (vI a3), none] 221 [some (vR 373), some (vI a1), some (vI a2), some (vI a3), none, none] σ) : Wk id sc d 80 [some (vR 0), some (vI a1), some (vI a2), some (vI a3), some (vR 404), none] 221 [some (vR 373), some (vI a1), some (vI a2), some (vI a3), none, none] σ := by
  obtain ⟨A, τ, ρ, r, v, V, hv, hm, hr⟩ := L
  have iv : inR v := by
    rcases hv with z | z | z
    · cases z
    · cases z
    · exact z
  have hr2 := hr.dep
  rw [Nat.sub_add_cancel (show 1 ≤ d by omega)] at hr2
  cases r with
  | inl w =>
    obtain ⟨e, z0, rc⟩ := hm
    subst e
    unfold RnA at rc
    refine Or.inl ⟨A, τ, ρ, w, V, iv, z0, fun u Q => ?_, hr2⟩
    simp (disch := first | assumption | omega | exact notL_I | exact notL_N | exact notL_R | exact oM | exact ooCh | exact catS_le (Nat.le_of_ble_eq_true rfl) | exact Nat.le_of_ble_eq_true rfl | rfl) only [x80_0, x80_2, x80_3, x80_4, x80_5, x80_6, x80_7, x80_10, x80_11, x80_12, x80_15, x80_17, x80_18, x80_19, x80_20, rc, WL_, Kc_some, id_eq, if_pos, if_neg, ↓reduceIte, not_true_eq_false, not_false_eq_true]
  | inr k =>
    obtain ⟨hk, z0, rc⟩ := hm
    rcases hk with e | e
    · obtain ⟨e, -⟩ := e
      subst e
      have ck := fun nx lv r Q hs => catK (sc := sc) (d := d) (y := 80) (pc := 7) (nx := nx) (lv := lv) (r := r) (Q := Q) (k := 1) (hs := hs) rfl rfl
      refine Or.inr ⟨A, τ, ρ, v, 1, V, iv, Or.inl rfl, z0, fun u Q => ?_, hr2⟩
      simp (disch := first | assumption | omega | exact notL_I | exact notL_N | exact notL_R | exact oM | exact ooCh | exact catS_le (Nat.le_of_ble_eq_true rfl) | exact Nat.le_of_ble_eq_true rfl | rfl) only [x80_0, x80_2, x80_3, x80_4, x80_5, x80_6, x80_7, x80_10, x80_11, x80_12, x80_15, x80_17, x80_18, x80_19, x80_20, rc, ck, List.map_cons, List.map_nil, Int.natCast_one]
    · cases e.2
theorem w_put {a1 a2 a3 a4 a5 : Int} (hd : 2 ≤ d) (L : Lk sc (d - 1) 84 [some (vR 0), some (vI a1), some (vI a2), some (vI a3), some (vI a4), some (vI a5), none, none, none, none, none, none] 222 [some (vR 373), some (vI a1), some (vI a2), some (vI a3), some (vI a4), some (vI a5), none, none] σ) : Wk id sc d 83 [some (vR 0), some (vI a1), some (vI a2), some (vI a3), some (vI a4), some (vI a5), some (vR 404), none] 222 [some (vR 373), some (vI a1), some (vI a2), some (vI a3), some (vI a4), some (vI a5), none, none] σ := by
  obtain ⟨A, τ, ρ, r, v, V, hv, hm, hr⟩ := L
  have iv : inR v := by
    rcases hv with z | z | z
    · cases z
    · cases z
    · exact z
  have hr2 := hr.dep
  rw [Nat.sub_add_cancel (show 1 ≤ d by omega)] at hr2
  cases r with
  | inl w =>
    obtain ⟨e, z0, rc⟩ := hm
    subst e
    unfold RnA at rc
    refine Or.inl ⟨A, τ, ρ, w, V, iv, z0, fun u Q => ?_, hr2⟩
    simp (disch := first | assumption | omega | exact notL_I | exact notL_N | exact notL_R | exact oM | exact ooCh | exact catS_le (Nat.le_of_ble_eq_true rfl) | exact Nat.le_of_ble_eq_true rfl | rfl) only [x83_0, x83_2, x83_3, x83_4, x83_5, x83_6, x83_7, x83_9, x83_11, x83_14, x83_15, x83_16, x83_19, x83_21, x83_22, x83_23, x83_24, rc, WL_, Kc_some, id_eq, if_pos, if_neg, ↓reduceIte, not_true_eq_false, not_false_eq_true]
  | inr k =>
    obtain ⟨hk, z0, rc⟩ := hm
    rcases hk with e | e
    · obtain ⟨e, -⟩ := e
      subst e
      have ck := fun nx lv r Q hs => catK (sc := sc) (d := d) (y := 83) (pc := 11) (nx := nx) (lv := lv) (r := r) (Q := Q) (k := 1) (hs := hs) rfl rfl
      refine Or.inr ⟨A, τ, ρ, v, 1, V, iv, Or.inl rfl, z0, fun u Q => ?_, hr2⟩
      simp (disch := first | assumption | omega | exact notL_I | exact notL_N | exact notL_R | exact oM | exact ooCh | exact catS_le (Nat.le_of_ble_eq_true rfl) | exact Nat.le_of_ble_eq_true rfl | rfl) only [x83_0, x83_2, x83_3, x83_4, x83_5, x83_6, x83_7, x83_9, x83_11, x83_14, x83_15, x83_16, x83_19, x83_21, x83_22, x83_23, x83_24, rc, ck, List.map_cons, List.map_nil, Int.natCast_one]
    · cases e.2
theorem w_strike {a1 a2 : Int} (hd : 2 ≤ d) (L : Lk sc (d - 1) 88 [some (vR 0), some (vI a1), some (vI a2), none, none] 224 [some (vR 373), some (vI a1), some (vI a2)] σ) : Wk g01 sc d 87 [some (vR 0), some (vI a1), some (vI a2), some (vR 404), none] 224 [some (vR 373), some (vI a1), some (vI a2)] σ := by
  obtain ⟨A, τ, ρ, r, v, V, hv, hm, hr⟩ := L
  have iv : inR v := by
    rcases hv with z | z | z
    · cases z
    · cases z
    · exact z
  have hr2 := hr.dep
  rw [Nat.sub_add_cancel (show 1 ≤ d by omega)] at hr2
  cases r with
  | inl w =>
    obtain ⟨e, z0, rc⟩ := hm
    subst e
    unfold RnA at rc
    refine Or.inl ⟨A, τ, ρ, w, V, iv, z0, fun u Q => ?_, hr2⟩
    unfold g01
    by_cases w0 : w = 0
    · rw [if_pos w0]
      rw [w0] at rc
      simp (disch := first | assumption | omega | exact notL_I | exact notL_N | exact notL_R | exact oM | exact ooCh | exact catS_le (Nat.le_of_ble_eq_true rfl) | exact Nat.le_of_ble_eq_true rfl | rfl) only [x87_0, x87_1, x87_2, x87_3, x87_4, x87_5, x87_8, x87_11, x87_12, x87_15, x87_16, x87_17, x87_20, x87_22, x87_23, x87_24, x87_25, rc, WL_, Kc_some, if_pos, if_neg, ↓reduceIte, not_true_eq_false, not_false_eq_true]
    · rw [if_neg w0]
      simp (disch := first | assumption | omega | exact notL_I | exact notL_N | exact notL_R | exact oM | exact ooCh | exact catS_le (Nat.le_of_ble_eq_true rfl) | exact Nat.le_of_ble_eq_true rfl | rfl) only [x87_0, x87_1, x87_2, x87_3, x87_4, x87_5, x87_8, x87_11, x87_12, x87_15, x87_16, x87_17, x87_20, x87_22, x87_23, x87_24, x87_25, rc, WL_, Kc_some, if_pos, if_neg, ↓reduceIte, not_true_eq_false, not_false_eq_true]
  | inr k =>
    obtain ⟨hk, z0, rc⟩ := hm
    rcases hk with e | e
    · obtain ⟨e, -⟩ := e
      subst e
      have ck := fun nx lv r Q hs => catK (sc := sc) (d := d) (y := 87) (pc := 5) (nx := nx) (lv := lv) (r := r) (Q := Q) (k := 1) (hs := hs) rfl rfl
      refine Or.inr ⟨A, τ, ρ, v, 1, V, iv, Or.inl rfl, z0, fun u Q => ?_, hr2⟩
      simp (disch := first | assumption | omega | exact notL_I | exact notL_N | exact notL_R | exact oM | exact ooCh | exact catS_le (Nat.le_of_ble_eq_true rfl) | exact Nat.le_of_ble_eq_true rfl | rfl) only [x87_0, x87_1, x87_2, x87_3, x87_4, x87_5, x87_8, x87_11, x87_12, x87_15, x87_16, x87_17, x87_20, x87_22, x87_23, x87_24, x87_25, rc, ck, List.map_cons, List.map_nil, Int.natCast_one]
    · cases e.2
theorem w_run {a1 a2 : Int} (hd : 2 ≤ d) (L : Lk sc (d - 1) 92 [some (vR 0), some (vI a1), some (vI a2), none] 241 [some (vR 373), some (vI a1), some (vI a2)] σ) : Wk id sc d 91 [some (vR 0), some (vI a1), some (vI a2), some (vR 404), none] 241 [some (vR 373), some (vI a1), some (vI a2)] σ := by
  obtain ⟨A, τ, ρ, r, v, V, hv, hm, hr⟩ := L
  have iv : inR v := by
    rcases hv with z | z | z
    · cases z
    · cases z
    · exact z
  have hr2 := hr.dep
  rw [Nat.sub_add_cancel (show 1 ≤ d by omega)] at hr2
  cases r with
  | inl w =>
    obtain ⟨e, z0, rc⟩ := hm
    subst e
    unfold RnA at rc
    refine Or.inl ⟨A, τ, ρ, w, V, iv, z0, fun u Q => ?_, hr2⟩
    simp (disch := first | assumption | omega | exact notL_I | exact notL_N | exact notL_R | exact oM | exact ooCh | exact catS_le (Nat.le_of_ble_eq_true rfl) | exact Nat.le_of_ble_eq_true rfl | rfl) only [x91_0, x91_1, x91_2, x91_3, x91_4, x91_5, x91_8, x91_9, x91_10, x91_13, x91_15, x91_16, x91_17, x91_18, rc, WL_, Kc_some, id_eq, if_pos, if_neg, ↓reduceIte, not_true_eq_false, not_false_eq_true]
  | inr k =>
    obtain ⟨hk, z0, rc⟩ := hm
    rcases hk with e | e
    · obtain ⟨e, -⟩ := e
      subst e
      have ck := fun nx lv r Q hs => catK (sc := sc) (d := d) (y := 91) (pc := 5) (nx := nx) (lv := lv) (r := r) (Q := Q) (k := 1) (hs := hs) rfl rfl
      refine Or.inr ⟨A, τ, ρ, v, 1, V, iv, Or.inl rfl, z0, fun u Q => ?_, hr2⟩
      simp (disch := first | assumption | omega | exact notL_I | exact notL_N | exact notL_R | exact oM | exact ooCh | exact catS_le (Nat.le_of_ble_eq_true rfl) | exact Nat.le_of_ble_eq_true rfl | rfl) only [x91_0, x91_1, x91_2, x91_3, x91_4, x91_5, x91_8, x91_9, x91_10, x91_13, x91_15, x91_16, x91_17, x91_18, rc, ck, List.map_cons, List.map_nil, Int.natCast_one]
    · cases e.2
theorem w_step {a1 a2 a3 : Int} (hd : 2 ≤ d) (L : Lk sc (d - 1) 122 [some (vR 0), some (vI a1), some (vI a2), some (vI a3)] 251 [some (vR 373), some (vI a1), some (vI a2), some (vI a3)] σ) : Wk id sc d 121 [some (vR 0), some (vI a1), some (vI a2), some (vI a3), some (vR 404), none] 251 [some (vR 373), some (vI a1), some (vI a2), some (vI a3)] σ := by
  obtain ⟨A, τ, ρ, r, v, V, hv, hm, hr⟩ := L
  have iv : inR v := by
    rcases hv with z | z | z
    · cases z
    · cases z
    · exact z
  have hr2 := hr.dep
  rw [Nat.sub_add_cancel (show 1 ≤ d by omega)] at hr2
  cases r with
  | inl w =>
    obtain ⟨e, z0, rc⟩ := hm
    subst e
    unfold RnA at rc
    refine Or.inl ⟨A, τ, ρ, w, V, iv, z0, fun u Q => ?_, hr2⟩
    simp (disch := first | assumption | omega | exact notL_I | exact notL_N | exact notL_R | exact oM | exact ooCh | exact catS_le (Nat.le_of_ble_eq_true rfl) | exact Nat.le_of_ble_eq_true rfl | rfl) only [x121_0, x121_2, x121_3, x121_4, x121_5, x121_6, x121_7, x121_10, x121_11, x121_12, x121_15, x121_17, x121_18, x121_19, x121_20, rc, WL_, Kc_some, id_eq, if_pos, if_neg, ↓reduceIte, not_true_eq_false, not_false_eq_true]
  | inr k =>
    obtain ⟨hk, z0, rc⟩ := hm
    rcases hk with e | e
    · obtain ⟨e, -⟩ := e
      subst e
      have ck := fun nx lv r Q hs => catK (sc := sc) (d := d) (y := 121) (pc := 7) (nx := nx) (lv := lv) (r := r) (Q := Q) (k := 1) (hs := hs) rfl rfl
      refine Or.inr ⟨A, τ, ρ, v, 1, V, iv, Or.inl rfl, z0, fun u Q => ?_, hr2⟩
      simp (disch := first | assumption | omega | exact notL_I | exact notL_N | exact notL_R | exact oM | exact ooCh | exact catS_le (Nat.le_of_ble_eq_true rfl) | exact Nat.le_of_ble_eq_true rfl | rfl) only [x121_0, x121_2, x121_3, x121_4, x121_5, x121_6, x121_7, x121_10, x121_11, x121_12, x121_15, x121_17, x121_18, x121_19, x121_20, rc, ck, List.map_cons, List.map_nil, Int.natCast_one]
    · cases e.2
theorem w_by {a1 a2 : Int} (hd : 2 ≤ d) (L : Lk sc (d - 1) 125 [some (vR 0), some (vI a1), some (vI a2)] 253 [some (vR 373), some (vI a1), some (vI a2)] σ) : Wk id sc d 124 [some (vR 0), some (vI a1), some (vI a2), some (vR 404), none] 253 [some (vR 373), some (vI a1), some (vI a2)] σ := by
  obtain ⟨A, τ, ρ, r, v, V, hv, hm, hr⟩ := L
  have iv : inR v := by
    rcases hv with z | z | z
    · cases z
    · cases z
    · exact z
  have hr2 := hr.dep
  rw [Nat.sub_add_cancel (show 1 ≤ d by omega)] at hr2
  cases r with
  | inl w =>
    obtain ⟨e, z0, rc⟩ := hm
    subst e
    unfold RnA at rc
    refine Or.inl ⟨A, τ, ρ, w, V, iv, z0, fun u Q => ?_, hr2⟩
    simp (disch := first | assumption | omega | exact notL_I | exact notL_N | exact notL_R | exact oM | exact ooCh | exact catS_le (Nat.le_of_ble_eq_true rfl) | exact Nat.le_of_ble_eq_true rfl | rfl) only [x124_0, x124_1, x124_2, x124_3, x124_4, x124_5, x124_8, x124_9, x124_10, x124_13, x124_15, x124_16, x124_17, x124_18, rc, WL_, Kc_some, id_eq, if_pos, if_neg, ↓reduceIte, not_true_eq_false, not_false_eq_true]
  | inr k =>
    obtain ⟨hk, z0, rc⟩ := hm
    rcases hk with e | e
    · obtain ⟨e, -⟩ := e
      subst e
      have ck := fun nx lv r Q hs => catK (sc := sc) (d := d) (y := 124) (pc := 5) (nx := nx) (lv := lv) (r := r) (Q := Q) (k := 1) (hs := hs) rfl rfl
      refine Or.inr ⟨A, τ, ρ, v, 1, V, iv, Or.inl rfl, z0, fun u Q => ?_, hr2⟩
      simp (disch := first | assumption | omega | exact notL_I | exact notL_N | exact notL_R | exact oM | exact ooCh | exact catS_le (Nat.le_of_ble_eq_true rfl) | exact Nat.le_of_ble_eq_true rfl | rfl) only [x124_0, x124_1, x124_2, x124_3, x124_4, x124_5, x124_8, x124_9, x124_10, x124_13, x124_15, x124_16, x124_17, x124_18, rc, ck, List.map_cons, List.map_nil, Int.natCast_one]
    · cases e.2
theorem w_holds {a1 a2 : Int} (hd : 2 ≤ d) (L : Lk sc (d - 1) 128 [some (vR 0), some (vI a1), some (vI a2), none] 225 [some (vR 373), some (vI a1), some (vI a2)] σ) : Wk id sc d 127 [some (vR 0), some (vI a1), some (vI a2), some (vR 404), none] 225 [some (vR 373), some (vI a1), some (vI a2)] σ := by
  obtain ⟨A, τ, ρ, r, v, V, hv, hm, hr⟩ := L
  have iv : inR v := by
    rcases hv with z | z | z
    · cases z
    · cases z
    · exact z
  have hr2 := hr.dep
  rw [Nat.sub_add_cancel (show 1 ≤ d by omega)] at hr2
  cases r with
  | inl w =>
    obtain ⟨e, z0, rc⟩ := hm
    subst e
    unfold RnA at rc
    refine Or.inl ⟨A, τ, ρ, w, V, iv, z0, fun u Q => ?_, hr2⟩
    simp (disch := first | assumption | omega | exact notL_I | exact notL_N | exact notL_R | exact oM | exact ooCh | exact catS_le (Nat.le_of_ble_eq_true rfl) | exact Nat.le_of_ble_eq_true rfl | rfl) only [x127_0, x127_1, x127_2, x127_3, x127_4, x127_5, x127_8, x127_9, x127_10, x127_13, x127_15, x127_16, x127_17, x127_18, rc, WL_, Kc_some, id_eq, if_pos, if_neg, ↓reduceIte, not_true_eq_false, not_false_eq_true]
  | inr k =>
    obtain ⟨hk, z0, rc⟩ := hm
    rcases hk with e | e
    · obtain ⟨e, -⟩ := e
      subst e
      have ck := fun nx lv r Q hs => catK (sc := sc) (d := d) (y := 127) (pc := 5) (nx := nx) (lv := lv) (r := r) (Q := Q) (k := 1) (hs := hs) rfl rfl
      refine Or.inr ⟨A, τ, ρ, v, 1, V, iv, Or.inl rfl, z0, fun u Q => ?_, hr2⟩
      simp (disch := first | assumption | omega | exact notL_I | exact notL_N | exact notL_R | exact oM | exact ooCh | exact catS_le (Nat.le_of_ble_eq_true rfl) | exact Nat.le_of_ble_eq_true rfl | rfl) only [x127_0, x127_1, x127_2, x127_3, x127_4, x127_5, x127_8, x127_9, x127_10, x127_13, x127_15, x127_16, x127_17, x127_18, rc, ck, List.map_cons, List.map_nil, Int.natCast_one]
    · cases e.2
theorem w_hit {a1 a2 a3 : Int} (hd : 2 ≤ d) (L : Lk sc (d - 1) 130 [some (vR 0), some (vI a1), some (vI a2), some (vI a3), none] 239 [some (vR 373), some (vI a1), some (vI a2), some (vI a3)] σ) : Wk id sc d 129 [some (vR 0), some (vI a1), some (vI a2), some (vI a3), some (vR 404), none] 239 [some (vR 373), some (vI a1), some (vI a2), some (vI a3)] σ := by
  obtain ⟨A, τ, ρ, r, v, V, hv, hm, hr⟩ := L
  have iv : inR v := by
    rcases hv with z | z | z
    · cases z
    · cases z
    · exact z
  have hr2 := hr.dep
  rw [Nat.sub_add_cancel (show 1 ≤ d by omega)] at hr2
  cases r with
  | inl w =>
    obtain ⟨e, z0, rc⟩ := hm
    subst e
    unfold RnA at rc
    refine Or.inl ⟨A, τ, ρ, w, V, iv, z0, fun u Q => ?_, hr2⟩
    simp (disch := first | assumption | omega | exact notL_I | exact notL_N | exact notL_R | exact oM | exact ooCh | exact catS_le (Nat.le_of_ble_eq_true rfl) | exact Nat.le_of_ble_eq_true rfl | rfl) only [x129_0, x129_2, x129_3, x129_4, x129_5, x129_6, x129_7, x129_10, x129_11, x129_12, x129_15, x129_17, x129_18, x129_19, x129_20, rc, WL_, Kc_some, id_eq, if_pos, if_neg, ↓reduceIte, not_true_eq_false, not_false_eq_true]
  | inr k =>
    obtain ⟨hk, z0, rc⟩ := hm
    rcases hk with e | e
    · obtain ⟨e, -⟩ := e
      subst e
      have ck := fun nx lv r Q hs => catK (sc := sc) (d := d) (y := 129) (pc := 7) (nx := nx) (lv := lv) (r := r) (Q := Q) (k := 1) (hs := hs) rfl rfl
      refine Or.inr ⟨A, τ, ρ, v, 1, V, iv, Or.inl rfl, z0, fun u Q => ?_, hr2⟩
      simp (disch := first | assumption | omega | exact notL_I | exact notL_N | exact notL_R | exact oM | exact ooCh | exact catS_le (Nat.le_of_ble_eq_true rfl) | exact Nat.le_of_ble_eq_true rfl | rfl) only [x129_0, x129_2, x129_3, x129_4, x129_5, x129_6, x129_7, x129_10, x129_11, x129_12, x129_15, x129_17, x129_18, x129_19, x129_20, rc, ck, List.map_cons, List.map_nil, Int.natCast_one]
    · cases e.2
theorem w_hits {a1 a2 : Int} (hd : 2 ≤ d) (L : Lk sc (d - 1) 132 [some (vR 0), some (vI a1), some (vI a2), none] 240 [some (vR 373), some (vI a1), some (vI a2)] σ) : Wk id sc d 131 [some (vR 0), some (vI a1), some (vI a2), some (vR 404), none] 240 [some (vR 373), some (vI a1), some (vI a2)] σ := by
  obtain ⟨A, τ, ρ, r, v, V, hv, hm, hr⟩ := L
  have iv : inR v := by
    rcases hv with z | z | z
    · cases z
    · cases z
    · exact z
  have hr2 := hr.dep
  rw [Nat.sub_add_cancel (show 1 ≤ d by omega)] at hr2
  cases r with
  | inl w =>
    obtain ⟨e, z0, rc⟩ := hm
    subst e
    unfold RnA at rc
    refine Or.inl ⟨A, τ, ρ, w, V, iv, z0, fun u Q => ?_, hr2⟩
    simp (disch := first | assumption | omega | exact notL_I | exact notL_N | exact notL_R | exact oM | exact ooCh | exact catS_le (Nat.le_of_ble_eq_true rfl) | exact Nat.le_of_ble_eq_true rfl | rfl) only [x131_0, x131_1, x131_2, x131_3, x131_4, x131_5, x131_8, x131_9, x131_10, x131_13, x131_15, x131_16, x131_17, x131_18, rc, WL_, Kc_some, id_eq, if_pos, if_neg, ↓reduceIte, not_true_eq_false, not_false_eq_true]
  | inr k =>
    obtain ⟨hk, z0, rc⟩ := hm
    rcases hk with e | e
    · obtain ⟨e, -⟩ := e
      subst e
      have ck := fun nx lv r Q hs => catK (sc := sc) (d := d) (y := 131) (pc := 5) (nx := nx) (lv := lv) (r := r) (Q := Q) (k := 1) (hs := hs) rfl rfl
      refine Or.inr ⟨A, τ, ρ, v, 1, V, iv, Or.inl rfl, z0, fun u Q => ?_, hr2⟩
      simp (disch := first | assumption | omega | exact notL_I | exact notL_N | exact notL_R | exact oM | exact ooCh | exact catS_le (Nat.le_of_ble_eq_true rfl) | exact Nat.le_of_ble_eq_true rfl | rfl) only [x131_0, x131_1, x131_2, x131_3, x131_4, x131_5, x131_8, x131_9, x131_10, x131_13, x131_15, x131_16, x131_17, x131_18, rc, ck, List.map_cons, List.map_nil, Int.natCast_one]
    · cases e.2
theorem w_leads {a1 a2 : Int} (hd : 2 ≤ d) (L : Lk sc (d - 1) 135 [some (vR 0), some (vI a1), some (vI a2), none, none, none] 254 [some (vR 373), some (vI a1), some (vI a2), none] σ) : Wk id sc d 134 [some (vR 0), some (vI a1), some (vI a2), some (vR 404), none] 254 [some (vR 373), some (vI a1), some (vI a2), none] σ := by
  obtain ⟨A, τ, ρ, r, v, V, hv, hm, hr⟩ := L
  have iv : inR v := by
    rcases hv with z | z | z
    · cases z
    · cases z
    · exact z
  have hr2 := hr.dep
  rw [Nat.sub_add_cancel (show 1 ≤ d by omega)] at hr2
  cases r with
  | inl w =>
    obtain ⟨e, z0, rc⟩ := hm
    subst e
    unfold RnA at rc
    refine Or.inl ⟨A, τ, ρ, w, V, iv, z0, fun u Q => ?_, hr2⟩
    simp (disch := first | assumption | omega | exact notL_I | exact notL_N | exact notL_R | exact oM | exact ooCh | exact catS_le (Nat.le_of_ble_eq_true rfl) | exact Nat.le_of_ble_eq_true rfl | rfl) only [x134_0, x134_1, x134_2, x134_3, x134_4, x134_5, x134_8, x134_9, x134_10, x134_13, x134_15, x134_16, x134_17, x134_18, rc, WL_, Kc_some, id_eq, if_pos, if_neg, ↓reduceIte, not_true_eq_false, not_false_eq_true]
  | inr k =>
    obtain ⟨hk, z0, rc⟩ := hm
    rcases hk with e | e
    · obtain ⟨e, -⟩ := e
      subst e
      have ck := fun nx lv r Q hs => catK (sc := sc) (d := d) (y := 134) (pc := 5) (nx := nx) (lv := lv) (r := r) (Q := Q) (k := 1) (hs := hs) rfl rfl
      refine Or.inr ⟨A, τ, ρ, v, 1, V, iv, Or.inl rfl, z0, fun u Q => ?_, hr2⟩
      simp (disch := first | assumption | omega | exact notL_I | exact notL_N | exact notL_R | exact oM | exact ooCh | exact catS_le (Nat.le_of_ble_eq_true rfl) | exact Nat.le_of_ble_eq_true rfl | rfl) only [x134_0, x134_1, x134_2, x134_3, x134_4, x134_5, x134_8, x134_9, x134_10, x134_13, x134_15, x134_16, x134_17, x134_18, rc, ck, List.map_cons, List.map_nil, Int.natCast_one]
    · cases e.2
theorem w_core {a1 : Int} (hd : 2 ≤ d) (L : Lk sc (d - 1) 144 [some (vR 0), some (vI a1), none, none, none] 261 [some (vR 373), some (vI a1), none, none, none, none] σ) : Wk id sc d 143 [some (vR 0), some (vI a1), some (vR 404), none] 261 [some (vR 373), some (vI a1), none, none, none, none] σ := by
  obtain ⟨A, τ, ρ, r, v, V, hv, hm, hr⟩ := L
  have iv : inR v := by
    rcases hv with z | z | z
    · cases z
    · cases z
    · exact z
  have hr2 := hr.dep
  rw [Nat.sub_add_cancel (show 1 ≤ d by omega)] at hr2
  cases r with
  | inl w =>
    obtain ⟨e, z0, rc⟩ := hm
    subst e
    unfold RnA at rc
    refine Or.inl ⟨A, τ, ρ, w, V, iv, z0, fun u Q => ?_, hr2⟩
    simp (disch := first | assumption | omega | exact notL_I | exact notL_N | exact notL_R | exact oM | exact ooCh | exact catS_le (Nat.le_of_ble_eq_true rfl) | exact Nat.le_of_ble_eq_true rfl | rfl) only [x143_0, x143_1, x143_2, x143_3, x143_4, x143_7, x143_8, x143_9, x143_12, x143_13, x143_14, x143_15, x143_16, rc, WL_, Kc_some, id_eq, if_pos, if_neg, ↓reduceIte, not_true_eq_false, not_false_eq_true]
  | inr k =>
    obtain ⟨hk, z0, rc⟩ := hm
    rcases hk with e | e
    · obtain ⟨e, -⟩ := e
      subst e
      have ck := fun nx lv r Q hs => catK (sc := sc) (d := d) (y := 143) (pc := 4) (nx := nx) (lv := lv) (r := r) (Q := Q) (k := 1) (hs := hs) rfl rfl
      refine Or.inr ⟨A, τ, ρ, v, 1, V, iv, Or.inl rfl, z0, fun u Q => ?_, hr2⟩
      simp (disch := first | assumption | omega | exact notL_I | exact notL_N | exact notL_R | exact oM | exact ooCh | exact catS_le (Nat.le_of_ble_eq_true rfl) | exact Nat.le_of_ble_eq_true rfl | rfl) only [x143_0, x143_1, x143_2, x143_3, x143_4, x143_7, x143_8, x143_9, x143_12, x143_13, x143_14, x143_15, x143_16, rc, ck, List.map_cons, List.map_nil, Int.natCast_one]
    · cases e.2
theorem w_ask {a1 : Int} (hd : 2 ≤ d) (L : Lk sc (d - 1) 148 [some (vR 0), some (vI a1), none] 262 [some (vR 373), some (vI a1), none, none] σ) : Wk id sc d 147 [some (vR 0), some (vI a1), some (vR 404), none] 262 [some (vR 373), some (vI a1), none, none] σ := by
  obtain ⟨A, τ, ρ, r, v, V, hv, hm, hr⟩ := L
  have iv : inR v := by
    rcases hv with z | z | z
    · cases z
    · cases z
    · exact z
  have hr2 := hr.dep
  rw [Nat.sub_add_cancel (show 1 ≤ d by omega)] at hr2
  cases r with
  | inl w =>
    obtain ⟨e, z0, rc⟩ := hm
    subst e
    unfold RnA at rc
    refine Or.inl ⟨A, τ, ρ, w, V, iv, z0, fun u Q => ?_, hr2⟩
    simp (disch := first | assumption | omega | exact notL_I | exact notL_N | exact notL_R | exact oM | exact ooCh | exact catS_le (Nat.le_of_ble_eq_true rfl) | exact Nat.le_of_ble_eq_true rfl | rfl) only [x147_0, x147_1, x147_2, x147_3, x147_4, x147_7, x147_8, x147_9, x147_12, x147_13, x147_14, x147_15, x147_16, rc, WL_, Kc_some, id_eq, if_pos, if_neg, ↓reduceIte, not_true_eq_false, not_false_eq_true]
  | inr k =>
    obtain ⟨hk, z0, rc⟩ := hm
    rcases hk with e | e
    · obtain ⟨e, -⟩ := e
      subst e
      have ck := fun nx lv r Q hs => catK (sc := sc) (d := d) (y := 147) (pc := 4) (nx := nx) (lv := lv) (r := r) (Q := Q) (k := 1) (hs := hs) rfl rfl
      refine Or.inr ⟨A, τ, ρ, v, 1, V, iv, Or.inl rfl, z0, fun u Q => ?_, hr2⟩
      simp (disch := first | assumption | omega | exact notL_I | exact notL_N | exact notL_R | exact oM | exact ooCh | exact catS_le (Nat.le_of_ble_eq_true rfl) | exact Nat.le_of_ble_eq_true rfl | rfl) only [x147_0, x147_1, x147_2, x147_3, x147_4, x147_7, x147_8, x147_9, x147_12, x147_13, x147_14, x147_15, x147_16, rc, ck, List.map_cons, List.map_nil, Int.natCast_one]
    · cases e.2
theorem w_follows {a1 : Int} (hd : 2 ≤ d) (L : Lk sc (d - 1) 156 [some (vR 0), some (vI a1), none, none] 265 [some (vR 373), some (vI a1), none, none, none, none, none, none] σ) : Wk id sc d 155 [some (vR 0), some (vI a1), some (vR 404), none] 265 [some (vR 373), some (vI a1), none, none, none, none, none, none] σ := by
  obtain ⟨A, τ, ρ, r, v, V, hv, hm, hr⟩ := L
  have iv : inR v := by
    rcases hv with z | z | z
    · cases z
    · cases z
    · exact z
  have hr2 := hr.dep
  rw [Nat.sub_add_cancel (show 1 ≤ d by omega)] at hr2
  cases r with
  | inl w =>
    obtain ⟨e, z0, rc⟩ := hm
    subst e
    unfold RnA at rc
    refine Or.inl ⟨A, τ, ρ, w, V, iv, z0, fun u Q => ?_, hr2⟩
    simp (disch := first | assumption | omega | exact notL_I | exact notL_N | exact notL_R | exact oM | exact ooCh | exact catS_le (Nat.le_of_ble_eq_true rfl) | exact Nat.le_of_ble_eq_true rfl | rfl) only [x155_0, x155_1, x155_2, x155_3, x155_4, x155_7, x155_8, x155_9, x155_12, x155_13, x155_14, x155_15, x155_16, rc, WL_, Kc_some, id_eq, if_pos, if_neg, ↓reduceIte, not_true_eq_false, not_false_eq_true]
  | inr k =>
    obtain ⟨hk, z0, rc⟩ := hm
    rcases hk with e | e
    · obtain ⟨e, -⟩ := e
      subst e
      have ck := fun nx lv r Q hs => catK (sc := sc) (d := d) (y := 155) (pc := 4) (nx := nx) (lv := lv) (r := r) (Q := Q) (k := 1) (hs := hs) rfl rfl
      refine Or.inr ⟨A, τ, ρ, v, 1, V, iv, Or.inl rfl, z0, fun u Q => ?_, hr2⟩
      simp (disch := first | assumption | omega | exact notL_I | exact notL_N | exact notL_R | exact oM | exact ooCh | exact catS_le (Nat.le_of_ble_eq_true rfl) | exact Nat.le_of_ble_eq_true rfl | rfl) only [x155_0, x155_1, x155_2, x155_3, x155_4, x155_7, x155_8, x155_9, x155_12, x155_13, x155_14, x155_15, x155_16, rc, ck, List.map_cons, List.map_nil, Int.natCast_one]
    · cases e.2
theorem w_ends {a1 : Int} (hd : 2 ≤ d) (L : Lk sc (d - 1) 163 [some (vR 0), some (vI a1)] 267 [some (vR 373), some (vI a1)] σ) : Wk id sc d 162 [some (vR 0), some (vI a1), some (vR 404), none] 267 [some (vR 373), some (vI a1)] σ := by
  obtain ⟨A, τ, ρ, r, v, V, hv, hm, hr⟩ := L
  have iv : inR v := by
    rcases hv with z | z | z
    · cases z
    · cases z
    · exact z
  have hr2 := hr.dep
  rw [Nat.sub_add_cancel (show 1 ≤ d by omega)] at hr2
  cases r with
  | inl w =>
    obtain ⟨e, z0, rc⟩ := hm
    subst e
    unfold RnA at rc
    refine Or.inl ⟨A, τ, ρ, w, V, iv, z0, fun u Q => ?_, hr2⟩
    simp (disch := first | assumption | omega | exact notL_I | exact notL_N | exact notL_R | exact oM | exact ooCh | exact catS_le (Nat.le_of_ble_eq_true rfl) | exact Nat.le_of_ble_eq_true rfl | rfl) only [x162_0, x162_1, x162_2, x162_3, x162_4, x162_7, x162_8, x162_9, x162_12, x162_13, x162_14, x162_15, x162_16, rc, WL_, Kc_some, id_eq, if_pos, if_neg, ↓reduceIte, not_true_eq_false, not_false_eq_true]
  | inr k =>
    obtain ⟨hk, z0, rc⟩ := hm
    rcases hk with e | e
    · obtain ⟨e, -⟩ := e
      subst e
      have ck := fun nx lv r Q hs => catK (sc := sc) (d := d) (y := 162) (pc := 4) (nx := nx) (lv := lv) (r := r) (Q := Q) (k := 1) (hs := hs) rfl rfl
      refine Or.inr ⟨A, τ, ρ, v, 1, V, iv, Or.inl rfl, z0, fun u Q => ?_, hr2⟩
      simp (disch := first | assumption | omega | exact notL_I | exact notL_N | exact notL_R | exact oM | exact ooCh | exact catS_le (Nat.le_of_ble_eq_true rfl) | exact Nat.le_of_ble_eq_true rfl | rfl) only [x162_0, x162_1, x162_2, x162_3, x162_4, x162_7, x162_8, x162_9, x162_12, x162_13, x162_14, x162_15, x162_16, rc, ck, List.map_cons, List.map_nil, Int.natCast_one]
    · cases e.2
theorem w_rank {a1 a2 a3 : Int} (hd : 2 ≤ d) (L : Lk sc (d - 1) 171 [some (vR 0), some (vI a1), some (vI a2), some (vI a3), none] 272 [some (vR 373), some (vI a1), some (vI a2), some (vI a3), none, none, none, none] σ) : Wk id sc d 170 [some (vR 0), some (vI a1), some (vI a2), some (vI a3), some (vR 404), none] 272 [some (vR 373), some (vI a1), some (vI a2), some (vI a3), none, none, none, none] σ := by
  obtain ⟨A, τ, ρ, r, v, V, hv, hm, hr⟩ := L
  have iv : inR v := by
    rcases hv with z | z | z
    · cases z
    · cases z
    · exact z
  have hr2 := hr.dep
  rw [Nat.sub_add_cancel (show 1 ≤ d by omega)] at hr2
  cases r with
  | inl w =>
    obtain ⟨e, z0, rc⟩ := hm
    subst e
    unfold RnA at rc
    refine Or.inl ⟨A, τ, ρ, w, V, iv, z0, fun u Q => ?_, hr2⟩
    simp (disch := first | assumption | omega | exact notL_I | exact notL_N | exact notL_R | exact oM | exact ooCh | exact catS_le (Nat.le_of_ble_eq_true rfl) | exact Nat.le_of_ble_eq_true rfl | rfl) only [x170_0, x170_2, x170_3, x170_4, x170_5, x170_6, x170_7, x170_10, x170_11, x170_12, x170_15, x170_17, x170_18, x170_19, x170_20, rc, WL_, Kc_some, id_eq, if_pos, if_neg, ↓reduceIte, not_true_eq_false, not_false_eq_true]
  | inr k =>
    obtain ⟨hk, z0, rc⟩ := hm
    rcases hk with e | e
    · obtain ⟨e, -⟩ := e
      subst e
      have ck := fun nx lv r Q hs => catK (sc := sc) (d := d) (y := 170) (pc := 7) (nx := nx) (lv := lv) (r := r) (Q := Q) (k := 1) (hs := hs) rfl rfl
      refine Or.inr ⟨A, τ, ρ, v, 1, V, iv, Or.inl rfl, z0, fun u Q => ?_, hr2⟩
      simp (disch := first | assumption | omega | exact notL_I | exact notL_N | exact notL_R | exact oM | exact ooCh | exact catS_le (Nat.le_of_ble_eq_true rfl) | exact Nat.le_of_ble_eq_true rfl | rfl) only [x170_0, x170_2, x170_3, x170_4, x170_5, x170_6, x170_7, x170_10, x170_11, x170_12, x170_15, x170_17, x170_18, x170_19, x170_20, rc, ck, List.map_cons, List.map_nil, Int.natCast_one]
    · cases e.2
theorem w_columns {a1 a2 : Int} (hd : 2 ≤ d) (L : Lk sc (d - 1) 173 [some (vR 0), some (vI a1), some (vI a2), none] 273 [some (vR 373), some (vI a1), some (vI a2)] σ) : Wk id sc d 172 [some (vR 0), some (vI a1), some (vI a2), some (vR 404), none] 273 [some (vR 373), some (vI a1), some (vI a2)] σ := by
  obtain ⟨A, τ, ρ, r, v, V, hv, hm, hr⟩ := L
  have iv : inR v := by
    rcases hv with z | z | z
    · cases z
    · cases z
    · exact z
  have hr2 := hr.dep
  rw [Nat.sub_add_cancel (show 1 ≤ d by omega)] at hr2
  cases r with
  | inl w =>
    obtain ⟨e, z0, rc⟩ := hm
    subst e
    unfold RnA at rc
    refine Or.inl ⟨A, τ, ρ, w, V, iv, z0, fun u Q => ?_, hr2⟩
    simp (disch := first | assumption | omega | exact notL_I | exact notL_N | exact notL_R | exact oM | exact ooCh | exact catS_le (Nat.le_of_ble_eq_true rfl) | exact Nat.le_of_ble_eq_true rfl | rfl) only [x172_0, x172_1, x172_2, x172_3, x172_4, x172_5, x172_8, x172_9, x172_10, x172_13, x172_15, x172_16, x172_17, x172_19, x172_20, x172_21, x172_22, rc, WL_, Kc_some, id_eq, if_pos, if_neg, ↓reduceIte, not_true_eq_false, not_false_eq_true]
  | inr k =>
    obtain ⟨hk, z0, rc⟩ := hm
    rcases hk with e | e
    · obtain ⟨e, -⟩ := e
      subst e
      have ck := fun nx lv r Q hs => catK (sc := sc) (d := d) (y := 172) (pc := 5) (nx := nx) (lv := lv) (r := r) (Q := Q) (k := 1) (hs := hs) rfl rfl
      refine Or.inr ⟨A, τ, ρ, v, 1, V, iv, Or.inl rfl, z0, fun u Q => ?_, hr2⟩
      simp (disch := first | assumption | omega | exact notL_I | exact notL_N | exact notL_R | exact oM | exact ooCh | exact catS_le (Nat.le_of_ble_eq_true rfl) | exact Nat.le_of_ble_eq_true rfl | rfl) only [x172_0, x172_1, x172_2, x172_3, x172_4, x172_5, x172_8, x172_9, x172_10, x172_13, x172_15, x172_16, x172_17, x172_19, x172_20, x172_21, x172_22, rc, ck, List.map_cons, List.map_nil, Int.natCast_one]
    · obtain ⟨e, -⟩ := e
      subst e
      have ck := fun nx lv r Q hs => catK (sc := sc) (d := d) (y := 172) (pc := 5) (nx := nx) (lv := lv) (r := r) (Q := Q) (k := 2) (hs := hs) rfl rfl
      refine Or.inr ⟨A, τ, ρ, v, 2, V, iv, Or.inr rfl, z0, fun u Q => ?_, hr2⟩
      simp (disch := first | assumption | omega | exact notL_I | exact notL_N | exact notL_R | exact oM | exact ooCh | exact catS_le (Nat.le_of_ble_eq_true rfl) | exact Nat.le_of_ble_eq_true rfl | rfl) only [x172_0, x172_1, x172_2, x172_3, x172_4, x172_5, x172_8, x172_9, x172_10, x172_13, x172_15, x172_16, x172_17, x172_19, x172_20, x172_21, x172_22, rc, ck, List.map_cons, List.map_nil]
      rfl
end Wr
