/-! the environment at the law's entry -/
def ZxO (B : Nat) (sa aV sx : Nat → Nat) (U : State) : Prop := NstO U ∧ ZtO B sx U ∧ va_Nc (exN 2) (exN 1) U ∧ TzO B sa aV U
theorem zx_ok {B : Nat} {sa aV sx : Nat → Nat} : ZOk B (ZxO B sa aV sx) := by
  intro s U hA hW hk h
  have hq : ∀ a : Nat, a < s.heap.size → ¬ B ≤ a → U.heap[a]? = s.heap[a]? := fun a _ ha => hk a (by omega)
  obtain ⟨h1, ⟨h2, h3, h4, h5, h6⟩, h7, h8, h9, h10, h11, h12⟩ := h
  refine ⟨fun q hq h => va_Nw.warmM hW (h1 q hq h), ⟨fun w hw => ?_, (vx_Zq.moved hA h3).kept hq, (vx_Zq.moved hA h4).kept hq, h5.warm hW, h6.warm hW⟩, va_Nc.moved hA h7, TxE.moved hA hk h8, h9.warm hW, h10.warm hW, h11.warm hW, h12.warm hW⟩
  have h := h2 w hw
  simp only [zwL, List.mem_cons, List.mem_nil_iff, or_false] at hw
  rcases hw with rfl | rfl | rfl | rfl | rfl
  · exact va_Nw.warmC hW h
  · exact va_Nw.warmC hW h
  · exact va_Nw.warmD hW h
  · exact va_Nw.warmD hW h
  · exact va_Nw.warmD hW h
section En
variable {s : State} {args : Array Value}
theorem k_cls (hts : ∀ w ∈ mTbl, w.before args s = true) : ∃ D : va_G, ∀ (c : Nat) (q : vw_C), mCl[c]? = some q → u_Kn s q.1 q.2.1 q.2.2 (D.1 c) (D.2 c) := by
  have h0 : ∀ c : Nat, ∃ d : ClassId × (Nat → Nat), ∀ q : vw_C, mCl[c]? = some q → u_Kn s q.1 q.2.1 q.2.2 d.1 d.2 := by
    intro c
    by_cases hc : c < 13
    · obtain ⟨cC, iS, h⟩ := u_known (C := cnm c) (T := TXn c) (N := mNf.getD c 0) (n := mNf.getD c 0) hts (clsW hc) (hts _ (insW hc).1)
      refine ⟨(cC, iS), fun q hq => ?_⟩
      have e : mCl[c]? = some (cnm c, TXn c, mNf.getD c 0) := by
        clear h hq
        match c, hc with
        | 0, _ => rfl
        | 1, _ => rfl
        | 2, _ => rfl
        | 3, _ => rfl
        | 4, _ => rfl
        | 5, _ => rfl
        | 6, _ => rfl
        | 7, _ => rfl
        | 8, _ => rfl
        | 9, _ => rfl
        | 10, _ => rfl
        | 11, _ => rfl
        | 12, _ => rfl
      have e2 := Option.some.inj (hq.symm.trans e)
      subst e2
      exact h
    · exact ⟨(0, fun _ => 0), fun q hq => absurd (List.getElem?_eq_some_iff.mp hq).1 hc⟩
  obtain ⟨f, hf⟩ := Classical.axiomOfChoice h0
  exact ⟨(fun c => (f c).1, fun c => (f c).2), fun c q hq => hf c q hq⟩
theorem k_num {ty : FieldType} (hk : ∀ C, ty ≠ .object C) (h : (Cond.arrayClass ty).before args s = true) : ∃ c : ClassId, ArrOfT s c ty ∧ va_RA s c ty := by
  obtain ⟨c, k, comp, h1, h2, h3⟩ := Cond.arrayClass_spec h
  refine ⟨c, fun N z => ⟨(fun k h => by cases h), k, h2, comp, h3⟩, ?_⟩
  cases ty with
  | object C => exact absurd rfl (hk C)
  | _ => exact h1
theorem k_ref {C : String} (h : (Cond.arrayOver (.object C)).before args s = true) : ∃ c : ClassId, ArrOfT s c (.object C) ∧ va_RA s c (.object C) := by
  obtain ⟨comp, c, k, h1, -, h2, h3, h4⟩ := Cond.arrayOver_spec h
  exact ⟨c, fun N z => ⟨(fun k h => by cases h), k, h2, comp, h3⟩, k, comp, h2, h3, h1, h4⟩
theorem arr_in : [Cond.arrayClass .int, .arrayClass .boolean, .arrayClass .long, .arrayOver (.object RX3), .arrayOver (.object RX8)].all (fun w => decide (w ∈ lw_tbl)) = true := by decide +kernel
theorem k_all (hts : ∀ w ∈ lw_tbl, w.before args s = true) : ∃ (D : va_G) (ca : Nat → ClassId), va_K D mCl (tysO ca) s ∧ va_AO (cnm 3) s ∧ va_AO (cnm 8) s := by
  obtain ⟨D, hD⟩ := k_cls (s := s) (args := args) (fun w hw => hts w (List.mem_filter.mp hw).1)
  have hin : ∀ w ∈ [Cond.arrayClass .int, .arrayClass .boolean, .arrayClass .long, .arrayOver (.object RX3), .arrayOver (.object RX8)], w.before args s = true := fun w hw => hts w (by have := mem_all arr_in hw; simpa using this)
  obtain ⟨c0, a0⟩ := k_num (ty := .int) (fun C h => by cases h) (hin _ (List.mem_of_getElem? (i := 0) rfl))
  obtain ⟨c1, a1⟩ := k_num (ty := .boolean) (fun C h => by cases h) (hin _ (List.mem_of_getElem? (i := 1) rfl))
  obtain ⟨c2, a2⟩ := k_num (ty := .long) (fun C h => by cases h) (hin _ (List.mem_of_getElem? (i := 2) rfl))
  obtain ⟨c3, a3⟩ := k_ref (C := RX3) (hin _ (List.mem_of_getElem? (i := 3) rfl))
  obtain ⟨c8, a8⟩ := k_ref (C := RX8) (hin _ (List.mem_of_getElem? (i := 4) rfl))
  refine ⟨D, fun k => if k = 0 then c0 else if k = 1 then c1 else if k = 2 then c2 else if k = 13 then c3 else c8, ⟨hD, fun k q hq => ?_⟩, va_AO.of (hin _ (List.mem_of_getElem? (i := 3) rfl)), va_AO.of (hin _ (List.mem_of_getElem? (i := 4) rfl))⟩
  match k, hq with
  | 0, hq => cases hq; exact a0
  | 1, hq => cases hq; exact a1
  | 2, hq => cases hq; exact a2
  | 3, hq => cases hq; exact a3
  | 4, hq => cases hq; exact a8
def tmO (i : Nat) : Term := .string jT ([53, 59, 61, 63].getD i 0)
abbrev fgO : List Cond := flatC (Jvm.Cond.and given_1 narrow_1)
abbrev tvO (i : Nat) : Term := .field (tmO i) jS "value" "[B"
theorem fg_1 : ∀ i, i < 4 → Cond.exactly (tmO i) jS ∈ fgO ∧ Cond.eq (.field (tmO i) jS "coder" "B") (.int 0) ∈ fgO ∧ Cond.arrayOf (tvO i) .byte ∈ fgO ∧ Cond.eq (.length (tvO i)) (.int (Int32.ofNat (txN.getD i 0))) ∈ fgO := by decide +kernel
theorem fg_2 : ∀ i, i < 4 → ∀ j, j < txN.getD i 0 → Cond.eq (.elem (tvO i) (.int (Int32.ofNat j))) (.int ((txB.getD i []).getD j 0)) ∈ fgO := by decide +kernel
theorem fg_3 : ∀ i, i < 4 → ∀ j, j < 4 → i ≠ j → Cond.not (Cond.eq (tmO i) (tmO j)) ∈ fgO ∨ Cond.not (Cond.eq (tmO j) (tmO i)) ∈ fgO := by decide +kernel
theorem fg_4 : Cond.eq (.static jS "COMPACT_STRINGS" "Z") (.int 1) ∈ fgO ∧ Cond.isRef (.static jP "SIOOBE_FORMATTER" jB) ∈ fgO ∧ Cond.isRef (.static Bundle.tN "UNASSIGNED_STACK" Bundle.steD) ∈ fgO ∧ Cond.isRef (.static Bundle.tN "SUPPRESSED_SENTINEL" Bundle.listD) ∈ fgO ∧ Cond.not (.castable (exN 2) (exN 1)) ∈ fgO ∧ Cond.exactly (.string "ChaseHall" 266) jS ∈ fgO ∧ Cond.exactly (.string "ChaseHall" 259) jS ∈ fgO := by decide +kernel
def tbL : List Cond := zwL ++ ([.laysStatic jS "COMPACT_STRINGS" "Z", .laysStatic jP "SIOOBE_FORMATTER" jB, .laysStatic Bundle.tN "UNASSIGNED_STACK" Bundle.steD, .laysStatic Bundle.tN "SUPPRESSED_SENTINEL" Bundle.listD, .initialized jS, .initialized jP, .initialized Bundle.tN, .stringRef "ChaseHall" 266 "no such hall", .stringRef "ChaseHall" 259 "no such table", .stringRef jT 53 "table", .stringRef jT 59 "row", .stringRef jT 61 "rule", .stringRef jT 63 "false"] : List Cond)
theorem tb_1 : tbL.all (fun w => decide (w ∈ lw_tbl)) = true := by decide +kernel
theorem zw_tab : zwL.all (fun w => w.onTables) = true := by decide +kernel
set_option maxHeartbeats 1000000 in
theorem z_all (hts : ∀ w ∈ lw_tbl, w.before args s = true) (hg : ∀ w ∈ fgO, w.before args s = true) (b : Nat) : ∃ sa aV sx : Nat → Nat, sa 9 = b ∧ ZxO s.heap.size sa aV sx s := by
  have hA : ∀ a : Nat, a < s.heap.size → ¬ s.heap.size ≤ a := fun a h => Nat.not_le.mpr h
  have ht : ∀ w ∈ tbL, w.before args s = true := fun w hw => hts w (by have := mem_all tb_1 hw; simpa using this)
  have hz : ∀ (i : Nat) (w : Cond), tbL[i]? = some w → w.before args s = true := fun i w h => ht w (List.mem_of_getElem? h)
  obtain ⟨aK, aV, hS, hS2⟩ := vk_Sof (args := args) (s := s) (N := 4) (tm := tmO) (len := txN) (byt := txB) (A := fun q => s.heap.size ≤ q) (by decide) (fun i hi => hg _ (fg_1 i hi).1) (fun i hi => hg _ (fg_1 i hi).2.1) (fun i hi => hg _ (fg_1 i hi).2.2.1) (fun i hi => hg _ (fg_1 i hi).2.2.2) (fun i hi j hj => hg _ (fg_2 i hi j hj)) (fun i j hi hj h => (fg_3 i hi j hj h).elim (fun z => Or.inl (hg _ z)) (fun z => Or.inr (hg _ z))) hA
  obtain ⟨a0, -, -, -, q0, -⟩ := Cond.exactly_spec (args := args) (first := s) (o := none) (s := s) (idx := []) (hg _ fg_4.2.2.2.2.2.1)
  obtain ⟨a1, -, -, -, q1, -⟩ := Cond.exactly_spec (args := args) (first := s) (o := none) (s := s) (idx := []) (hg _ fg_4.2.2.2.2.2.2)
  have hS' : vk_S 4 txN txB (fun i => if i = 9 then b else aK i) aV (fun q => s.heap.size ≤ q) s s.heap := by
    refine ⟨fun i hi => ?_, fun i j hi hj h => ?_⟩
    · have e : (fun i => if i = 9 then b else aK i) i = aK i := if_neg (by omega)
      rw [e]
      exact hS.1 i hi
    · dsimp only at h
      rw [if_neg (by omega), if_neg (by omega)] at h
      exact hS.2 i j hi hj h
  refine ⟨fun i => if i = 9 then b else aK i, aV, fun i => if i = 0 then a0 else a1, rfl, ?_, ⟨?_, ?_, ?_, ?_, ?_⟩, va_Nc.of (hg _ fg_4.2.2.2.2.1), ⟨hS', ?_, ?_⟩, ?_, ?_, ?_, ?_⟩
  · intro q hq h1
    have h := mem_all metT_ok hq
    rw [if_pos h1] at h
    unfold okAt at h
    have h2 := of_decide_eq_true h
    exact va_Nw.of rfl (hts _ (List.mem_append_right _ (List.mem_of_getElem? h2)))
  · intro w hw
    exact va_Nw.of (mem_all zw_tab hw) (ht w (List.mem_append_left _ hw))
  · exact vx_Zqof (hz 7 _ rfl) (hz 11 _ rfl) (hg _ fg_4.2.2.1) hA
  · exact vx_Zqof (hz 8 _ rfl) (hz 11 _ rfl) (hg _ fg_4.2.2.2.1) hA
  · exact vk_R.of (hz 12 _ rfl) q0
  · exact vk_R.of (hz 13 _ rfl) q1
  · exact va_Zof (hz 5 _ rfl) (hz 9 _ rfl) (va_eqi (hg _ fg_4.1)) hA
  · exact va_Zqof (hz 6 _ rfl) (hz 10 _ rfl) (hg _ fg_4.2.1) hA
  · exact vk_R.of (hz 14 _ rfl) (hS2 0 (by decide))
  · exact vk_R.of (hz 15 _ rfl) (hS2 1 (by decide))
  · exact vk_R.of (hz 16 _ rfl) (hS2 2 (by decide))
  · exact vk_R.of (hz 17 _ rfl) (hS2 3 (by decide))
end En
