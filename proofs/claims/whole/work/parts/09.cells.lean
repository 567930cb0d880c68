/-! fields, rows, new cells -/
def tyXn (k : Nat) : Nat → FieldType := match k with | 0 => tyX0 | 1 => tyX1 | 2 => tyX2 | 3 => tyX3 | 4 => tyX4 | 5 => tyX5 | 6 => tyX6 | 7 => tyX7 | 8 => tyX8 | 9 => tyX9 | 10 => tyX10 | 11 => tyX11 | _ => tyX12
theorem lt13 {k : Nat} (h : k < 13) : k = 0 ∨ k = 1 ∨ k = 2 ∨ k = 3 ∨ k = 4 ∨ k = 5 ∨ k = 6 ∨ k = 7 ∨ k = 8 ∨ k = 9 ∨ k = 10 ∨ k = 11 ∨ k = 12 := by omega
theorem mNf13 {k j : Nat} (h : j < mNf.getD k 0) : k < 13 := by
  rcases Nat.lt_or_ge k 13 with q | q
  · exact q
  · rw [List.getD_eq_getElem?_getD, List.getElem?_eq_none (by show 13 ≤ k; exact q)] at h
    cases h
theorem mCl_get {k : Nat} (h : k < 13) : mCl[k]? = some (cnm k, TXn k, mNf.getD k 0) := by
  rcases lt13 h with rfl | rfl | rfl | rfl | rfl | rfl | rfl | rfl | rfl | rfl | rfl | rfl | rfl <;> rfl
theorem tyXn_ok {k : Nat} (h : k < 13) : ∀ j, j < mNf.getD k 0 → parseFieldDescriptor (TXn k j).2.2.1 = some (tyXn k j) := by
  rcases lt13 h with rfl | rfl | rfl | rfl | rfl | rfl | rfl | rfl | rfl | rfl | rfl | rfl | rfl
  · exact tyX0_ok
  · exact tyX1_ok
  · exact tyX2_ok
  · exact tyX3_ok
  · exact tyX4_ok
  · exact tyX5_ok
  · exact tyX6_ok
  · exact tyX7_ok
  · exact tyX8_ok
  · exact tyX9_ok
  · exact tyX10_ok
  · exact tyX11_ok
  · exact tyX12_ok
theorem nmXn_ok {k : Nat} (h : k < 13) : ∀ a, a < mNf.getD k 0 → ∀ b, b < mNf.getD k 0 → a ≠ b → (TXn k a).2.1 ≠ (TXn k b).2.1 := by
  rcases lt13 h with rfl | rfl | rfl | rfl | rfl | rfl | rfl | rfl | rfl | rfl | rfl | rfl | rfl
  · exact nmX0
  · exact nmX1
  · exact nmX2
  · exact nmX3
  · exact nmX4
  · exact nmX5
  · exact nmX6
  · exact nmX7
  · exact nmX8
  · exact nmX9
  · exact nmX10
  · exact nmX11
  · exact nmX12
theorem clsW_all : (List.range 13).all (fun k => (u_ws (cnm k) (TXn k) (mNf.getD k 0)).all (fun w => decide (w ∈ tables_1) && goodWord w)) = true := by decide +kernel
theorem clsW {k : Nat} (h : k < 13) : ∀ w ∈ u_ws (cnm k) (TXn k) (mNf.getD k 0), w ∈ mTbl := by
  intro w hw
  have h1 := mem_all (mem_all clsW_all (List.mem_range.mpr h)) hw
  simp only [Bool.and_eq_true, decide_eq_true_eq] at h1
  exact List.mem_filter.mpr ⟨List.mem_append_right _ h1.1, h1.2⟩
theorem insW_all : (List.range 13).all (fun k => decide (Cond.instantiable (cnm k) (mNf.getD k 0) ∈ tables_1) && decide (Cond.initialized (cnm k) ∈ tables_1)) = true := by decide +kernel
theorem insW {k : Nat} (h : k < 13) : Cond.instantiable (cnm k) (mNf.getD k 0) ∈ mTbl ∧ Cond.initialized (cnm k) ∈ mTbl := by
  have h1 := mem_all insW_all (List.mem_range.mpr h)
  simp only [Bool.and_eq_true, decide_eq_true_eq] at h1
  exact ⟨List.mem_filter.mpr ⟨List.mem_append_right _ h1.1, rfl⟩, List.mem_filter.mpr ⟨List.mem_append_right _ h1.2, rfl⟩⟩
theorem fk_all : (List.range 13).all (fun k => (List.range (mNf.getD k 0)).all (fun j => match fKind k j, tyXn k j with
  | 0, .int => true
  | 1, .boolean => true
  | 2, .object _ => true
  | 2, .array _ => true
  | _, _ => false)) = true := by decide +kernel
theorem own_all : (List.range 13).all (fun k => (List.range (mNf.getD k 0)).all (fun j => decide ((TXn k j).1 = cnm k))) = true := by decide +kernel
theorem fk_ok {k j : Nat} (hj : j < mNf.getD k 0) {B : Nat} {sa : Nat → Nat} {v : V} (hv : okV (fKind k j) v = true) : narrow (tyXn k j) (mv B sa v) = mv B sa v ∧ fits (tyXn k j) (mv B sa v) = true := by
  have h1 := mem_all (mem_all fk_all (List.mem_range.mpr (mNf13 hj))) (List.mem_range.mpr hj)
  split at h1
  · rename_i e1 e2
    rw [e1] at hv; rw [e2]
    rcases v with a | a | (_ | a) | i <;> first | exact ⟨rfl, rfl⟩ | cases hv
  · rename_i e1 e2
    rw [e1] at hv; rw [e2]
    rcases v with a | a | (_ | a) | i
    · have h2 : a = 0 ∨ a = 1 := by simpa [okV] using hv
      rcases h2 with rfl | rfl
      · exact ⟨by show Value.int (Int32.ofInt 0 &&& 1) = Value.int (Int32.ofInt 0); decide, by show (Int32.ofInt 0 == 0 || Int32.ofInt 0 == 1) = true; decide⟩
      · exact ⟨by show Value.int (Int32.ofInt 1 &&& 1) = Value.int (Int32.ofInt 1); decide, by show (Int32.ofInt 1 == 0 || Int32.ofInt 1 == 1) = true; decide⟩
    all_goals cases hv
  · rename_i e1 e2
    rw [e1] at hv; rw [e2]
    rcases v with a | a | (_ | a) | i <;> first | exact ⟨rfl, rfl⟩ | cases hv
  · rename_i e1 e2
    rw [e1] at hv; rw [e2]
    rcases v with a | a | (_ | a) | i <;> first | exact ⟨rfl, rfl⟩ | cases hv
  · cases h1
theorem df_ok {B : Nat} {sa : Nat → Nat} {k : Nat} : ∀ j, j < mNf.getD k 0 → defaultValue (tyXn k j) = vp_V ((List.range (mNf.getD k 0)).map (fun j => mv B sa (dflt k j))) j := by
  intro j hj
  have h1 := mem_all (mem_all fk_all (List.mem_range.mpr (mNf13 hj))) (List.mem_range.mpr hj)
  have e0 : vp_V ((List.range (mNf.getD k 0)).map (fun j => mv B sa (dflt k j))) j = mv B sa (dflt k j) := by
    unfold vp_V
    rw [List.getD_eq_getElem?_getD, List.getElem?_map, List.getElem?_range hj]
    rfl
  rw [e0]
  unfold dflt
  split at h1
  · rename_i e1 e2
    rw [e1, e2]; rfl
  · rename_i e1 e2
    rw [e1, e2]; rfl
  · rename_i e1 e2
    rw [e1, e2]; rfl
  · rename_i e1 e2
    rw [e1, e2]; rfl
  · cases h1
