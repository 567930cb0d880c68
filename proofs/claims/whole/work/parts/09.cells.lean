/-! fields, rows, new cells -/
def tyXn (k : Nat) : Nat → FieldType := match k with | 0 => tyX0 | 1 => tyX1 | 2 => tyX2 | 3 => tyX3 | 4 => tyX4 | 5 => tyX5 | 6 => tyX6 | 7 => tyX7 | 8 => tyX8 | 9 => tyX9 | 10 => tyX10 | 11 => tyX11 | _ => tyX12
theorem lt13 {k : Nat} (h : k < 13) : k = 0 ∨ k = 1 ∨ k = 2 ∨ k = 3 ∨ k = 4 ∨ k = 5 ∨ k = 6 ∨ k = 7 ∨ k = 8 ∨ k = 9 ∨ k = 10 ∨ k = 11 ∨ k = 12 := by omega
theorem mNf13 {k j : Nat} (h : j < mNf.getD k 0) : k < 13 := by
  rcases Nat.lt_or_ge k 13 with q | q
  · exact q
  · rw [List.getD_eq_default _ _ (by show 13 ≤ k; exact q)] at h
    omega
theorem mCl_get {k : Nat} (h : k < 13) : mCl[k]? = some (cnm k, TXn k, mNf.getD k 0) := by
  rcases lt13 h with rfl | rfl | rfl | rfl | rfl | rfl | rfl | rfl | rfl | rfl | rfl | rfl | rfl <;> rfl
theorem tyXn_ok {k : Nat} (h : k < 13) : ∀ j, j < mNf.getD k 0 → parseFieldDescriptor (TXn k j).2.2.1 = some (tyXn k j) := by
  rcases lt13 h with rfl | rfl | rfl | rfl | rfl | rfl | rfl | rfl | rfl | rfl | rfl | rfl | rfl
  exacts [tyX0_ok, tyX1_ok, tyX2_ok, tyX3_ok, tyX4_ok, tyX5_ok, tyX6_ok, tyX7_ok, tyX8_ok, tyX9_ok, tyX10_ok, tyX11_ok, tyX12_ok]
theorem nmXn_ok {k : Nat} (h : k < 13) : ∀ a, a < mNf.getD k 0 → ∀ b, b < mNf.getD k 0 → a ≠ b → (TXn k a).2.1 ≠ (TXn k b).2.1 := by
  rcases lt13 h with rfl | rfl | rfl | rfl | rfl | rfl | rfl | rfl | rfl | rfl | rfl | rfl | rfl
  exacts [nmX0, nmX1, nmX2, nmX3, nmX4, nmX5, nmX6, nmX7, nmX8, nmX9, nmX10, nmX11, nmX12]
theorem clsW_all : (List.range 13).all (fun k => (u_ws (cnm k) (TXn k) (mNf.getD k 0)).all (fun w => decide (w ∈ tables_1) && goodWord w)) = true := by decide +kernel
theorem clsW {k : Nat} (h : k < 13) : ∀ w ∈ u_ws (cnm k) (TXn k) (mNf.getD k 0), w ∈ mTbl := by
  intro w hw
  have h1 := mem_all (mem_all clsW_all (List.mem_range.mpr h)) hw
  simp only [Bool.and_eq_true, decide_eq_true_eq] at h1
  exact List.mem_filter.mpr ⟨List.mem_append_right _ h1.1, h1.2⟩
theorem insW_all : (List.range 13).all (fun k => decide (Cond.instantiable (cnm k) (mNf.getD k 0) ∈ tables_1) && decide (Cond.initialized (cnm k) ∈ tables_1)) = true := by decide +kernel
theorem insW {k : Nat} (h : k < 13) : Cond.instantiable (cnm k) (mNf.getD k 0) ∈ mTbl ∧ Cond.initialized (cnm k) ∈ mTbl := by
  have h1 := mem_all insW_all (List.mem_range.mpr h)
  simp only [Bool.and_eq_true, decide_eq_true_eq] at h1
  exact ⟨List.mem_filter.mpr ⟨List.mem_append_right _ h1.1, rfl⟩, List.mem_filter.mpr ⟨List.mem_append_right _ h1.2, rfl⟩⟩
theorem fk_all : (List.range 13).all (fun k => (List.range (mNf.getD k 0)).all (fun j => match fKind k j, tyXn k j with
  | 0, .int => true
  | 1, .boolean => true
  | 2, .object _ => true
  | 2, .array _ => true
  | _, _ => false)) = true := by decide +kernel
theorem own_all : (List.range 13).all (fun k => (List.range (mNf.getD k 0)).all (fun j => decide ((TXn k j).1 = cnm k))) = true := by decide +kernel
theorem fk_ok {k j : Nat} (hj : j < mNf.getD k 0) {B : Nat} {sa : Nat → Nat} {v : V} (hv : okV (fKind k j) v = true) : narrow (tyXn k j) (mv B sa v) = mv B sa v ∧ fits (tyXn k j) (mv B sa v) = true := by
  have h1 := mem_all (mem_all fk_all (List.mem_range.mpr (mNf13 hj))) (List.mem_range.mpr hj)
  split at h1
  · rename_i e1 e2
    rw [e1] at hv; rw [e2]
    rcases v with a | a | (_ | a) | i <;> first | exact ⟨rfl, rfl⟩ | cases hv
  · rename_i e1 e2
    rw [e1] at hv; rw [e2]
    rcases v with a | a | (_ | a) | i
    · have h2 : a = 0 ∨ a = 1 := by simpa [okV] using hv
      rcases h2 with rfl | rfl
      · exact ⟨by decide, by decide⟩
      · exact ⟨by decide, by decide⟩
    all_goals cases hv
  · rename_i e1 e2
    rw [e1] at hv; rw [e2]
    rcases v with a | a | (_ | a) | i <;> first | exact ⟨rfl, rfl⟩ | cases hv
  · rename_i e1 e2
    rw [e1] at hv; rw [e2]
    rcases v with a | a | (_ | a) | i <;> first | exact ⟨rfl, rfl⟩ | cases hv
  · cases h1
theorem df_ok {B : Nat} {sa : Nat → Nat} {k : Nat} : ∀ j, j < mNf.getD k 0 → defaultValue (tyXn k j) = vp_V ((List.range (mNf.getD k 0)).map (fun j => mv B sa (dflt k j))) j := by
  intro j hj
  have h1 := mem_all (mem_all fk_all (List.mem_range.mpr (mNf13 hj))) (List.mem_range.mpr hj)
  have e0 : vp_V ((List.range (mNf.getD k 0)).map (fun j => mv B sa (dflt k j))) j = mv B sa (dflt k j) := by
    unfold vp_V
    rw [List.getD_eq_getElem?_getD, List.getElem?_map, List.getElem?_range hj]
    rfl
  rw [e0]
  unfold dflt
  split at h1
  · rename_i e1 e2
    rw [e1, e2]; rfl
  · rename_i e1 e2
    rw [e1, e2]; rfl
  · rename_i e1 e2
    rw [e1, e2]; rfl
  · rename_i e1 e2
    rw [e1, e2]; rfl
  · cases h1
section Sd3
variable {p : Program} {l : Launch} {e : Env} {R : Room} {s : State} {m : MethodId} {args : Array Value} {below : List Frame} {meth : Method} {c : Code} {H : Heap} {locs : List Loc} {cells slots : Nat} {Q : State → Prop} {D : va_G} {B : Nat} {sa : Nat → Nat} {ca : Nat → ClassId} {sc : Scr} {y pc x nx : Nat} {ls : Array Slot} {rest : List Value} {hs : HS}
theorem W.sized {g : JFrame} (k : H.size ≤ s.heap.size + cells → W p l e R s m args below meth c H locs cells slots Q g) : W p l e R s m args below meth c H locs cells slots Q g := fun T hT X => k (by rw [← hT]; exact X.same.2.2.1) T hT X
theorem fld_mem {u k : Nat} (h : fldT.any (fun q => q.1 == mOwn.getD y 99 && q.2.1 == u && q.2.2.1 == x && q.2.2.2.1 == k) = true) : Cond.fieldLink (cnm (mOwn.getD y 99)) u (TXn x k).1 (TXn x k).2.1 (TXn x k).2.2.1 ∈ mTbl := by
  obtain ⟨q, hq, h2⟩ := mem_any h
  simp only [Bool.and_eq_true, beq_iff_eq] at h2
  obtain ⟨⟨⟨e2, e3⟩, e4⟩, e5⟩ := h2
  have h3 := okAt_mem (mem_all fldT_ok hq) rfl
  rw [e2, e3, e4, e5] at h3
  exact h3
theorem sd_getfield (X : Cx p s m args meth c D B sa ca sc y) (hr : Rel D B sa ca s H locs cells hs) {k a : Nat} {F : Nat → V} (h : cd y pc = some (.getfield k, x, nx)) (ha : a < hs.2.1) (he : hs.1 a = .inr (.inr (x, F)))
    (kk : W p l e R s m args below meth c H locs cells slots Q (F0 m nx ls (mv B sa (F k) :: rest))) : W p l e R s m args below meth c H locs cells slots Q (F0 m pc ls (.ref (B + a) :: rest)) := by
  obtain ⟨r, n, hd, ho⟩ := dec_of h
  simp only [okR, Bool.and_eq_true, beq_iff_eq] at ho
  obtain ⟨e1, ho⟩ := ho
  subst e1
  split at ho
  · simp only [Bool.and_eq_true, beq_iff_eq, Nat.blt_eq] at ho
    obtain ⟨⟨rfl, hk⟩, hf⟩ := ho
    have h13 := mNf13 hk
    have hg := wsO_get (B := B) (sa := sa) (ca := ca) ha
    rw [he] at hg
    exact va_get X.1 X.2.1 X.2.2.2.2.1 (clsW h13) X.2.2.2.1 X.2.2.2.2.2.1 hr.1 a hg (mCl_get h13) k hk (X.2.2.2.2.1 _ (fld_mem hf)) (fun _ h9 => h9)
      (by rw [List.getElem?_map, List.getElem?_range hk]; rfl) hd kk
  · cases ho
theorem obj_set {k j : Nat} {F : Nat → V} {v : V} : (List.range (mNf.getD k 0)).map (fun i => mv B sa (mup F j v i)) = ((List.range (mNf.getD k 0)).map (fun i => mv B sa (F i))).set j (mv B sa v) := by
  apply List.ext_getElem?
  intro i
  rw [List.getElem?_set]
  by_cases hi : i < mNf.getD k 0
  · by_cases hj : j = i
    · subst hj
      simp [mup, hi]
    · have hj2 : ¬ i = j := fun q => hj q.symm
      simp [mup, hi, hj, hj2]
  · simp [hi]
    intro hj1 hj2
    omega
theorem Rel.put (hr : Rel D B sa ca s H locs cells hs) {a : Nat} {e9 : mE} (ha : a < hs.2.1) {H1 : Heap} {locs1 : List Loc} (h1 : va_P D mCl ((wsO B sa ca hs).set a (B + a, toE B sa ca e9)) H1) (h2 : va_S (fun q => B ≤ q) s.heap H1 locs1) : Rel D B sa ca s H1 locs1 cells (hput hs a e9) := by
  rw [wsO_set ha] at h1
  exact ⟨h1, h2, hr.2.2⟩
theorem sd_putfield (X : Cx p s m args meth c D B sa ca sc y) (hr : Rel D B sa ca s H locs cells hs) {k a : Nat} {F : Nat → V} {v : V} (h : cd y pc = some (.putfield k, x, nx)) (ha : a < hs.2.1) (he : hs.1 a = .inr (.inr (x, F))) (hv : okV (fKind x k) v = true)
    (kk : ∀ H2 locs2, Rel D B sa ca s H2 locs2 cells (hput hs a (eO x (mup F k v))) → W p l e R s m args below meth c H2 locs2 cells slots Q (F0 m nx ls rest)) : W p l e R s m args below meth c H locs cells slots Q (F0 m pc ls (mv B sa v :: .ref (B + a) :: rest)) := by
  obtain ⟨r, n, hd, ho⟩ := dec_of h
  simp only [okR, Bool.and_eq_true, beq_iff_eq] at ho
  obtain ⟨e1, ho⟩ := ho
  subst e1
  split at ho
  · simp only [Bool.and_eq_true, beq_iff_eq, Nat.blt_eq] at ho
    obtain ⟨⟨⟨rfl, hk⟩, hf⟩, hfin⟩ := ho
    have h13 := mNf13 hk
    have hg := wsO_get (B := B) (sa := sa) (ca := ca) ha
    rw [he] at hg
    obtain ⟨hn, hft⟩ := fk_ok (B := B) (sa := sa) hk hv
    have hown := mem_all (mem_all own_all (List.mem_range.mpr h13)) (List.mem_range.mpr hk)
    simp only [decide_eq_true_eq] at hown
    by_cases hfn : (TXn x k).2.2.2 = false
    · refine va_put X.1 X.2.1 X.2.2.2.2.1 (clsW h13) (tyXn x) (tyXn_ok h13) (nmXn_ok h13) X.2.2.2.1 X.2.2.2.2.2.1 hr.1 wsO_D hr.2.1 a hg (mCl_get h13) k hk (X.2.2.2.2.1 _ (fld_mem hf)) (fun _ h9 => h9) hfn (tyXn_ok h13 k hk) hn hft (by simp [hk]) hd (fun H1 locs1 q1 _ q3 => ?_)
      exact kk H1 locs1 (hr.put ha (by show va_P D mCl ((wsO B sa ca hs).set a (B + a, .inr (x, _))) H1; rw [obj_set]; exact q1) q3)
    · have hfn2 : (TXn x k).2.2.2 = true := by simpa using hfn
      rw [hfn2] at hfin
      simp only [Bool.or_eq_true, Bool.and_eq_true, beq_iff_eq] at hfin
      rcases hfin with q | ⟨q1, q2⟩
      · cases q
      · refine va_putF X.1 X.2.1 X.2.2.2.2.1 (clsW h13) (tyXn x) (tyXn_ok h13) (nmXn_ok h13) X.2.2.2.1 X.2.2.2.2.2.1 hr.1 wsO_D hr.2.1 a hg (mCl_get h13) k hk (X.2.2.2.2.1 _ (fld_mem hf)) (fun _ h9 => h9) hfn2 (X.2.2.2.2.2.2.2.1.trans q1) (hown.trans q2) (tyXn_ok h13 k hk) hn hft (by simp [hk]) hd (fun H1 locs1 q1 _ q3 => ?_)
        exact kk H1 locs1 (hr.put ha (by show va_P D mCl ((wsO B sa ca hs).set a (B + a, .inr (x, _))) H1; rw [obj_set]; exact q1) q3)
  · cases ho
end Sd3
