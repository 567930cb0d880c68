/-! what a method owes, and how it gives it back -/
theorem catS_all : ∀ {as : List V}, catS as = as.length → ∀ v ∈ as, ¬ ∃ a, v = vL a := by
  intro as
  induction as with
  | nil => intro _ v hv; cases hv
  | cons u t ih =>
    intro h v hv
    have hge : ∀ z : List V, z.length ≤ catS z := by
      intro z
      induction z with
      | nil => exact Nat.le_refl 0
      | cons w z2 ih2 => rcases w with a | a | (_ | a) | i <;> simp only [catS, List.length_cons] <;> omega
    have h1 := hge t
    rcases u with a | a | (_ | a) | i
    · simp only [catS, List.length_cons] at h
      rcases List.mem_cons.mp hv with rfl | hv
      · rintro ⟨b, hb⟩; cases hb
      · exact ih (by omega) v hv
    · simp only [catS, List.length_cons] at h
      omega
    · simp only [catS, List.length_cons] at h
      rcases List.mem_cons.mp hv with rfl | hv
      · rintro ⟨b, hb⟩; cases hb
      · exact ih (by omega) v hv
    · simp only [catS, List.length_cons] at h
      rcases List.mem_cons.mp hv with rfl | hv
      · rintro ⟨b, hb⟩; cases hb
      · exact ih (by omega) v hv
    · simp only [catS, List.length_cons] at h
      rcases List.mem_cons.mp hv with rfl | hv
      · rintro ⟨b, hb⟩; cases hb
      · exact ih (by omega) v hv
theorem args_at {B : Nat} {sa : Nat → Nat} : ∀ {as : List V} {k : Nat}, (∀ v ∈ as, ¬ ∃ a, v = vL a) → ∀ (i : Nat) (v : V), as[i]? = some v → (k + i, mv B sa v) ∈ lv_args k (as.map (mv B sa)) := by
  intro as
  induction as with
  | nil => intro k _ i v h; simp at h
  | cons u t ih =>
    intro k hc i v h
    have hu : ¬ (mv B sa u).category = 2 := fun q => hc u List.mem_cons_self (mv_cat q)
    rw [List.map_cons, lv_args, if_neg hu]
    cases i with
    | zero =>
      have e9 : u = v := by simpa using h
      subst e9
      exact List.mem_cons_self
    | succ i =>
      refine List.mem_cons_of_mem _ ?_
      rw [show k + (i + 1) = k + 1 + i by omega]
      exact ih (fun z hz => hc z (List.mem_cons_of_mem _ hz)) i v (by simpa using h)
theorem sl_len {B : Nat} {sa : Nat → Nat} : ∀ {as : List V}, (∀ v ∈ as, ¬ ∃ a, v = vL a) → (lg_sl (as.map (mv B sa))).length = as.length := by
  intro as
  induction as with
  | nil => intro _; rfl
  | cons u t ih =>
    intro hc
    have hu : ¬ (mv B sa u).category = 2 := fun q => hc u List.mem_cons_self (mv_cat q)
    have h1 := ih (fun z hz => hc z (List.mem_cons_of_mem _ hz))
    unfold lg_sl at h1 ⊢
    rw [List.map_cons, List.flatMap_cons, if_neg hu, List.length_append, h1, List.length_cons]
    simp only [List.length_cons, List.length_nil]
    omega
theorem lrel_in {B : Nat} {sa : Nat → Nat} {y : Nat} {as : List V} (hc : ∀ v ∈ as, ¬ ∃ a, v = vL a) (hn : as.length ≤ mMaxL.getD y 0) :
    lrel B sa ((lg_sl (as.map (mv B sa)) ++ List.replicate (mMaxL.getD y 0 - (lg_sl (as.map (mv B sa))).length) Slot.unset).toArray) (mMaxL.getD y 0) (lvIn y as) := by
  have h0 := lv_entry (as.map (mv B sa)) (n := mMaxL.getD y 0) (by rw [sl_len hc]; exact hn)
  refine ⟨h0.1, h0.2.1, ?_, fun i v h => ?_⟩
  · unfold lvIn
    rw [List.length_append, List.length_map, List.length_replicate]
    omega
  · have h1 : as[i]? = some v := by
      unfold lvIn at h
      rw [List.getElem?_append] at h
      split at h
      · rw [List.getElem?_map] at h
        cases ha : as[i]? with
        | none => rw [ha] at h; cases h
        | some u =>
          rw [ha] at h
          simpa using h
      · rw [List.getElem?_replicate] at h
        split at h <;> cases h
    have h2 := h0.2.2 _ (args_at (B := B) (sa := sa) (k := 0) hc i v h1)
    simpa using h2
/-- the environment that every method finds -/
def EvO (D : va_G) (B : Nat) (sa : Nat → Nat) (ca : Nat → ClassId) (sc : Scr) (Z : State → Prop) (U : State) : Prop :=
  va_K D mCl (tysO ca) U ∧ B ≤ U.heap.size ∧ (va_X (sa 9) sc.1 (fun j => Int32.ofInt (sc.2 j)) U U.heap ∧ sa 9 < B) ∧ (va_AO (cnm 3) U ∧ va_AO (cnm 8) U) ∧ Z U
def ZOk (B : Nat) (Z : State → Prop) : Prop := ∀ (s U : State), s.vm.Alike U.vm → s.WarmedH U.vm → (∀ q : Nat, q < B → U.heap[q]? = s.heap[q]?) → Z s → Z U
theorem EvO.moved {D : va_G} {B : Nat} {sa : Nat → Nat} {ca : Nat → ClassId} {sc : Scr} {Z : State → Prop} (hZ : ZOk B Z) {s U : State} (h : EvO D B sa ca sc Z s) (hW : s.WarmedH U.vm) (hsz : s.heap.size ≤ U.heap.size) (hk : ∀ q : Nat, q < B → U.heap[q]? = s.heap[q]?) : EvO D B sa ca sc Z U := by
  obtain ⟨h1, h2, ⟨⟨scr, x1, x2, x3, x4, x5⟩, h4⟩, ⟨h5, h6⟩, h7⟩ := h
  refine ⟨va_K.moved hW.alike h1, Nat.le_trans h2 hsz, ⟨⟨scr, ?_, State.isArrayOf_alike hW.alike x2, x3, x4, x5⟩, h4⟩, ⟨va_AO.moved hW.alike h5, va_AO.moved hW.alike h6⟩, hZ s U hW.alike hW hk h7⟩
  rw [hk _ h4]
  exact x1
def PcO (D : va_G) (B : Nat) (sa : Nat → Nat) (ca : Nat → ClassId) (sc : Scr) (Z : State → Prop) (hs : HS) (as : List V) : Array Value → State → Prop := fun v U =>
  v = (as.map (mv B sa)).toArray ∧ va_P D mCl (wsO B sa ca hs) U.heap ∧ (hs.2.2.1 = true → B + hs.2.1 = U.heap.size) ∧ EvO D B sa ca sc Z U
def QcO (D : va_G) (B : Nat) (sa : Nat → Nat) (ca : Nat → ClassId) (hs2 : HS) (v : Option V) : Array Value → State → Outcome → State → Prop := fun _ st o t =>
  o = .returned (v.map (mv B sa)) ∧ va_P D mCl (wsO B sa ca hs2) t.heap ∧ va_F (fun q => B ≤ q) st t
theorem PcO.blind {D : va_G} {B : Nat} {sa : Nat → Nat} {ca : Nat → ClassId} {sc : Scr} {Z : State → Prop} (hZ : ZOk B Z) {hs : HS} {as : List V} : FrameBlind (PcO D B sa ca sc Z hs as) := by
  intro a U g mk h
  obtain ⟨h1, h2, h3, h4⟩ := h
  exact ⟨h1, h2, h3, EvO.moved hZ h4 (State.WarmedH.refl U) (Nat.le_refl _) (fun q _ => rfl)⟩
def rmO (d mc ms : Nat) : Room := { frames := d + 8, cells := mc, slots := ms, locals := 64 * d + 512 }
def wsY (y : Nat) : List Cond := codW y :: mTbl
section Ret
variable {p : Program} {l : Launch} {e : Env} {R : Room} {s : State} {m : MethodId} {args : Array Value} {below : List Frame} {meth : Method} {c : Code} {H : Heap} {locs : List Loc} {cells slots : Nat} {D : va_G} {B : Nat} {sa : Nat → Nat} {ca : Nat → ClassId} {sc : Scr} {Z : State → Prop} {y pc x nx : Nat} {ls : Array Slot} {hs : HS}
theorem mRk_len : mRk.length = 275 := by decide +kernel
theorem mRk_lt {y k : Nat} (h : mRk.getD y 9 = k) (hk : k < 9) : y < 275 := by
  rcases Nat.lt_or_ge y 275 with q | q
  · exact q
  · rw [List.getD_eq_getElem?_getD, List.getElem?_eq_none (by rw [mRk_len]; exact q)] at h
    have h9 : 9 = k := h
    omega
theorem mRk0_all : (List.range 275).all (fun y => !(mRk.getD y 9 == 0) || decide ((mI y).2.2.2 = none)) = true := by decide +kernel
theorem mRk_0 {y : Nat} (h : mRk.getD y 9 = 0) : (mI y).2.2.2 = none := by
  have h1 := mem_all mRk0_all (List.mem_range.mpr (mRk_lt h (by decide)))
  rw [h] at h1
  simpa using h1
theorem mRk1_all : (List.range 275).all (fun y => !(mRk.getD y 9 == 1) || decide ((mI y).2.2.2 = some .int)) = true := by decide +kernel
theorem mRk_1 {y : Nat} (h : mRk.getD y 9 = 1) : (mI y).2.2.2 = some .int := by
  have h1 := mem_all mRk1_all (List.mem_range.mpr (mRk_lt h (by decide)))
  rw [h] at h1
  simpa using h1
theorem mRk2_all : (List.range 275).all (fun y => !(mRk.getD y 9 == 2) || decide ((mI y).2.2.2 = some .boolean)) = true := by decide +kernel
theorem mRk_2 {y : Nat} (h : mRk.getD y 9 = 2) : (mI y).2.2.2 = some .boolean := by
  have h1 := mem_all mRk2_all (List.mem_range.mpr (mRk_lt h (by decide)))
  rw [h] at h1
  simpa using h1
theorem mRk3_all : (List.range 275).all (fun y => !(mRk.getD y 9 == 3) || decide ((mI y).2.2.2 = some (.object "ChaseHall$Hall"))) = true := by decide +kernel
theorem mRk_3 {y : Nat} (h : mRk.getD y 9 = 3) : (mI y).2.2.2 = some (.object "ChaseHall$Hall") := by
  have h1 := mem_all mRk3_all (List.mem_range.mpr (mRk_lt h (by decide)))
  rw [h] at h1
  simpa using h1
theorem rel_F (hr : Rel D B sa ca s H locs cells hs) {t : State} (ht : t.heap = H) : va_F (fun q => B ≤ q) s t := by
  unfold va_F
  rw [ht]
  exact ⟨hr.2.1.1, hr.2.1.2.1⟩
/-- the end of a method: its return -/
theorem sd_ret (X : Cx p s m args meth c D B sa ca sc Z y) (hlocks : meth.locks = false) (hret : meth.sig.returnType = (mI y).2.2.2) (hr : Rel D B sa ca s H locs cells hs) {i : Instr} {r : Rs} {st : List V} (h : cd y pc = some (i, x, nx))
    (hi : (∃ a, i = .ireturn ∧ st = [vI a] ∧ r = .inl (some (vI a)) ∧ (mRk.getD y 9 = 1 ∨ mRk.getD y 9 = 2 ∧ (a = 0 ∨ a = 1))) ∨ (∃ a, i = .areturn ∧ st = [vR a] ∧ r = .inl (some (vR a)) ∧ mRk.getD y 9 = 3) ∨ (i = .return_ ∧ st = [] ∧ r = .inl none ∧ mRk.getD y 9 = 0)) :
    ∃ v, r = .inl v ∧ W p l e R s m args below meth c H locs cells slots (MQ below (QcO D B sa ca hs v) args s cells slots (fun q => B ≤ q)) (F0 m pc ls (st.map (mv B sa))) := by
  rcases hi with ⟨a, rfl, rfl, rfl, hk⟩ | ⟨a, rfl, rfl, rfl, hk⟩ | ⟨rfl, rfl, rfl, hk⟩
  · refine ⟨_, rfl, ?_⟩
    obtain ⟨hd, -⟩ := sd_one h (fun r n => rfl)
    have hty : ∃ ty, (mI y).2.2.2 = some ty ∧ narrow ty (.int (Int32.ofInt a)) = .int (Int32.ofInt a) := by
      rcases hk with hk | ⟨hk, ha⟩
      · exact ⟨_, mRk_1 hk, rfl⟩
      · exact ⟨_, mRk_2 hk, by rcases ha with rfl | rfl <;> decide⟩
    obtain ⟨ty, e1, e2⟩ := hty
    exact W.zret X.1 X.2.1 (hret.trans e1) e2 (fun t ht hW => ⟨rfl, by rw [ht]; exact hr.1, rel_F hr ht⟩) hr.2.1.2.2 hd hlocks
  · refine ⟨_, rfl, ?_⟩
    obtain ⟨hd, -⟩ := sd_one h (fun r n => rfl)
    exact W.aret X.1 X.2.1 (hret.trans (mRk_3 hk)) (Or.inl ⟨_, rfl⟩) (Or.inr ⟨_, rfl⟩) (fun t ht hW => ⟨rfl, by rw [ht]; exact hr.1, rel_F hr ht⟩) hr.2.1.2.2 hd hlocks
  · refine ⟨_, rfl, ?_⟩
    obtain ⟨hd, -⟩ := sd_one h (fun r n => rfl)
    exact W.vret X.1 X.2.1 (hret.trans (mRk_0 hk)) (fun t ht hW => ⟨rfl, by rw [ht]; exact hr.1, rel_F hr ht⟩) hr.2.1.2.2 hd hlocks
end Ret
