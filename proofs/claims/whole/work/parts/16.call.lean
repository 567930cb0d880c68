/-! calls -/
theorem isObj_ref {hs : HS} {k : Nat} {v : V} (h : isObj hs k v = true) : ∃ b F, v = vR b ∧ b < hs.2.1 ∧ hs.1 b = .inr (.inr (k, F)) := by
  rcases v with a | a | (_ | a) | i
  · cases h
  · cases h
  · cases h
  · obtain ⟨F, h1, h2⟩ := isObj_spec h
    exact ⟨a, F, rfl, h1, h2⟩
  · cases h
theorem stp_call {sc : Scr} {y pc : Nat} {lv : LV} {st : List V} {hs : HS} {y2 nx : Nat} {as r : List V} (h : stp sc y pc lv st hs = some (.inr (.inl (y2, as, r, nx)))) :
    ∃ (i : Instr) (x : Nat), cd y pc = some (i, x, nx) ∧ (((i = .invokevirtual y2 ∨ i = .invokespecial y2) ∧ isObj hs (mOwn.getD y2 99) (st.getD (x - 1) vN) = true) ∨ i = .invokestatic y2) ∧ x ≤ st.length ∧ x ≤ mMaxL.getD y2 0 ∧ catS (st.take x) = x ∧ catS (st.drop x) ≤ 8 ∧ as = (st.take x).reverse ∧ r = st.drop x := by
  have hb : ∀ {f : Int → Int → Option Int} {nx9 : Nat}, ¬ bin st f nx9 lv hs = some (.inr (.inl (y2, as, r, nx))) := by
    intro f nx h9
    unfold bin at h9
    repeat' split at h9
    all_goals cases h9
  cases hcd : cd y pc with
  | none => unfold stp at h; rw [hcd] at h; cases h
  | some li =>
    obtain ⟨i, x, nx9⟩ := li
    unfold stp at h
    rw [hcd] at h
    cases i <;> simp only [go, reduceCtorEq] at h
    case iadd => exact absurd h hb
    case isub => exact absurd h hb
    case imul => exact absurd h hb
    case idiv => exact absurd h hb
    case irem => exact absurd h hb
    case iand => exact absurd h hb
    case ishr => exact absurd h hb
    case iushr => exact absurd h hb
    case invokevirtual y9 =>
      split at h
      · rename_i hk
        unfold mcall at h
        split at h
        · rename_i hq
          simp only [Option.some.injEq, Sum.inr.injEq, Sum.inl.injEq, Prod.mk.injEq] at h
          obtain ⟨rfl, rfl, rfl, rfl⟩ := h
          exact ⟨_, _, rfl, Or.inl ⟨Or.inl rfl, hk⟩, hq.1, hq.2.1, hq.2.2.1, hq.2.2.2, rfl, rfl⟩
        · cases h
      · cases h
    case invokespecial y9 =>
      split at h
      · rename_i hk
        unfold mcall at h
        split at h
        · rename_i hq
          simp only [Option.some.injEq, Sum.inr.injEq, Sum.inl.injEq, Prod.mk.injEq] at h
          obtain ⟨rfl, rfl, rfl, rfl⟩ := h
          exact ⟨_, _, rfl, Or.inl ⟨Or.inr rfl, hk⟩, hq.1, hq.2.1, hq.2.2.1, hq.2.2.2, rfl, rfl⟩
        · cases h
      · cases h
    case invokestatic y9 =>
      unfold mcall at h
      split at h
      · rename_i hq
        simp only [Option.some.injEq, Sum.inr.injEq, Sum.inl.injEq, Prod.mk.injEq] at h
        obtain ⟨rfl, rfl, rfl, rfl⟩ := h
        exact ⟨_, _, rfl, Or.inr rfl, hq.1, hq.2.1, hq.2.2.1, hq.2.2.2, rfl, rfl⟩
      · cases h
    all_goals (repeat' split at h)
    all_goals cases h
def NstO (U : State) : Prop := ∀ q ∈ metT, q.2.2.2.1 = 1 → va_Nw (.methodLinkNest (cnm q.1) q.2.1 (mName q.2.2.1) "ChaseHall") U
theorem met_mem {y u y2 : Nat} {f : Nat × Nat × Nat × Nat × Nat → Bool} (h : metT.any f = true) (hf : ∀ q, f q = true → q.1 = mOwn.getD y 99 ∧ q.2.1 = u ∧ q.2.2.1 = y2) : Cond.methodLink (cnm (mOwn.getD y 99)) u (mName y2) ∈ mTbl ∨ ∀ U, NstO U → va_Nw (.methodLinkNest (cnm (mOwn.getD y 99)) u (mName y2) "ChaseHall") U := by
  obtain ⟨q, hq, h2⟩ := mem_any h
  obtain ⟨e1, e2, e3⟩ := hf q h2
  have h3 := mem_all metT_ok hq
  by_cases hk : q.2.2.2.1 = 1
  · refine Or.inr (fun U hU => ?_)
    have h4 := hU q hq hk
    rw [e1, e2, e3] at h4
    exact h4
  · rw [if_neg hk] at h3
    have h4 := okAt_mem h3 rfl
    rw [e1, e2, e3] at h4
    exact Or.inl h4
theorem mDesc_get {y : Nat} (hy : y < 275) : (parseMethodDescriptor (mName y).desc).map (fun d => d.parameters.length) = some (mNar.getD y 0) ∧ (mName y).cls ≠ "java/lang/invoke/MethodHandle" ∧ (mName y).cls ≠ "java/lang/invoke/VarHandle" ∧ (mName y).cls = cnm (mOwn.getD y 99) ∧ mMaxL.getD y 0 ≤ 20 := by
  have h := mem_all mDesc_all (List.mem_range.mpr hy)
  simp only [Bool.and_eq_true, decide_eq_true_eq] at h
  obtain ⟨⟨⟨⟨h1, h2⟩, h3⟩, h4⟩, h5⟩ := h
  exact ⟨h1, h2, h3, h4, h5⟩
theorem goodT {ws : List Cond} (h : ∀ w ∈ ws, w ∈ mTbl) : GoodIn mTbl ws := fun w hw => ⟨h w hw, good_of_word (List.mem_filter.mp (h w hw)).2⟩
theorem codL_lt : codL.all (fun y => decide (y < 275)) = true := by decide +kernel
theorem cod_mem {y : Nat} (h : y ∈ codL) : codW y ∈ mTbl := tb_mem (codAll y h) rfl
theorem ini_all : (List.range 275).all (fun y => decide (Cond.initialized (mName y).cls ∈ tables_1)) = true := by decide +kernel
theorem ini_mem {y : Nat} (h : y < 275) : Cond.initialized (mName y).cls ∈ mTbl := tb_mem (by simpa using mem_all ini_all (List.mem_range.mpr h)) rfl
/-- the kinds of methods: 0 called by its object, 1 static, 2 a constructor -/
def mKi : List Nat := (List.range 275).map (fun y => if staT.any (fun q => q.1 == y) then 1 else if iniT.any (fun q => q.1 == y) then 2 else 0)
theorem vir_mem {y : Nat} (h : virT.any (fun q => q.1 == y) = true) : Cond.instanceMethod (mName y) ∈ mTbl ∧ Cond.selects (mName y).cls (mName y) (mName y) ∈ mTbl := by
  obtain ⟨q, hq, e⟩ := mem_any h
  have e : q.1 = y := by simpa using e
  subst e
  have h1 := mem_all virT_ok hq
  simp only [Bool.and_eq_true] at h1
  refine ⟨okAt_mem h1.1 rfl, ?_⟩
  by_cases hk : q.2.2.2 = 1
  · have h2 := h1.2
    rw [if_pos hk] at h2
    unfold okAtP at h2
    have h3 : (k2_sels lw_privs)[q.2.2.1]? = some (.selects (mName q.1).cls (mName q.1) (mName q.1)) := by simpa using h2
    exact List.mem_filter.mpr ⟨List.mem_append_left _ (List.mem_of_getElem? h3), rfl⟩
  · have h2 := h1.2
    rw [if_neg hk] at h2
    exact okAt_mem h2 rfl
theorem sta_mem {y : Nat} (h : staT.any (fun q => q.1 == y) = true) : Cond.static (mName y) ∈ mTbl := by
  obtain ⟨q, hq, e⟩ := mem_any h
  have e : q.1 = y := by simpa using e
  subst e
  exact okAt_mem (mem_all staT_ok hq) rfl
theorem inn_mem {y : Nat} (h : iniT.any (fun q => q.1 == y) = true) : Cond.instanceMethod (mName y) ∈ mTbl ∧ (mName y).name = "<init>" := by
  obtain ⟨q, hq, e⟩ := mem_any h
  have e : q.1 = y := by simpa using e
  subst e
  have h1 := mem_all iniT_ok hq
  simp only [Bool.and_eq_true, beq_iff_eq] at h1
  exact ⟨okAt_mem h1.1 rfl, h1.2⟩
theorem iniR_all : (List.range 275).all (fun y => !(iniT.any (fun q => q.1 == y)) || ((mI y).2.2.2).isNone) = true := by decide +kernel
/-- every call in the linked code is of a method of its kind, with a code of its own -/
def calOk (q : Nat × LI) : Bool := match q.2.1 with
  | .invokevirtual y2 => virT.any (fun z => z.1 == y2) && codL.contains y2
  | .invokespecial y2 => iniT.any (fun z => z.1 == y2) && codL.contains y2
  | .invokestatic y2 => staT.any (fun z => z.1 == y2) && (codL.contains y2 || cowT.any (fun z => z.1 == y2))
  | _ => true
theorem cal_all : lcAll.all (fun l => l.all calOk) = true := by decide +kernel
theorem cal_get {y pc : Nat} {li : LI} (h : cd y pc = some li) : calOk (pc, li) = true := by
  unfold cd at h
  cases hl : lcAll[y]? with
  | none => rw [hl] at h; simp [lkp] at h
  | some l =>
    rw [hl] at h
    exact mem_all (mem_all cal_all (List.mem_of_getElem? hl)) (lkp_mem h)
theorem isV_spec {y pc : Nat} {i : Instr} {x nx : Nat} (h : isV y pc = true) (hc : cd y pc = some (i, x, nx)) : ∃ y2, i = .invokevirtual y2 := by
  unfold isV at h
  rw [hc] at h
  split at h
  · rename_i y2 _ _ he
    cases he
    exact ⟨y2, rfl⟩
  · cases h
/-- only methods without a table are called by an object -/
theorem isV_cod {sc : Scr} {y pc : Nat} {lv : LV} {st : List V} {hs : HS} {y2 nx : Nat} {as r : List V} (h : isV y pc = true) (hc : stp sc y pc lv st hs = some (.inr (.inl (y2, as, r, nx)))) : y2 ∈ codL := by
  obtain ⟨i, x, hcd, hi, -⟩ := stp_call hc
  obtain ⟨y9, rfl⟩ := isV_spec h hcd
  have hcal := cal_get hcd
  simp only [calOk, Bool.and_eq_true] at hcal
  rcases hi with ⟨hk | hk, -⟩ | hk
  · cases hk
    simpa using hcal.2
  · cases hk
  · cases hk
