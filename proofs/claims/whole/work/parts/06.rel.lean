/-! the machine's values and cells for those of the small one; what holds between them -/
def mv (B : Nat) (sa : Nat → Nat) (v : V) : Value := match v with
  | .inl a => .int (Int32.ofInt a)
  | .inr (.inl a) => .long (Int64.ofInt a)
  | .inr (.inr (.inl none)) => .null
  | .inr (.inr (.inl (some a))) => .ref (B + a)
  | .inr (.inr (.inr i)) => .ref (sa i)
def toA (ty : Nat) (f : Nat → Int) : (Nat → Int32) ⊕ (Nat → Int64) ⊕ (Nat → UInt32) ⊕ (Nat → UInt64) ⊕ (Nat → Option Nat) := match ty with
  | 2 => .inr (.inl (fun j => Int64.ofInt (f j)))
  | _ => .inl (fun j => Int32.ofInt (f j))
def toE (B : Nat) (sa : Nat → Nat) (ca : Nat → ClassId) (e : mE) : va_E := match e with
  | .inl (ty, n, f) => .inl (ca ty, n, toA ty f)
  | .inr (.inl (k, n, f)) => .inl (ca (10 + k), n, .inr (.inr (.inr (.inr (fun j => (f j).map (fun a => B + a))))))
  | .inr (.inr (k, F)) => .inr (k, (List.range (mNf.getD k 0)).map (fun j => mv B sa (F j)))
def wsO (B : Nat) (sa : Nat → Nat) (ca : Nat → ClassId) (hs : HS) : va_W := (List.range hs.2.1).map (fun id => (B + id, toE B sa ca (hs.1 id)))
def tysO (ca : Nat → ClassId) : List (ClassId × FieldType) := [(ca 0, .int), (ca 1, .boolean), (ca 2, .long), (ca 13, .object RX3), (ca 18, .object RX8)]
theorem wsO_get {B : Nat} {sa : Nat → Nat} {ca : Nat → ClassId} {hs : HS} {k : Nat} (h : k < hs.2.1) : (wsO B sa ca hs)[k]? = some (B + k, toE B sa ca (hs.1 k)) := by
  simp [wsO, h]
theorem wsO_set {B : Nat} {sa : Nat → Nat} {ca : Nat → ClassId} {hs : HS} {k : Nat} {e : mE} (h : k < hs.2.1) : (wsO B sa ca hs).set k (B + k, toE B sa ca e) = wsO B sa ca (hput hs k e) := by
  apply List.ext_getElem?
  intro i
  by_cases hi : i < hs.2.1
  · by_cases hk : k = i
    · subst hk
      simp [wsO, hput, mup, h]
    · have hk2 : ¬ i = k := fun q => hk q.symm
      simp [wsO, hput, mup, hi, hk, hk2]
  · simp [wsO, hput, mup, hi, List.getElem?_set]
theorem wsO_D {B : Nat} {sa : Nat → Nat} {ca : Nat → ClassId} {hs : HS} : va_D (fun q => B ≤ q) (wsO B sa ca hs) := by
  constructor
  · intro i j a b hi hj hab
    simp only [wsO, List.getElem?_map, Option.map_eq_some_iff, List.getElem?_eq_some_iff] at hi hj
    obtain ⟨u, ⟨hu1, hu2⟩, rfl⟩ := hi
    obtain ⟨v, ⟨hv1, hv2⟩, rfl⟩ := hj
    simp at hu2 hv2 hab
    omega
  · intro k q h
    simp only [wsO, List.getElem?_map, Option.map_eq_some_iff] at h
    obtain ⟨u, -, rfl⟩ := h
    exact Nat.le_add_right _ _
theorem hget_spec {hs : HS} {a : Nat} {e : mE} (h : hget hs a = some e) : a < hs.2.1 ∧ hs.1 a = e := by
  unfold hget at h
  split at h
  · rename_i q
    exact ⟨q, Option.some.inj h⟩
  · cases h
/-- variables -/
def lrel (B : Nat) (sa : Nat → Nat) (ls : Array Slot) (n : Nat) (l : LV) : Prop := ls.size = n ∧ lv_wf ls ∧ l.length = n ∧ ∀ (i : Nat) (v : V), l[i]? = some (some v) → ls[i]? = some (.val (mv B sa v))
def lvO (B : Nat) (sa : Nat → Nat) (l : LV) : List (Nat × Value) := (List.range l.length).filterMap (fun i => match l[i]? with
  | some (some v) => some (i, mv B sa v)
  | _ => none)
theorem lvO_mem {B : Nat} {sa : Nat → Nat} {l : LV} {i : Nat} {v : V} (h : l[i]? = some (some v)) : (i, mv B sa v) ∈ lvO B sa l := by
  unfold lvO
  rw [List.mem_filterMap]
  have hi : i < l.length := (List.getElem?_eq_some_iff.mp h).1
  exact ⟨i, List.mem_range.mpr hi, by rw [h]⟩
theorem lvO_of {B : Nat} {sa : Nat → Nat} {l : LV} {q : Nat × Value} (h : q ∈ lvO B sa l) : ∃ v : V, l[q.1]? = some (some v) ∧ q.2 = mv B sa v := by
  unfold lvO at h
  rw [List.mem_filterMap] at h
  obtain ⟨i, -, hi⟩ := h
  split at hi
  · rename_i v hv
    cases hi
    exact ⟨v, hv, rfl⟩
  · cases hi
theorem lrel.has {B : Nat} {sa : Nat → Nat} {ls : Array Slot} {n : Nat} {l : LV} (h : lrel B sa ls n l) : lv_has ls n (lvO B sa l) := by
  obtain ⟨h1, h2, h3, h4⟩ := h
  refine ⟨h1, h2, fun q hq => ?_⟩
  obtain ⟨v, hv, e⟩ := lvO_of hq
  rw [e]
  exact h4 _ _ hv
theorem mv_cat {B : Nat} {sa : Nat → Nat} {v : V} (h : (mv B sa v).category = 2) : ∃ a, v = vL a := by
  rcases v with a | a | (_ | a) | i
  · simp [mv, Value.category] at h
  · exact ⟨a, rfl⟩
  · simp [mv, Value.category] at h
  · simp [mv, Value.category] at h
  · simp [mv, Value.category] at h
theorem noL_spec {l : LV} {j : Nat} {a : Int} (h : noL l (j + 1) = true) : ¬ l[j]? = some (some (vL a)) := by
  intro q
  simp only [noL, q] at h
  cases h
theorem lrel.put {B : Nat} {sa : Nat → Nat} {ls ls' : Array Slot} {n : Nat} {l : LV} {i : Nat} {v : V} (h : lrel B sa ls n l) (hn : noL l i = true)
    (h' : lv_has ls' n ((i, mv B sa v) :: (lvO B sa l).filter (fun q => !(q.1 == i) && !(q.1 + 1 == i && q.2.category == 2)))) : lrel B sa ls' n (l.set i (some v)) := by
  obtain ⟨h1, h2, h3, h4⟩ := h
  obtain ⟨k1, k2, k3⟩ := h'
  refine ⟨k1, k2, by rw [List.length_set]; exact h3, fun j u hj => ?_⟩
  rw [List.getElem?_set] at hj
  split at hj
  · rename_i e
    subst e
    split at hj
    · have e2 : v = u := by simpa using hj
      subst e2
      exact k3 _ List.mem_cons_self
    · cases hj
  · rename_i e
    refine k3 (j, mv B sa u) (List.mem_cons_of_mem _ (List.mem_filter.mpr ⟨lvO_mem hj, ?_⟩))
    have e1 : (j == i) = false := by simpa using (fun q => e q.symm)
    by_cases hq : j + 1 = i ∧ (mv B sa u).category = 2
    · obtain ⟨a, ha⟩ := mv_cat hq.2
      subst ha
      rw [← hq.1] at hn
      exact absurd hj (noL_spec hn)
    · simp only [e1, Bool.not_false, Bool.true_and]
      have hq2 := Decidable.not_and_iff_or_not.mp hq
      simpa using hq2
theorem lrel.put2 {B : Nat} {sa : Nat → Nat} {ls ls' : Array Slot} {n : Nat} {l : LV} {i : Nat} {v : V} (h : lrel B sa ls n l) (hn : noL l i = true)
    (h' : lv_has ls' n ((i, mv B sa v) :: (lvO B sa l).filter (fun q => !(q.1 == i) && (!(q.1 == i + 1) && !(q.1 + 1 == i && q.2.category == 2))))) : lrel B sa ls' n ((l.set i (some v)).set (i + 1) none) := by
  obtain ⟨h1, h2, h3, h4⟩ := h
  obtain ⟨k1, k2, k3⟩ := h'
  refine ⟨k1, k2, by rw [List.length_set, List.length_set]; exact h3, fun j u hj => ?_⟩
  rw [List.getElem?_set] at hj
  split at hj
  · split at hj <;> cases hj
  · rename_i e0
    rw [List.getElem?_set] at hj
    split at hj
    · rename_i e
      subst e
      split at hj
      · have e2 : v = u := by simpa using hj
        subst e2
        exact k3 _ List.mem_cons_self
      · cases hj
    · rename_i e
      refine k3 (j, mv B sa u) (List.mem_cons_of_mem _ (List.mem_filter.mpr ⟨lvO_mem hj, ?_⟩))
      have e1 : (j == i) = false := by simpa using (fun q => e q.symm)
      have e3 : (j == i + 1) = false := by simpa using (fun q => e0 q.symm)
      by_cases hq : j + 1 = i ∧ (mv B sa u).category = 2
      · obtain ⟨a, ha⟩ := mv_cat hq.2
        subst ha
        rw [← hq.1] at hn
        exact absurd hj (noL_spec hn)
      · simp only [e1, e3, Bool.not_false, Bool.true_and]
        have hq2 := Decidable.not_and_iff_or_not.mp hq
        simpa using hq2
/-- the words of the tables that stay -/
def mTbl : List Cond := lw_tbl.filter goodWord
theorem okAt_mem {i : Nat} {w : Cond} (h : okAt i w = true) (hg : goodWord w = true) : w ∈ mTbl := by
  unfold okAt at h
  have h1 : tables_1[i]? = some w := by simpa using h
  exact List.mem_filter.mpr ⟨List.mem_append_right _ (List.mem_of_getElem? h1), hg⟩
/-- what holds at a method's start -/
def Cx (p : Program) (s : State) (m : MethodId) (args : Array Value) (meth : Method) (c : Code) (D : va_G) (B : Nat) (sa : Nat → Nat) (ca : Nat → ClassId) (sc : Scr) (Z : State → Prop) (y : Nat) : Prop :=
  p.tables.exec = Jvm.exec ∧ c.code = mCode y ∧ c.maxLocals = mMaxL.getD y 0 ∧ s.vm.findClass (cnm (mOwn.getD y 99)) = some m.cls ∧ (∀ w ∈ mTbl, w.before args s = true) ∧ va_K D mCl (tysO ca) s ∧ B ≤ s.heap.size ∧ (meth.name = (mName y).name ∧ c.exceptionTable.toList = tableOf (mHh y)) ∧ ((va_X (sa 9) sc.1 (fun j => Int32.ofInt (sc.2 j)) s s.heap ∧ sa 9 < B) ∧ (va_AO (cnm 3) s ∧ va_AO (cnm 8) s) ∧ Z s)
def Rel (D : va_G) (B : Nat) (sa : Nat → Nat) (ca : Nat → ClassId) (s : State) (H : Heap) (locs : List Loc) (cells : Nat) (hs : HS) : Prop :=
  va_P D mCl (wsO B sa ca hs) H ∧ va_S (fun q => B ≤ q) s.heap H locs ∧ (hs.2.2.1 = true → B + hs.2.1 = s.heap.size + cells)
