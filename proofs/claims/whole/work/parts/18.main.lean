/-! the small machine's run is the machine's -/
def exN (k : Nat) : String := match k with
  | 1 => "java/lang/IndexOutOfBoundsException"
  | _ => "java/util/NoSuchElementException"
/-- the frame g, with q thrown over it -/
def xW (p : Program) (l : Launch) (e : Env) (R : Room) (s : State) (m : MethodId) (args : Array Value) (below : List Frame) (meth : Method) (c : Code) (H : Heap) (locs : List Loc) (cells slots : Nat) (Q : State → Prop) (g : JFrame) (q : Addr) : Prop :=
  ∀ T : State, T.heap = H → Stand p l e R s m args below meth c T locs cells slots → ∃ t, Steps p.tables e below ((T.setTop g).pushFrame (.throwing q)) t ∧ Q t
/-- the end with a throw of kind k -/
def xQ (D : va_G) (B : Nat) (sa : Nat → Nat) (ca : Nat → ClassId) (hs2 : HS) (k mc ms : Nat) : Array Value → State → Outcome → State → Prop := fun _ st o t =>
  ∃ (q : Addr) (ce : Cell) (L : List Loc), o = .threw q ∧ t.heap[q]? = some ce ∧ ce.vm = .none ∧ st.vm.findClass (exN k) = some ce.cls ∧ va_P D mCl (wsO B sa ca hs2) t.heap ∧ va_F (fun q => B ≤ q) st t ∧ st.WarmedH t.vm ∧ st.sameButNew ({ t with vm := st.vm } : State) L mc ms ∧ ∀ z ∈ L, B ≤ z.base
def xMQ (D : va_G) (B : Nat) (sa : Nat → Nat) (ca : Nat → ClassId) (hs2 : HS) (k mc ms : Nat) (below : List Frame) (a : Array Value) (s : State) : State → Prop := fun t =>
  ∃ o, t.status = .running ∧ Ended t below o ∧ xQ D B sa ca hs2 k mc ms a s o t
/-- what is owed at the end of a run -/
def EndO (p : Program) (l : Launch) (e : Env) (R : Room) (s : State) (m : MethodId) (args : Array Value) (below : List Frame) (meth : Method) (c : Code) (Q : State → Prop) (D : va_G) (B : Nat) (sa : Nat → Nat) (ca : Nat → ClassId) (y c0 s0 : Nat) (r : Rs) (hs2 : HS) : Prop :=
  (∀ v, r = .inl v → ∀ (H2 : Heap) (locs2 : List Loc) (cells2 slots2 : Nat) (ls2 : Array Slot) (pc2 x nx : Nat) (i : Instr) (st2 : List V), Rel D B sa ca s H2 locs2 cells2 hs2 → c0 + cells2 = hs2.2.2.2.1 → s0 + slots2 = hs2.2.2.2.2 → cd y pc2 = some (i, x, nx) →
    ((∃ a, i = .ireturn ∧ st2 = [vI a] ∧ r = .inl (some (vI a)) ∧ (mRk.getD y 9 = 1 ∨ mRk.getD y 9 = 2 ∧ (a = 0 ∨ a = 1))) ∨ (∃ a, i = .areturn ∧ st2 = [vR a] ∧ r = .inl (some (vR a)) ∧ mRk.getD y 9 = 3) ∨ (i = .return_ ∧ st2 = [] ∧ r = .inl none ∧ mRk.getD y 9 = 0)) →
    W p l e R s m args below meth c H2 locs2 cells2 slots2 Q (F0 m pc2 ls2 (st2.map (mv B sa)))) ∧
  (∀ k, r = .inr k →
    (∀ (H2 : Heap) (locs2 : List Loc) (cells2 slots2 : Nat) (ls2 : Array Slot) (pc2 nx : Nat) (st2 : List V) (hs3 : HS), Rel D B sa ca s H2 locs2 cells2 hs3 → ls2.size = mMaxL.getD y 0 → c0 + cells2 = hs3.2.2.2.1 → s0 + slots2 = hs3.2.2.2.2 → hs2 = (hs3.1, hs3.2.1, false, hs3.2.2.2.1 + 1, hs3.2.2.2.2 + 6) → cd y pc2 = some (.athrow, k, nx) → catS st2 ≤ 8 →
      W p l e R s m args below meth c H2 locs2 cells2 slots2 Q (F0 m pc2 ls2 (st2.map (mv B sa)))) ∧
    (∀ (H2 : Heap) (locs2 : List Loc) (cells2 slots2 : Nat) (ls2 : Array Slot) (pc2 : Nat) (st2 : List Value) (q : Addr) (ce : Cell), Rel D B sa ca s H2 locs2 cells2 hs2 → c0 + cells2 = hs2.2.2.2.1 → s0 + slots2 = hs2.2.2.2.2 → H2[q]? = some ce → ce.vm = .none → s.vm.findClass (exN k) = some ce.cls → hnd y pc2 k = none →
      xW p l e R s m args below meth c H2 locs2 cells2 slots2 Q (F0 m pc2 ls2 st2) q))
def SndAt (l : Launch) (D : va_G) (B : Nat) (sa : Nat → Nat) (ca : Nat → ClassId) (sc : Scr) (Z : State → Prop) (n : Nat) : Prop :=
  ∀ (d y pc : Nat) (lv : LV) (st : List V) (hs : HS) (r : Rs) (hs2 : HS), exec sc n d y pc lv st hs = some (r, hs2) →
  ∀ (p : Program) (e : Env) (R : Room) (s : State) (m : MethodId) (args : Array Value) (below : List Frame) (meth : Method) (c : Code) (Q : State → Prop), Cx p s m args meth c D B sa ca sc Z y → d + 8 ≤ R.frames ∧ 64 * d + 512 ≤ R.locals →
  ∀ (H : Heap) (locs : List Loc) (cells slots : Nat) (ls : Array Slot) (c0 s0 : Nat), Rel D B sa ca s H locs cells hs → lrel B sa ls (mMaxL.getD y 0) lv → c0 + cells = hs.2.2.2.1 → s0 + slots = hs.2.2.2.2 → hs2.2.2.2.1 ≤ c0 + R.cells → hs2.2.2.2.2 ≤ s0 + R.slots →
  EndO p l e R s m args below meth c Q D B sa ca y c0 s0 r hs2 → W p l e R s m args below meth c H locs cells slots Q (F0 m pc ls (st.map (mv B sa)))
/-- texts -/
def TxLaw (l : Launch) (D : va_G) (B : Nat) (sa : Nat → Nat) (ca : Nat → ClassId) (sc : Scr) (Z : State → Prop) : Prop :=
  ∀ (p : Program) (e : Env) (R : Room) (s : State) (m : MethodId) (args : Array Value) (below : List Frame) (meth : Method) (c : Code) (Q : State → Prop) (y : Nat), Cx p s m args meth c D B sa ca sc Z y → 8 ≤ R.frames ∧ 512 ≤ R.locals →
  ∀ (pc : Nat) (i : Instr) (x nx : Nat), cd y pc = some (i, x, nx) → isTx i = true → ∀ (lv : LV) (st : List V) (hs : HS) (pc2 : Nat) (lv2 : LV) (st2 : List V) (hs2 : HS), stp sc y pc lv st hs = some (.inl (pc2, lv2, st2, hs2)) → StepW p l e R s m args below meth c Q D B sa ca y pc lv st hs pc2 lv2 st2 hs2
/-- a method's contract where it throws -/
def xMet (l : Launch) (D : va_G) (B : Nat) (sa : Nat → Nat) (ca : Nat → ClassId) (sc : Scr) (Z : State → Prop) (y d mc ms k : Nat) (hs hs2 : HS) (as : List V) : Prop :=
  MetFree l (mName y) (headSpec (wsY y) (rmO d mc ms)) (PcO D B sa ca sc Z hs as) (fun _ _ _ _ _ => True) (xQ D B sa ca hs2 k mc ms)
/-- a call that comes back with a throw -/
def CtLaw (l : Launch) (D : va_G) (B : Nat) (sa : Nat → Nat) (ca : Nat → ClassId) (sc : Scr) (Z : State → Prop) : Prop :=
  ∀ (p : Program) (e : Env) (R : Room) (s : State) (m : MethodId) (args : Array Value) (below : List Frame) (meth : Method) (c : Code) (Q : State → Prop) (y pc : Nat) (lv : LV) (st : List V) (hs hs2 : HS) (y2 nx d mc ms k : Nat) (as r : List V) (H : Heap) (locs : List Loc) (cells slots : Nat) (ls : Array Slot), Cx p s m args meth c D B sa ca sc Z y →
  stp sc y pc lv st hs = some (.inr (.inl (y2, as, r, nx))) → isV y pc = true → y2 ∈ codL → xMet l D B sa ca sc Z y2 (d - 1) mc ms k hs hs2 as → 0 < d → d + 8 ≤ R.frames ∧ 64 * d + 512 ≤ R.locals → Rel D B sa ca s H locs cells hs → ls.size = mMaxL.getD y 0 →
  (∀ U : State, U.heap = H → s.WarmedH U.vm → PcO D B sa ca sc Z hs as (as.map (mv B sa)).toArray U) → cells + mc ≤ R.cells ∧ slots + ms ≤ R.slots →
  (∀ (H1 : Heap) (L : List Loc) (q : Addr) (ce : Cell) (st₀ t : State), st₀.heap = H → t.heap = H1 → va_P D mCl (wsO B sa ca hs2) H1 → va_F (fun q => B ≤ q) st₀ t → (∀ z ∈ L, B ≤ z.base) → H1[q]? = some ce → ce.vm = .none → s.vm.findClass (exN k) = some ce.cls →
    xW p l e R s m args below meth c H1 (locs ++ L) (cells + mc) (slots + ms) Q (F0 m pc ls (r.map (mv B sa))) q) →
  W p l e R s m args below meth c H locs cells slots Q (F0 m pc ls (st.map (mv B sa)))
/-- a throw that is caught -/
def CcLaw (l : Launch) (D : va_G) (B : Nat) (sa : Nat → Nat) (ca : Nat → ClassId) (sc : Scr) (Z : State → Prop) : Prop :=
  ∀ (p : Program) (e : Env) (R : Room) (s : State) (m : MethodId) (args : Array Value) (below : List Frame) (meth : Method) (c : Code) (Q : State → Prop) (y pc k j pc2 : Nat) (lv : LV) (H : Heap) (locs : List Loc) (cells slots : Nat) (ls : Array Slot) (st2 : List Value) (q : Addr) (ce : Cell), Cx p s m args meth c D B sa ca sc Z y →
  hnd y pc k = some (j, pc2) → lrel B sa ls (mMaxL.getD y 0) lv → H[q]? = some ce → ce.vm = .none → s.vm.findClass (exN k) = some ce.cls →
  (∀ ls2, lrel B sa ls2 (mMaxL.getD y 0) (lv.map (fun _ => none)) → W p l e R s m args below meth c H locs cells slots Q (F0 m pc2 ls2 [])) → xW p l e R s m args below meth c H locs cells slots Q (F0 m pc ls st2) q
/-- calls of the methods that have tables of their own -/
def CwLaw (l : Launch) (D : va_G) (B : Nat) (sa : Nat → Nat) (ca : Nat → ClassId) (sc : Scr) (Z : State → Prop) : Prop :=
  ∀ n, SndAt l D B sa ca sc Z n → ∀ (p : Program) (e : Env) (R : Room) (s : State) (m : MethodId) (args : Array Value) (below : List Frame) (meth : Method) (c : Code) (Q : State → Prop) (y pc : Nat) (lv : LV) (st : List V) (hs hs2 : HS) (y2 nx d : Nat) (as r : List V) (v : Option V) (H : Heap) (locs : List Loc) (cells slots : Nat) (ls : Array Slot) (c0 s0 : Nat), Cx p s m args meth c D B sa ca sc Z y →
  stp sc y pc lv st hs = some (.inr (.inl (y2, as, r, nx))) → ¬ y2 ∈ codL → as.length ≤ mMaxL.getD y2 0 → catS as = as.length → exec sc n (d - 1) y2 0 (lvIn y2 as) [] hs = some (.inl v, hs2) → 0 < d → d + 8 ≤ R.frames ∧ 64 * d + 512 ≤ R.locals → Rel D B sa ca s H locs cells hs → lrel B sa ls (mMaxL.getD y 0) lv →
  c0 + cells = hs.2.2.2.1 → s0 + slots = hs.2.2.2.2 → hs2.2.2.2.1 ≤ c0 + R.cells → hs2.2.2.2.2 ≤ s0 + R.slots →
  (∀ (H2 : Heap) (locs2 : List Loc) (cells2 slots2 : Nat), Rel D B sa ca s H2 locs2 cells2 hs2 → c0 + cells2 = hs2.2.2.2.1 → s0 + slots2 = hs2.2.2.2.2 → W p l e R s m args below meth c H2 locs2 cells2 slots2 Q (F0 m nx ls ((v.toList ++ r).map (mv B sa)))) →
  W p l e R s m args below meth c H locs cells slots Q (F0 m pc ls (st.map (mv B sa)))
section Main
variable {l : Launch} {D : va_G} {B : Nat} {sa : Nat → Nat} {ca : Nat → ClassId} {sc : Scr} {Z : State → Prop}
/-- the context of a method's body -/
theorem Cx.of_body {p : Program} {e : Env} {s : State} {m : MethodId} {args : Array Value} {below : List Frame} {meth : Method} {c : Code} {s₁ : State} {y d mc ms : Nat} {hs : HS} {as : List V}
    (Bd : BodyLoose p l (mName y) (headSpec (wsY y) (rmO d mc ms)) (mCode y) (mMaxL.getD y 0) (mI y).2.2.2 e s m args below meth c s₁) (hml : c.maxLocals = mMaxL.getD y 0) (hP : PcO D B sa ca sc Z hs as args s) (hcod : y ∈ codL) : Cx p s m args meth c D B sa ca sc Z y := by
  obtain ⟨h1, h2, h3, h4, h5, h6, h7, h8⟩ := hP
  have hts := atoms_spec (ws := wsY y) Bd.pre
  have hy : y < 275 := by simpa using mem_all codL_lt hcod
  have hno : c.exceptionTable.isEmpty = true := BodyLoose.noHandlers Bd (hts _ List.mem_cons_self)
  have hnh : mHh y = [] := by simpa using mem_all codL_nh hcod
  refine ⟨Bd.exec, Bd.bytes, hml, ?_, fun w hw => hts w (List.mem_cons_of_mem _ hw), h4, h5, ⟨(name_of_methodNamed Bd.named Bd.method).1, by rw [hnh]; simpa [tableOf] using hno⟩, h6, h7, h8⟩
  have h9 := findClass_of_methodNamed Bd.named
  rw [(mDesc_get hy).2.2.2.1] at h9
  exact h9
theorem rel_start {s : State} {args : Array Value} {hs : HS} {as : List V} (hP : PcO D B sa ca sc Z hs as args s) : Rel D B sa ca s s.heap [] 0 hs :=
  ⟨hP.2.1, ⟨Nat.le_refl _, fun _ _ _ => rfl, fun _ h => absurd h List.not_mem_nil⟩, fun q => by rw [Nat.add_zero]; exact hP.2.2.1 q⟩
theorem plain_get {y : Nat} (hy : y < 275) : Jvm.plainName (mName y).cls = true := mem_all plain_all (List.mem_range.mpr hy)
/-- the contract of a method that comes back -/
theorem met_of {n d y : Nat} {as : List V} {hs hs2 : HS} {v : Option V} (ih : SndAt l D B sa ca sc Z n) (hcod : y ∈ codL) (hn : as.length ≤ mMaxL.getD y 0) (hcat : catS as = as.length) (h : exec sc n d y 0 (lvIn y as) [] hs = some (.inl v, hs2)) :
    Met l (mName y) (wsY y) (rmO d (hs2.2.2.2.1 - hs.2.2.2.1) (hs2.2.2.2.2 - hs.2.2.2.2)) (PcO D B sa ca sc Z hs as) (QcO D B sa ca hs2 v) (hs2.2.2.2.1 - hs.2.2.2.1) (hs2.2.2.2.2 - hs.2.2.2.2) (fun q => B ≤ q) := by
  have hcnt := exec_cnt _ _ _ _ _ _ _ _ _ h
  have hy : y < 275 := by simpa using mem_all codL_lt hcod
  refine Met.ofW (cc := mCode y) (maxL := mMaxL.getD y 0) (ret := (mI y).2.2.2) (plain_get hy) rfl ?_
  intro p e s m args below meth c s₁ Bd hml hP
  have X := Cx.of_body Bd hml hP hcod
  have hargs := hP.1
  subst hargs
  rw [lg_entry_eq]
  refine ih d y 0 (lvIn y as) [] hs (.inl v) hs2 h p e _ s m _ below meth c _ X ⟨Nat.le_refl _, Nat.le_refl _⟩ s.heap [] 0 0 _ hs.2.2.2.1 hs.2.2.2.2 (rel_start hP) (lrel_in (catS_all hcat) hn) rfl rfl ?_ ?_ ?_
  · show hs2.2.2.2.1 ≤ hs.2.2.2.1 + (hs2.2.2.2.1 - hs.2.2.2.1)
    omega
  · show hs2.2.2.2.2 ≤ hs.2.2.2.2 + (hs2.2.2.2.2 - hs.2.2.2.2)
    omega
  · refine ⟨fun v2 hv2 H2 locs2 cells2 slots2 ls2 pc2 x nx i st2 hr2 hc2 hs2' hcd hi => ?_, fun k hk => by cases hk⟩
    cases hv2
    obtain ⟨v3, hv3, hW⟩ := sd_ret (l := l) (e := e) (R := (headSpec (wsY y) (rmO d (hs2.2.2.2.1 - hs.2.2.2.1) (hs2.2.2.2.2 - hs.2.2.2.2))).room) (below := below) (ls := ls2) (slots := slots2) X Bd.notSynchronized Bd.returns hr2 hcd hi
    cases hv3
    have e1 : cells2 = hs2.2.2.2.1 - hs.2.2.2.1 := by omega
    have e2 : slots2 = hs2.2.2.2.2 - hs.2.2.2.2 := by omega
    subst e1
    subst e2
    exact hW
/-- the contract of a method that throws -/
theorem xmet_of {n d y k : Nat} {as : List V} {hs hs2 : HS} (ih : SndAt l D B sa ca sc Z n) (hEnd : ∀ (p : Program) (e : Env) (s : State) (m : MethodId) (args : Array Value) (below : List Frame) (meth : Method) (c : Code), Cx p s m args meth c D B sa ca sc Z y → meth.locks = false → c.exceptionTable.isEmpty = true →
      EndO p l e (rmO d (hs2.2.2.2.1 - hs.2.2.2.1) (hs2.2.2.2.2 - hs.2.2.2.2)) s m args below meth c (xMQ D B sa ca hs2 k (hs2.2.2.2.1 - hs.2.2.2.1) (hs2.2.2.2.2 - hs.2.2.2.2) below args s) D B sa ca y hs.2.2.2.1 hs.2.2.2.2 (.inr k) hs2)
    (hcod : y ∈ codL) (hn : as.length ≤ mMaxL.getD y 0) (hcat : catS as = as.length) (h : exec sc n d y 0 (lvIn y as) [] hs = some (.inr k, hs2)) :
    xMet l D B sa ca sc Z y d (hs2.2.2.2.1 - hs.2.2.2.1) (hs2.2.2.2.2 - hs.2.2.2.2) k hs hs2 as := by
  have hcnt := exec_cnt _ _ _ _ _ _ _ _ _ h
  have hy : y < 275 := by simpa using mem_all codL_lt hcod
  refine MetFree.of_bodyS (code := mCode y) (maxLocals := mMaxL.getD y 0) (ret := (mI y).2.2.2) (plain_get hy) ?_ ?_
  · intro args s m h hn
    obtain ⟨meth, c, h1, h2, h3, h4, h5, h6, -, -⟩ := Cond.code_spec hn (atoms_spec (ws := wsY y) h _ List.mem_cons_self)
    exact ⟨meth, c, h1, h2, h3, h4, h5, h6⟩
  · intro p e s m args below meth c s₁ Bd hml hP _
    have X := Cx.of_body Bd hml hP hcod
    have hno : c.exceptionTable.isEmpty = true := BodyLoose.noHandlers Bd (atoms_spec (ws := wsY y) Bd.pre _ List.mem_cons_self)
    have hargs := hP.1
    subst hargs
    have hh0 : s₁.heap = s.heap := by rw [Bd.state]; rfl
    have K : W p l e (headSpec (wsY y) (rmO d (hs2.2.2.2.1 - hs.2.2.2.1) (hs2.2.2.2.2 - hs.2.2.2.2))).room s m (as.map (mv B sa)).toArray below meth c s.heap [] 0 0 (xMQ D B sa ca hs2 k (hs2.2.2.2.1 - hs.2.2.2.1) (hs2.2.2.2.2 - hs.2.2.2.2) below (as.map (mv B sa)).toArray s) (entryFrame m (as.map (mv B sa)).toArray (mMaxL.getD y 0)) := by
      rw [lg_entry_eq]
      refine ih d y 0 (lvIn y as) [] hs (.inr k) hs2 h p e _ s m _ below meth c _ X ⟨Nat.le_refl _, Nat.le_refl _⟩ s.heap [] 0 0 _ hs.2.2.2.1 hs.2.2.2.2 (rel_start hP) (lrel_in (catS_all hcat) hn) rfl rfl ?_ ?_ (hEnd p e s m _ below meth c X Bd.notSynchronized hno)
      · show hs2.2.2.2.1 ≤ hs.2.2.2.1 + (hs2.2.2.2.1 - hs.2.2.2.1)
        omega
      · show hs2.2.2.2.2 ≤ hs.2.2.2.2 + (hs2.2.2.2.2 - hs.2.2.2.2)
        omega
    obtain ⟨t, a1, o, b1, b2, b3⟩ := K s₁ hh0 (Stand.of_body Bd)
    exact ⟨t, o, a1, b1, b2, b3⟩
end Main
