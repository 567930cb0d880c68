/-! from a run of the small machine to the law's end -/
def R_law : String := "ChaseHallLaw"
def lw_P (b : Addr) (xs : List Int32) (args : Array Value) (s : State) : Prop := args = #[.ref b] ∧ s.IntsAt b xs ∧ xs.length ≤ 3072 ∧ (Jvm.Cond.and given_1 narrow_1).before args s = true
def lw_Q (_ : Array Value) (s : State) (o : Outcome) (t : State) : Prop := o = .returned (some (.int 1)) ∧ Framed s o t [] 601024 7293033
def lw_Z (below : List Frame) (a : Array Value) (s : State) : State → Prop := fun t => ∃ o, t.status = .running ∧ Ended t below o ∧ lw_Q a s o t
theorem lw_ret {p : Program} {l : Launch} {e : Env} {s : State} {m : MethodId} {below : List Frame} {meth : Method} {c : Code} {b : Nat} (hx : p.tables.exec = Jvm.exec) (hb : c.code = code) (hr : meth.sig.returnType = ret) (hlocks : meth.locks = false) {pc : Nat} {H : Heap} {ls : Array Slot} (hdg : decode code pc = .ok (.ireturn, 1)) : W p l e room_1 s m #[Value.ref b] below meth c H [] 601024 7293033 (lw_Z below #[Value.ref b] s) (F0 m pc ls [.int 1]) := by
  intro T hT X
  obtain ⟨fs, hret, hrun, hended, hW, hframe⟩ := X.leave (v := some (.int 1)) (hlocks := hlocks) (fun h => by rw [hr] at h; cases h)
  have hmeth' : T.vm.method? m = some meth := X.method'
  refine ⟨T.setFrames fs, ?_, .returned (some (.int 1)), hrun, hended, rfl, ⟨_, rfl⟩, hW, hframe⟩
  jvm_step X.here [X.here.top, hx, hb, hdg, hmeth', hr, ret, narrow_b1]
  (try refine ⟨rfl, ?_⟩); (try refine ⟨rfl, ?_⟩)
  first | (intro acts; rw [hret _ acts rfl rfl rfl]) | rw [hret _ _ rfl rfl rfl]
  exact Steps.refl _
def lw_At (p : Program) (s : State) (m : MethodId) (meth : Method) (c : Code) (b L : Nat) (xs : Nat → Int32) : Prop :=
  p.tables.exec = Jvm.exec ∧ c.code = code ∧ meth.sig.returnType = ret ∧ c.maxLocals = 7 ∧ s.vm.findClass R_law = some m.cls ∧ (∀ w ∈ lw_tbl, w.before #[Value.ref b] s = true) ∧ va_X b L xs s s.heap ∧ b < s.heap.size ∧ meth.locks = false ∧ (Jvm.Cond.and given_1 narrow_1).before #[Value.ref b] s = true ∧ meth.name = "law" ∧ c.exceptionTable.isEmpty = true
/-- no cells -/
def hs0 : HS := (fun _ => wcE (9, 0, 0, []) (fun _ => 0), 0, true, 0, 0)
/-- what the small machine owes: on every script it ends with 1, in the room -/
def Owed : Prop := ∀ sc : Scr, sc.1 ≤ 3072 → (∀ j, inR (sc.2 j)) → ∃ (n : Nat) (hs2 : HS), exec sc n 1000 274 0 (lvIn 274 [vS 9]) [] hs0 = some (.inl (some (vI 1)), hs2) ∧ hs2.2.2.2.1 ≤ 601024 ∧ hs2.2.2.2.2 ≤ 7293033
theorem law_facts : mCode 274 = code ∧ mMaxL.getD 274 0 = 7 ∧ cnm (mOwn.getD 274 99) = R_law ∧ (mName 274).name = "law" ∧ (mHh 274).isEmpty = true := by
  refine ⟨rfl, by decide +kernel, by decide +kernel, by decide +kernel, by decide +kernel⟩
set_option maxHeartbeats 2000000 in
theorem whole_start (hO : Owed) {p : Program} {e : Env} {s : State} {m : MethodId} {below : List Frame} {meth : Method} {c : Code} (l : Launch) (hl : l.stackTraces = false) {b L : Nat} {xs : Nat → Int32} (hL : L ≤ 3072) (C0 : lw_At p s m meth c b L xs) : W p l e room_1 s m #[Value.ref b] below meth c s.heap [] 0 0 (lw_Z below #[Value.ref b] s) (entryFrame m ([Value.ref b] : List Value).toArray 7) := by
  obtain ⟨c1, c2, c3, c4, c5, c6, c7, c8, c9, c10, c11, c12⟩ := C0
  obtain ⟨D, ca, hK, hA3, hA8⟩ := k_all c6
  obtain ⟨sa, aV, sx, h9, hZ⟩ := z_all c6 (flat_of_before _ c10) b
  obtain ⟨n, hs2, hrun, hb1, hb2⟩ := hO (L, fun j => (xs j).toInt) hL (fun j => ⟨(xs j).le_toInt, by have := (xs j).toInt_lt; show (xs j).toInt ≤ _; omega⟩)
  obtain ⟨f1, f2, f3, f4, f5⟩ := law_facts
  have hx9 : va_X (sa 9) L (fun j => Int32.ofInt ((xs j).toInt)) s s.heap := by
    rw [h9]
    simp only [Int32.ofInt_toInt]
    exact c7
  have X : Cx p s m #[Value.ref b] meth c D s.heap.size sa ca (L, fun j => (xs j).toInt) (ZxO s.heap.size sa aV sx) 274 := by
    refine ⟨c1, by rw [f1]; exact c2, by rw [f2]; exact c4, by rw [f3]; exact c5, fun w hw => c6 w (List.mem_filter.mp hw).1, hK, Nat.le_refl _, ⟨by rw [f4]; exact c11, ?_⟩, ⟨hx9, by rw [h9]; exact c8⟩, ⟨hA3, hA8⟩, hZ⟩
    have e1 : c.exceptionTable.toList = [] := by simpa using c12
    have e2 : mHh 274 = [] := by simpa using f5
    rw [e1, e2]
    rfl
  have hS := snd_main (l := l) (D := D) (B := s.heap.size) (sa := sa) (ca := ca) (sc := (L, fun j => (xs j).toInt)) (Z := ZxO s.heap.size sa aV sx) zx_ok (fun U h => h.1) (tx_law (fun U h => h.2.2.2)) (ct_law zx_ok) (cc_law (fun U h => h.2.1.1) (fun U h => h.2.2.1)) (cw_law zx_ok (fun U h => h.1)) (ex_law hl (fun U h => h.2.1)) n
  rw [lg_entry_eq]
  have hl0 := lv_entry [Value.ref b] (n := 7) (Nat.le_of_ble_eq_true rfl)
  generalize (lg_sl [Value.ref b] ++ List.replicate (7 - (lg_sl [Value.ref b]).length) Slot.unset).toArray = ls at hl0 ⊢
  have hlr : lrel s.heap.size sa ls (mMaxL.getD 274 0) (lvIn 274 [vS 9]) := by
    rw [f2]
    refine ⟨hl0.1, hl0.2.1, by unfold lvIn; rw [f2]; rfl, fun i v hv => ?_⟩
    unfold lvIn at hv
    rw [f2] at hv
    match i, hv with
    | 0, hv =>
      have e : vS 9 = v := by simpa using hv
      subst e
      show ls[0]? = some (.val (.ref (sa 9)))
      rw [h9]
      exact hl0.2.2 (0, .ref b) List.mem_cons_self
    | i + 1, hv =>
      rw [List.map_cons, List.map_nil, List.cons_append, List.nil_append, List.getElem?_cons_succ, List.getElem?_replicate] at hv
      split at hv <;> cases hv
  refine hS 1000 274 0 (lvIn 274 [vS 9]) [] hs0 _ hs2 hrun p e room_1 s m _ below meth c _ X ⟨by decide, by decide⟩ s.heap [] 0 0 ls 0 0 ⟨fun k q hq => (nomatch hq), va_S.rf, fun _ => rfl⟩ hlr rfl rfl (by show _ ≤ 0 + 601024; omega) (by show _ ≤ 0 + 7293033; omega) ⟨fun v hv H2 locs2 cells2 slots2 ls2 pc2 x nx i st2 hr2 hc2 hz2 hcd hi => ?_, fun k hk => by cases hk⟩
  rcases hi with ⟨a, rfl, rfl, ha, -⟩ | ⟨a, -, -, ha, -⟩ | ⟨-, -, ha, -⟩
  · simp only [Sum.inl.injEq, Option.some.injEq] at ha
    have ha1 : (1 : Int) = a := ha
    subst ha1
    obtain ⟨r9, n9, hd, ho⟩ := dec_of hcd
    have hd9 := (sd_one hcd (fun r n => rfl)).1
    rw [f1] at hd9
    exact va_forget hr2.2.1.2.2 (W.widen (by omega) (by omega) (lw_ret c1 c2 c3 c9 hd9))
  · cases ha
  · cases ha
set_option maxHeartbeats 4000000 in
theorem lw_walk (hO : Owed) (l : Launch) (hl : l.stackTraces = false) (b : Addr) (xs : List Int32) : MetFree l x (headSpec (Jvm.Cond.code x code maxLocals ret :: tables_1) room_1) (lw_P b xs) (fun _ _ _ _ _ => True) lw_Q := by
  refine MetFree.of_bodyS (code := code) (maxLocals := maxLocals) (ret := ret) (by decide) ?_ ?_
  · intro args s m h hn
    obtain ⟨meth, c, h1, h2, h3, h4, h5, h6, -, -⟩ := Cond.code_spec hn (atoms_spec (ws := Jvm.Cond.code x code maxLocals ret :: tables_1) h _ List.mem_cons_self)
    exact ⟨meth, c, h1, h2, h3, h4, h5, h6⟩
  · intro p e s m args below meth c s₁ B hml0 hP _
    obtain ⟨rfl, hx, hbd, hgv⟩ := hP
    obtain ⟨scr, harrAt, hlist, hof, hsmall⟩ := hx
    obtain ⟨hcb, hkn, -, -⟩ := State.arrayAt?_spec harrAt
    have hown : s.vm.findClass R_law = some m.cls := findClass_of_methodNamed B.named
    have hts0 : ∀ c ∈ (Jvm.Cond.code x code maxLocals ret :: tables_1), c.before #[Value.ref b] s = true := atoms_spec (ws := Jvm.Cond.code x code maxLocals ret :: tables_1) B.pre
    have hts : ∀ w ∈ lw_tbl, w.before #[Value.ref b] s = true := k2_hts_sels lw_privs (fun w hw => hts0 w (List.mem_cons_of_mem _ hw)) lw_privs_ok
    have hml : c.maxLocals = 7 := B.maxLocals_eq (hts0 _ List.mem_cons_self)
    have X₀ : Stand p l e room_1 s m #[Value.ref b] below meth c s₁ [] 0 0 := Stand.of_body B
    have hh0 : s₁.heap = s.heap := by rw [B.state]; rfl
    have hsz : scr.slots.size = xs.length := by rw [← Array.length_toList, hlist, List.length_map]
    have hval : ∀ j : Nat, j < xs.length → scr.slots[j]? = some (.int (xs.getD j 0)) := fun j hj => by
      rw [← Array.getElem?_toList, hlist]
      simp [hj]
    have hbl : b < s.heap.size := (Array.getElem?_eq_some_iff.mp hcb).1
    have hX : va_X b xs.length (fun j => xs.getD j 0) s s.heap := ⟨scr, hcb, hof, hkn, hsz, hval⟩
    have hno : c.exceptionTable.isEmpty = true := BodyLoose.noHandlers B (hts0 _ List.mem_cons_self)
    have K : W p l e room_1 s m #[Value.ref b] below meth c s₁.heap [] 0 0 (lw_Z below #[Value.ref b] s) (entryFrame m ([Value.ref b] : List Value).toArray 7) := by
      rw [hh0]
      exact whole_start hO l hl hbd ⟨B.exec, B.bytes, B.returns, hml, hown, hts, hX, hbl, B.notSynchronized, hgv, (name_of_methodNamed B.named B.method).1, hno⟩
    obtain ⟨t, a1, o, b1, b2, b3⟩ := K s₁ rfl X₀
    exact ⟨t, o, a1, b1, b2, b3⟩
theorem lw_pre_spec {args : Array Value} {s : State} (h : (Jvm.Cond.and given_1 narrow_1).before args s = true) (hr : rest_1_c.before args s = true) : ∃ (b : Addr) (xs : List Int32), lw_P b xs args s := by
  have hs := flat_of_before _ h
  have hq := flat_of_before _ hr
  have hc : (Cond.count 1).before args s = true := hs _ (by decide +kernel)
  have harr : (Cond.arrayOf (.arg 0) .int).before args s = true := hs _ (by decide +kernel)
  have hle : (Cond.le (.length (.arg 0)) (.int 3072)).before args s = true := hs _ (by decide +kernel)
  have hlen : (Cond.isInt (.length (.arg 0))).before args s = true := hq _ (by decide +kernel)
  have hall : (Cond.all (.arg 0) (.isInt (.elem (.arg 0) (.index 0)))).before args s = true := hq _ (by decide +kernel)
  obtain ⟨b, xs, hb, hx⟩ := State.ints_of_pre rfl harr hlen hall
  have hsm : xs.length < 2 ^ 31 := hx.choose_spec.2.2.2
  have hev : (Term.length (.arg 0)).eval args s none [] s = some (.int xs.length.toInt32) := hx.length_eval hb
  have hv := Cond.le_ints hev (show (Term.int 3072).eval args s none [] s = some (.int 3072) from rfl)
  have hd : xs.length.toInt32 ≤ 3072 := by
    simpa [Cond.before, Cond.holds, hv] using hle
  have hN : xs.length ≤ 3072 := (Int32.ofNat_le_ofNat hsm (by decide)).mp (show Int32.ofNat xs.length ≤ Int32.ofNat 3072 from hd)
  exact ⟨b, xs, Cond.one_arg hc (show args[0]? = some (.ref b) from hb), hx, hN, h⟩
theorem lw_comes (hO : Owed) (l : Launch) (hl : l.stackTraces = false) : Comes l x (Jvm.Cond.code x code maxLocals ret :: tables_1) room_1 (fun tb e args s => Calls_1 tb e args s ∧ rest_1 tb e args s ∧ Pre_1 tb e args s)
    (fun _ _ args s o t => lw_Q args s o t) := by
  intro p e ha hc hk s m args below hf hfit hheap happ hpre
  obtain ⟨b, xs, hP⟩ := lw_pre_spec hpre.2.2 hpre.2.1
  obtain ⟨k, o, h1, h2, h3, hQ⟩ := lw_walk hO l hl b xs p e ha hc hk s m args below hf ((Spec.applies_iff_loose hf).mp happ).1 hP trivial
  exact ⟨k, o, h1, h2, h3, hQ⟩
theorem lw_frame {s t : State} {o : Outcome} {args : Array Value} (h : Framed s o t [] 601024 7293033) :
    Framed s o t (fieldLocs frame_1_writes args s ++ arrayLocs frame_1_arrays args s ++ staticLocs frame_1_statics s) 601024 7293033 := h
theorem lw_limb (hO : Owed) (L : Cond) (hL : ∀ (args : Array Value) (s t : State), L.after args s (.returned (some (.int 1))) t = true) :
    ArmFor flags0 classFile x code maxLocals ret World_1 tables_1 room_1 Calls_1 rest_1 Pre_1
      (fun tb e a s o t => postC L tb e a s o t ∧ Framed s o t (fieldLocs frame_1_writes a s ++ arrayLocs frame_1_arrays a s ++ staticLocs frame_1_statics s) 601024 7293033) := by
  intro l hfl _ _ p e ha hc hk s m args below hf hfit hheap happ hpre
  have hl : l.stackTraces = false := by
    unfold Launch.stackTraces
    rw [hfl]
    decide
  obtain ⟨k, o, h1, h2, h3, rfl, hF⟩ := lw_comes hO l hl p e ha hc hk s m args below hf hfit hheap happ hpre
  exact ⟨k, _, h1, h2, h3, hL args s _, lw_frame hF⟩
theorem of_owed (hO : Owed) : Claimed_1_1 ∧ Claimed_1_2 := ⟨lw_limb hO limb_1_1 (fun args s t => by simp [limb_1_1, Cond.after, Cond.holds, Cond.value]), lw_limb hO limb_1_2 (fun args s t => Cond.after_iff.mpr (by
  first | (rw [show limb_1_2 = Cond.eq .result (.int 1) from rfl, Cond.eq_ints (x := 1) (y := 1) rfl rfl]; simp; done) | (simp [limb_1_2, Cond.value, Term.eval]; done)))⟩
