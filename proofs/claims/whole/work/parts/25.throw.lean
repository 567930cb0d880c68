/-! throws that leave a method -/
def atsX (k : Nat) : List Cond := vx_atS "ChaseHall" (if k = 1 then 268 else 261) (exN k) ["java/lang/RuntimeException", "java/lang/Exception"]
def isDC (w : Cond) : Bool := match w with
  | .declares _ => true
  | .castable _ _ => true
  | _ => false
/-- the words that stay, but not by themselves -/
def zwL : List Cond := [.castable (exN 1) (exN 1), .castable (exN 2) (exN 2), .declares ⟨"java/lang/RuntimeException", "<init>", "(Ljava/lang/String;)V"⟩, .declares ⟨"java/lang/Exception", "<init>", "(Ljava/lang/String;)V"⟩, .declares ⟨"java/lang/Throwable", "<init>", "(Ljava/lang/String;)V"⟩]
theorem atsX_in : (atsX 1).all (fun w => decide (w ∈ lw_tbl) && (goodWord w || decide (w ∈ zwL)) && vx_ot w) = true := by decide +kernel
theorem zwL_dc : zwL.all isDC = true := by decide +kernel
theorem zwL_in : zwL.all (fun w => decide (w ∈ tables_1)) = true := by decide +kernel
def ZwO (U : State) : Prop := ∀ w ∈ zwL, va_Nw w U
theorem ZwO.moved {s U : State} (hW : s.WarmedH U.vm) (h : ZwO s) : ZwO U := by
  intro w hw
  have h1 := h w hw
  have h2 := mem_all zwL_dc hw
  unfold isDC at h2
  split at h2
  · exact va_Nw.warmD hW h1
  · exact va_tabs rfl (rfl : (s.setVm U.vm).vm = U.vm) (by rw [Cond.castable_setVm hW.alike]; exact h1)
  · cases h2
/-- what throws find: the words, the statics, the texts -/
def ZtO (B : Nat) (sx : Nat → Nat) (U : State) : Prop := ZwO U ∧ vx_Zq Bundle.tN "UNASSIGNED_STACK" Bundle.steD (fun q => B ≤ q) U U.heap ∧ vx_Zq Bundle.tN "SUPPRESSED_SENTINEL" Bundle.listD (fun q => B ≤ q) U U.heap ∧ vk_R "ChaseHall" 266 "no such hall" (sx 0) U ∧ vk_R "ChaseHall" 259 "no such table" (sx 1) U
theorem thr_all : (List.range 275).all (fun y => (lcAll[y]?.getD []).all (fun q => match q.2.1 with
  | .athrow => (y == 23 && q.1 == 9 && q.2.2.1 == 1) || (y == 173 && q.1 == 14 && q.2.2.1 == 2)
  | _ => true)) = true := by decide +kernel
theorem lcAll_len : lcAll.length = 275 := by decide +kernel
theorem thr_at {y pc k nx : Nat} (h : cd y pc = some (.athrow, k, nx)) : (y = 23 ∧ pc = 9 ∧ k = 1) ∨ (y = 173 ∧ pc = 14 ∧ k = 2) := by
  unfold cd at h
  cases hl : lcAll[y]? with
  | none => rw [hl] at h; simp [lkp] at h
  | some l =>
    have hy : y < 275 := by rw [← lcAll_len]; exact (List.getElem?_eq_some_iff.mp hl).1
    have h1 := mem_all thr_all (List.mem_range.mpr hy)
    rw [hl] at h h1
    have h2 := mem_all h1 (lkp_mem h)
    simpa [and_assoc] using h2
theorem W.imp {p : Program} {l : Launch} {e : Env} {R : Room} {s : State} {m : MethodId} {args : Array Value} {below : List Frame} {meth : Method} {c : Code} {H : Heap} {locs : List Loc} {cells slots : Nat} {Q Q2 : State → Prop} {g : JFrame} (h : ∀ t, Q t → Q2 t) (k : W p l e R s m args below meth c H locs cells slots Q g) : W p l e R s m args below meth c H locs cells slots Q2 g := by
  intro T hT X
  obtain ⟨t, a, b⟩ := k T hT X
  exact ⟨t, a, h t b⟩
section Thr
variable {p : Program} {l : Launch} {e : Env} {R : Room} {s : State} {m : MethodId} {args : Array Value} {below : List Frame} {meth : Method} {c : Code} {H : Heap} {locs : List Loc} {cells slots : Nat} {D : va_G} {B : Nat} {sa : Nat → Nat} {ca : Nat → ClassId} {sc : Scr} {Z : State → Prop} {y : Nat} {ls : Array Slot} {hs hs2 : HS}
def XcO (D : va_G) (B : Nat) (sa : Nat → Nat) (ca : Nat → ClassId) (hs2 : HS) (k : Nat) : String → State → State → Prop := fun E st t => E = exN k ∧ va_P D mCl (wsO B sa ca hs2) t.heap ∧ va_F (fun q => B ≤ q) st t
theorem xMQ_of {k mc ms : Nat} {t : State} (h : vx_MQ below (fun _ _ _ _ => False) (XcO D B sa ca hs2 k) args s mc ms (fun q => B ≤ q) t) : xMQ D B sa ca hs2 k mc ms below args s t := by
  obtain ⟨o, h1, h2, h3⟩ := h
  refine ⟨o, h1, h2, ?_⟩
  rcases h3 with ⟨h3, -⟩ | ⟨q, rfl, E, ce, L, ⟨rfl, x1, x2⟩, x3, x4, x5, x6, x7, x8⟩
  · exact h3.elim
  · exact ⟨q, ce, L, rfl, x3, x4, x5, x1, x2, x6, x7, x8⟩
theorem rel_grow (hr : Rel D B sa ca s H locs cells hs) (he : hs2.1 = hs.1) (hn : hs2.2.1 = hs.2.1) {t : State} (h1 : H.size ≤ t.heap.size) (h2 : ∀ q : Nat, q < H.size → t.heap[q]? = H[q]?) : va_P D mCl (wsO B sa ca hs2) t.heap ∧ va_F (fun q => B ≤ q) s t := by
  constructor
  · have e1 : wsO B sa ca hs2 = wsO B sa ca hs := by unfold wsO; rw [he, hn]
    rw [e1]
    exact hr.1.kept (fun k x hx => h2 x.1 (hr.1 k x hx).lt)
  · exact ⟨Nat.le_trans hr.2.1.1 h1, fun q q1 q2 => by rw [h2 q (Nat.lt_of_lt_of_le q1 hr.2.1.1)]; exact hr.2.1.2.1 q q1 q2⟩
/-- the throw of hallAt -/
theorem sd_throw1 (X : Cx p s m args meth c D B sa ca sc Z 23) {sx : Nat → Nat} (hZ : ZtO B sx s) (hl : l.stackTraces = false) (hlocks : meth.locks = false) (hno : c.exceptionTable.isEmpty = true) (hr : Rel D B sa ca s H locs cells hs) (he : hs2.1 = hs.1) (hn : hs2.2.1 = hs.2.1) (hls : ls.size = mMaxL.getD 23 0) {st : List V} (hst : catS st ≤ 8) (hR : 8 ≤ R.frames ∧ 512 ≤ R.locals) {mc ms : Nat} (hRc : cells + 1 ≤ R.cells) (hRs : slots + 6 ≤ R.slots) (hc : cells + 1 ≤ mc) (hsl : slots + 6 ≤ ms) :
    W p l e R s m args below meth c H locs cells slots (xMQ D B sa ca hs2 1 mc ms below args s) (F0 m 9 ls (st.map (mv B sa))) := by
  obtain ⟨z1, z2, z3, z4, z5⟩ := hZ
  refine W.imp (fun t => xMQ_of) (vx_throwSW (own := "ChaseHall") (cls := exN 1) (names := ["java/lang/RuntimeException", "java/lang/Exception"]) (ik := 264) (is := 266) (ic := 268) X.1 X.2.1 hl X.2.2.2.1 (by decide +kernel) (by decide +kernel)
    (X.2.2.2.2.1 _ (tb_mem (by decide +kernel) rfl)) (X.2.2.2.2.1 _ (tb_mem (by decide +kernel) rfl)) z4 (fun w hw => ?_) ?_ z2 z3 hr.2.1 (hls.trans X.2.2.1.symm) (by decide +kernel) (by decide +kernel) (by decide +kernel) (by decide +kernel) (by decide +kernel) ?_ (by show 2 + 3 < R.frames; omega) ?_ hRc hRs hlocks (fun t _ h1 h2 => ⟨rfl, rel_grow hr he hn h1 h2⟩) hr.2.1.2.2 hc hsl)
  · have h1 := mem_all atsX_in (show w ∈ atsX 1 from hw)
    simp only [Bool.and_eq_true, Bool.or_eq_true, decide_eq_true_eq] at h1
    obtain ⟨⟨h2, h3⟩, -⟩ := h1
    rcases h3 with h3 | h3
    · exact X.2.2.2.2.1 _ (List.mem_filter.mpr ⟨h2, h3⟩)
    · have h4 := z1 w h3
      have h5 := mem_all zwL_dc h3
      unfold isDC at h5
      split at h5
      · exact va_Nw.use rfl h4
      · exact va_Nw.use rfl h4
      · cases h5
  · intro w hw
    rcases List.mem_cons.mp hw with rfl | hw
    · rfl
    · rcases List.mem_cons.mp hw with rfl | hw
      · rfl
      · have h1 := mem_all atsX_in (show w ∈ atsX 1 from hw)
        simp only [Bool.and_eq_true] at h1
        exact h1.2
  · intro x9 hx9
    have : c.exceptionTable.toList = [] := by simpa using hno
    rw [this] at hx9
    cases hx9
  · rw [cat_map]
    show catS st + (13 * (2 + 1) + 43) ≤ R.locals
    omega
/-- a throw that goes on to the caller -/
theorem sd_out (hlocks : meth.locks = false) (hno : c.exceptionTable.isEmpty = true) (hr : Rel D B sa ca s H locs cells hs2) {k : Nat} {q : Addr} {ce : Cell} (h1 : H[q]? = some ce) (h2 : ce.vm = .none) (h3 : s.vm.findClass (exN k) = some ce.cls) {pc : Nat} {st : List Value} :
    xW p l e R s m args below meth c H locs cells slots (xMQ D B sa ca hs2 k cells slots below args s) (F0 m pc ls st) q := by
  intro T hT X
  have hemp : c.exceptionTable.toList = [] := by simpa using hno
  obtain ⟨st1, hrun, hend, hW, hsm⟩ := X.leaveThrown q (g := F0 m pc ls st) rfl rfl rfl (by rw [hemp]; intro x hx; cases hx) hlocks
  refine ⟨_, st1, .threw q, hrun, hend, q, ce, locs, rfl, ?_, h2, h3, ?_, ?_, hW, hsm, hr.2.1.2.2⟩
  · show T.heap[q]? = some ce
    rw [hT]; exact h1
  · show va_P D mCl (wsO B sa ca hs2) T.heap
    rw [hT]; exact hr.1
  · show va_F (fun q => B ≤ q) s T
    exact rel_F hr hT
end Thr
