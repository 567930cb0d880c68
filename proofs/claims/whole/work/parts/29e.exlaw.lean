/-! every throw of the class leaves its method -/
section Ex2
variable {p : Program} {l : Launch} {e : Env} {R : Room} {s : State} {m : MethodId} {args : Array Value} {below : List Frame} {meth : Method} {c : Code} {H : Heap} {locs : List Loc} {cells slots : Nat} {D : va_G} {B : Nat} {sa : Nat → Nat} {ca : Nat → ClassId} {sc : Scr} {Z : State → Prop} {y : Nat} {ls : Array Slot} {hs hs2 : HS}
theorem sd_throw2 (X : Cx p s m args meth c D B sa ca sc Z 173) {sx : Nat → Nat} (hZ : ZtO B sx s) (hl : l.stackTraces = false) (hlocks : meth.locks = false) (hno : c.exceptionTable.isEmpty = true) (hr : Rel D B sa ca s H locs cells hs) (he : hs2.1 = hs.1) (hn : hs2.2.1 = hs.2.1) (hls : ls.size = mMaxL.getD 173 0) {st : List V} (hst : catS st ≤ 8) (hR : 8 ≤ R.frames ∧ 512 ≤ R.locals) {mc ms : Nat} (hRc : cells + 1 ≤ R.cells) (hRs : slots + 6 ≤ R.slots) (hc : cells + 1 ≤ mc) (hsl : slots + 6 ≤ ms) :
    W p l e R s m args below meth c H locs cells slots (xMQ D B sa ca hs2 2 mc ms below args s) (F0 m 14 ls (st.map (mv B sa))) := by
  obtain ⟨z1, z2, z3, z4, z5⟩ := hZ
  have hexec := X.1
  have hb := X.2.1
  have hown : s.vm.findClass "ChaseHall" = some m.cls := X.2.2.2.1
  have hS := hr.2.1
  have hemp : c.exceptionTable.toList = [] := by simpa using hno
  have hat : ∀ w ∈ nsA.filter vx_no, w.before args s = true := fun w hw => by
    have h1 := mem_all nsA_in hw
    simp only [Bool.and_eq_true, Bool.or_eq_true, decide_eq_true_eq] at h1
    obtain ⟨⟨h2, h3⟩, -⟩ := h1
    rcases h3 with h3 | h3
    · exact X.2.2.2.2.1 _ (List.mem_filter.mpr ⟨h2, h3⟩)
    · have h4 := z1 w h3
      have h5 := mem_all zwL_dc h3
      unfold isDC at h5
      split at h5
      · exact va_Nw.use rfl h4
      · exact va_Nw.use rfl h4
      · cases h5
  have hk : (Cond.classLink "ChaseHall" 257 nsC).before args s = true := X.2.2.2.2.1 _ (tb_mem (by decide +kernel) rfl)
  have hini : (Cond.initialized nsC).before args s = true := X.2.2.2.2.1 _ (tb_mem (by decide +kernel) rfl)
  intro T hT XT
  have htr : e.platform.stackTraces = false := (show e.platform.stackTraces = l.stackTraces by rw [XT.admits.platform]).trans hl
  have Y := vx_rebase XT (R' := { frames := R.frames, locals := R.locals, cells := 1, slots := 6 }) (Nat.le_refl _) (Nat.le_refl _) hRc hRs
  obtain ⟨s9, hA⟩ : ∃ z, z = (T.setVm s.vm).setFrames (.invoking m args :: below) := ⟨_, rfl⟩
  rw [← hA] at Y
  have hvm : s9.vm = s.vm := by rw [hA]; rfl
  have hhp : s9.heap = H := by rw [hA]; exact hT
  have hW0 : s.WarmedH s9.vm := by rw [hvm]; exact State.WarmedH.refl s
  have hot : ∀ w ∈ nsA.filter vx_no, vx_ot w = true := fun w hw => by
    have h1 := mem_all nsA_in hw
    simp only [Bool.and_eq_true] at h1
    exact h1.2
  have hat9 : ∀ w ∈ nsA.filter vx_no, w.before args s9 = true := fun w hw => vx_ot_at hW0 hvm.symm (hot w hw) (hat w hw)
  have hk9 : (Cond.classLink "ChaseHall" 257 nsC).before args s9 = true := vx_ot_at hW0 hvm.symm rfl hk
  have hini9 : (Cond.initialized nsC).before args s9 = true := vx_ot_at hW0 hvm.symm rfl hini
  have hU9 : vx_Zq Bundle.tN "UNASSIGNED_STACK" Bundle.steD (fun q => B ≤ q) s9 s9.heap := by rw [hhp]; exact vx_Zq.moved hW0.alike (z2.kept hS.2.1)
  have hN9 : vx_Zq Bundle.tN "SUPPRESSED_SENTINEL" Bundle.listD (fun q => B ≤ q) s9 s9.heap := by rw [hhp]; exact vx_Zq.moved hW0.alike (z3.kept hS.2.1)
  have h : ∀ w ∈ nsA, w.before args s9 = true := vx_own hat9 (vx_isRefq hU9.1) (vx_isRefq hN9.1) hU9.2.word hN9.2.word
  have hown9 : s9.vm.findClass "ChaseHall" = some m.cls := by rw [hvm]; exact hown
  have hins : (Cond.instantiable nsC 6).before args s9 = true := h _ (by simp [nsA])
  have d0 : decode c.code 14 = .ok (.new 257, 3) := by rw [hb]; decide +kernel
  have d3 : decode c.code 17 = .ok (.dup, 1) := by rw [hb]; decide +kernel
  have d4 : decode c.code 18 = .ok (.ldc_w 259, 3) := by rw [hb]; decide +kernel
  have d7 : decode c.code 21 = .ok (.invokespecial 261, 3) := by rw [hb]; decide +kernel
  have d10 : decode c.code 24 = .ok (.athrow, 1) := by rw [hb]; decide +kernel
  obtain ⟨vm1, cX, kX, hfX, hkX, -, -, X1, st1⟩ := Y.newCold hexec (own := "ChaseHall") (C := nsC) (index := 257) (n := 6) hown9 hk9 hins hini9 (g := F0 m 14 ls (st.map (mv B sa))) rfl d0 (Nat.le_refl _) (Nat.le_refl _)
  generalize hT1 : (T.setVm vm1).pushCell { cls := cX, slots := kX.instanceTypes.map defaultValue, vm := .none } = T1 at X1 st1
  have hcat : (Value.ref T.heap.size).category = 1 := rfl
  have hcellA : T1.heap[T.heap.size]? = some (freshCell cX kX) := by rw [← hT1]; exact State.heap_pushCell_size _ _
  have hstr9 : vk_R "ChaseHall" 259 "no such table" (sx 1) s9 := vk_R.warm hW0 z5
  obtain ⟨U, hsteps, hrun, hend, hW, hsame, ce, hce, hcv, hcl⟩ := ns_ctor X1 hexec htr hown9 h (fun x hx => nomatch hx) hfX hkX hcellA (by rw [hhp, hT]; exact Nat.le_refl _) (msg := .ref (sx 1)) rfl
    (g := { method := m, pc := 21, locals := ls, stack := .ref (sx 1) :: .ref T.heap.size :: .ref T.heap.size :: st.map (mv B sa), locked := none }) rfl (hls.trans X.2.2.1.symm) rfl rfl (rest := st.map (mv B sa)) rfl
    d7 d10 (by rw [hemp]; intro x hx; cases hx) (by show 5 < R.frames; omega) (by simp only [List.map_cons, List.sum_cons, hcat]; rw [cat_map]; show 2 * 0 + (1 + catS st) + (13 * 3 + 42) ≤ R.locals; omega) hlocks
  obtain ⟨f1, f2⟩ := vx_frame hsame
  rw [hhp] at f1 f2
  have hWs : s.WarmedH U.vm := State.WarmedH.trans hW0 hW
  have hcl9 : s.vm.findClass (exN 2) = some ce.cls := by rw [hvm] at hcl; exact hcl
  have hall : s.sameButNew ({ U with vm := s.vm } : State) locs mc ms := by
    subst hA
    obtain ⟨e1, e2⟩ := hsame
    rw [State.setFrames_setFrames] at e1
    have h2 : (T.setVm s.vm).sameButNew ({ U with vm := s.vm } : State) [] (0 + 1) (0 + 6) := ⟨e1, e2⟩
    have h3 := XT.same.trans h2
    rw [List.append_nil] at h3
    exact h3.mono hc hsl
  obtain ⟨g1, g2⟩ := rel_grow hr he hn f1 (fun q hq => f2 q hq (fun z hz => nomatch hz))
  refine ⟨U, ?_, .threw T.heap.size, hrun, hend, T.heap.size, ce, locs, rfl, hce, hcv, hcl9, g1, g2, hWs, hall, hr.2.1.2.2⟩
  refine st1 _ ?_
  show Steps p.tables e below (T1.setTop { method := m, pc := 17, locals := ls, stack := .ref T.heap.size :: st.map (mv B sa), locked := none }) _
  jvm_step X1.here [X1.here.top, hexec, d3, Value.category]
  exact X1.ldcStringW hexec (own := "ChaseHall") (text := "no such table") (index := 259) (a := sx 1) hown9 hstr9.1 hstr9.2
    (g := { method := m, pc := 18, locals := ls, stack := .ref T.heap.size :: .ref T.heap.size :: st.map (mv B sa), locked := none }) rfl d4 _ hsteps
end Ex2
theorem ex_law {l : Launch} {D : va_G} {B : Nat} {sa : Nat → Nat} {ca : Nat → ClassId} {sc : Scr} {Z : State → Prop} {sx : Nat → Nat} (hl : l.stackTraces = false) (hZ : ∀ U, Z U → ZtO B sx U) : ExLaw l D B sa ca sc Z := by
  intro y d k hs hs2 hcod p e s m args below meth c X hlocks hno
  have hz := hZ s X.2.2.2.2.2.2.2.2.2.2
  refine ⟨fun v hv => (by cases hv), fun k9 hk9 => ?_⟩
  cases hk9
  refine ⟨fun H2 locs2 cells2 slots2 ls2 pc2 nx st2 hs3 hr hls hc hz2 e2 hcd hst => ?_, fun H2 locs2 cells2 slots2 ls2 pc2 st2 q ce hr hc hz2 h1 h2 h3 h4 => ?_⟩
  · subst e2
    have hR : 8 ≤ (rmO d ((hs3.2.2.2.1 + 1) - hs.2.2.2.1) ((hs3.2.2.2.2 + 6) - hs.2.2.2.2)).frames ∧ 512 ≤ (rmO d ((hs3.2.2.2.1 + 1) - hs.2.2.2.1) ((hs3.2.2.2.2 + 6) - hs.2.2.2.2)).locals := by
      unfold rmO
      dsimp only
      omega
    have b1 : cells2 + 1 ≤ (hs3.2.2.2.1 + 1) - hs.2.2.2.1 := by omega
    have b2 : slots2 + 6 ≤ (hs3.2.2.2.2 + 6) - hs.2.2.2.2 := by omega
    rcases thr_at hcd with ⟨rfl, rfl, rfl⟩ | ⟨rfl, rfl, rfl⟩
    · exact sd_throw1 X hz hl hlocks hno hr rfl rfl hls hst hR b1 b2 b1 b2
    · exact sd_throw2 X hz hl hlocks hno hr rfl rfl hls hst hR b1 b2 b1 b2
  · have e1 : cells2 = hs2.2.2.2.1 - hs.2.2.2.1 := by omega
    have e2 : slots2 = hs2.2.2.2.2 - hs.2.2.2.2 := by omega
    subst e1
    subst e2
    exact sd_out hlocks hno hr h1 h2 h3
