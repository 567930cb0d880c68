/-! the law's methods catch what their callees throw -/
def hndOk (h : Nat × Nat × Nat × Nat × Nat × Nat × Nat) : Bool :=
  (mOwn.getD h.1 99 == 13) && Nat.blt h.2.2.2.2.1 (mMaxL.getD h.1 0) &&
  (match cd h.1 h.2.2.2.2.2.2 with
    | some (.astore j, _, nx) => j == h.2.2.2.2.1 && nx == h.2.2.2.2.2.1
    | _ => false) &&
  (match h.2.2.2.1 with
    | 1 => (match mHh h.1 with
      | q :: _ => q.1 == h.2.1 && q.2.1 == h.2.2.1 && q.2.2.1 == h.2.2.2.2.2.2 && q.2.2.2 == 13
      | [] => false)
    | 2 => (match mHh h.1 with
      | [q, r] => q.1 == h.2.1 && q.2.1 == h.2.2.1 && q.2.2.2 == 13 && r.1 == h.2.1 && r.2.1 == h.2.2.1 && r.2.2.1 == h.2.2.2.2.2.2 && r.2.2.2 == 73
      | _ => false)
    | _ => false)
theorem mHnd_ok : mHnd.all hndOk = true := by decide +kernel
theorem hnd_spec {y pc k j pc2 : Nat} (h : hnd y pc k = some (j, pc2)) : ∃ (a b hpc : Nat), a ≤ pc ∧ pc < b ∧ hndOk (y, a, b, k, j, pc2, hpc) = true := by
  unfold hnd at h
  cases hf : mHnd.find? (fun h => h.1 == y && (Nat.ble h.2.1 pc && (Nat.blt pc h.2.2.1 && h.2.2.2.1 == k))) with
  | none => rw [hf] at h; cases h
  | some z =>
    rw [hf] at h
    obtain ⟨z1, a, b, z4, z5, z6, hpc⟩ := z
    have h1 := List.find?_some hf
    have h2 := mem_all mHnd_ok (List.mem_of_find?_eq_some hf)
    simp only [Bool.and_eq_true, beq_iff_eq, Nat.ble_eq, Nat.blt_eq] at h1
    obtain ⟨rfl, h3, h4, rfl⟩ := h1
    simp only [Option.map_some, Option.some.injEq, Prod.mk.injEq] at h
    obtain ⟨rfl, rfl⟩ := h
    exact ⟨a, b, hpc, h3, h4, h2⟩
theorem lawC_ok : Cond.classLink "ChaseHallLaw" 13 (exN 1) ∈ mTbl ∧ Cond.classLink "ChaseHallLaw" 73 (exN 2) ∈ mTbl := ⟨tb_mem (by decide +kernel) rfl, tb_mem (by decide +kernel) rfl⟩
theorem lrel_none {B : Nat} {sa : Nat → Nat} {ls ls2 : Array Slot} {n : Nat} {lv : LV} {L : List (Nat × Value)} (h : lrel B sa ls n lv) (h2 : lv_has ls2 n L) : lrel B sa ls2 n (lv.map (fun _ => none)) := by
  refine ⟨h2.1, h2.2.1, by rw [List.length_map]; exact h.2.2.1, fun i v q => ?_⟩
  rw [List.getElem?_map] at q
  cases hq : lv[i]? with
  | none => rw [hq] at q; cases q
  | some o => rw [hq] at q; cases q
section Cc
variable {l : Launch} {D : va_G} {B : Nat} {sa : Nat → Nat} {ca : Nat → ClassId} {sc : Scr} {Z : State → Prop}
theorem cc_law (hZw : ∀ U, Z U → ZwO U) (hZn : ∀ U, Z U → va_Nc (exN 2) (exN 1) U) : CcLaw l D B sa ca sc Z := by
  intro p e R s m args below meth c Q y pc k j pc2 lv H locs cells slots ls st2 q ce X hh hl hce hcv hcl kk
  obtain ⟨a, b, hpc, ha, hb, hok⟩ := hnd_spec hh
  unfold hndOk at hok
  simp only [Bool.and_eq_true, beq_iff_eq, Nat.blt_eq] at hok
  obtain ⟨⟨⟨hown9, hj⟩, hcd⟩, htab⟩ := hok
  have hown : s.vm.findClass "ChaseHallLaw" = some m.cls := by
    have h1 := X.2.2.2.1
    rw [hown9] at h1
    exact h1
  have hT9 := X.2.2.2.2.2.2.2.1.2
  -- behind the handler's store
  have hW : W p l e R s m args below meth c H locs cells slots Q (F0 m hpc ls [.ref q]) := by
    split at hcd
    · rename_i j9 x9 nx9 hcd9
      simp only [Bool.and_eq_true, beq_iff_eq] at hcd
      obtain ⟨rfl, rfl⟩ := hcd
      obtain ⟨r, n, hd, ho⟩ := dec_of hcd9
      simp only [okR, Bool.and_eq_true, beq_iff_eq] at ho
      obtain ⟨e1, ho⟩ := ho
      subst e1
      split at ho
      · simp only [Bool.and_eq_true, beq_iff_eq] at ho
        obtain ⟨rfl, rfl⟩ := ho
        exact lv_astore X.1 X.2.1 hd hl.has hj rfl (fun ls2 h2 => kk ls2 (lrel_none hl h2))
      · simp only [Bool.and_eq_true, beq_iff_eq] at ho
        obtain ⟨h1, rfl⟩ := ho
        exact lv_astore_n X.1 X.2.1 hd h1 hl.has hj rfl (fun ls2 h2 => kk ls2 (lrel_none hl h2))
      · cases ho
    · cases hcd
  intro T hT XT
  have hpl : e.platform.magicAccessors = ({} : Platform).magicAccessors := by rw [XT.admits.platform]
  have hcell : T.heap[q]? = some ce := by rw [hT]; exact hce
  have hobj : ∀ z, ce.vm ≠ .statics z := fun z hz => by rw [hcv] at hz; cases hz
  obtain ⟨k0, hk0, -⟩ := Vm.findClass_spec hcl
  have hcast : ∀ i, i = 1 ∨ i = 2 → va_Nw (.castable (exN i) (exN i)) s := fun i hi => by
    have hz := hZw s X.2.2.2.2.2.2.2.2.2.2
    rcases hi with rfl | rfl
    · exact hz _ (by decide +kernel)
    · exact hz _ (by decide +kernel)
  -- one row at a state like this one
  have hrow : ∀ (S : State) (ct : Nat) (i : Nat), s.WarmedH S.vm → (Cond.classLink "ChaseHallLaw" ct (exN i)).before args s = true → ∃ kc : ClassId, s.vm.findClass (exN i) = some kc ∧ S.vm.ClassLinks e.platform m.cls ct kc ∧ (∃ z, S.vm.classes[kc]? = some z) ∧ (∃ z, S.vm.classes[ce.cls]? = some z) ∧ s.WarmedH (S.vm.noted m.cls ct (.cls kc)) := by
    intro S ct i hS hlk
    obtain ⟨kc, hkc, hlinks⟩ := Cond.classLink_spec hown hlk e.platform hpl
    obtain ⟨dk, _, _, kt, hd, _, _, _, _, hkt, _, hopen⟩ := hlinks.here
    obtain ⟨kt2, hkt2, -⟩ := hS.alike.2.2 _ _ hkt
    obtain ⟨k02, hk02, -⟩ := hS.alike.2.2 _ _ hk0
    exact ⟨kc, hkc, hS.classLinks hlinks, ⟨kt2, hkt2⟩, ⟨k02, hk02⟩, hS.noted hd hopen (State.rightAt_cls hlinks)⟩
  have hfind : ∃ vm2, s.WarmedH vm2 ∧ FdT e ((T.setTop (F0 m pc ls st2)).pushFrame (.throwing q)) (F0 m pc ls st2) q (.found hpc) vm2 := by
    have hvm : ((T.setTop (F0 m pc ls st2)).pushFrame (.throwing q)).vm = T.vm := Stand.throwing_vm _ _ _
    have hhp : ((T.setTop (F0 m pc ls st2)).pushFrame (.throwing q)).heap = T.heap := Stand.throwing_heap _ _ _
    generalize (T.setTop (F0 m pc ls st2)).pushFrame (.throwing q) = S at hvm hhp
    have hWS : s.WarmedH S.vm := by rw [hvm]; exact XT.warmed
    have hmS : S.vm.method? m = some meth := by rw [hvm]; exact XT.method'
    have hcS : S.heap[q]? = some ce := by rw [hhp]; exact hcell
    split at htab
    · split at htab
      · rename_i z t hz
        simp only [Bool.and_eq_true, beq_iff_eq] at htab
        obtain ⟨⟨⟨t1, t2⟩, t3⟩, t4⟩ := htab
        obtain ⟨kc, hkc, hlinks, hz1, hz2, hW2⟩ := hrow S 13 1 hWS (X.2.2.2.2.1 _ lawC_ok.1)
        have e9 : kc = ce.cls := Option.some.inj (hkc.symm.trans hcl)
        obtain ⟨c3, c4, hc3, hc4, hasg⟩ := Cond.castable_spec (hcast 1 (Or.inl rfl))
        have hfit : S.vm.assignable ce.cls kc = true := by
          rw [hWS.alike.assignable, e9]
          have e3 : c3 = ce.cls := Option.some.inj (hc3.symm.trans hcl)
          have e4 : c4 = ce.cls := Option.some.inj (hc4.symm.trans hcl)
          rw [e3, e4] at hasg
          exact hasg
        refine ⟨_, hW2, fun Q9 E9 d9 acts9 => ?_⟩
        rw [Jvm.W.findHandler_eq hmS XT.code, hT9, hz]
        have h5 := fd_one (Q := Q9) (E := E9) (e := e) (d := d9) (acts := acts9) (s := S) (f := F0 m pc ls st2) (a := q) (x := ⟨z.1, z.2.1, z.2.2.1, z.2.2.2⟩) (t := tableOf t) (k := kc) (cell := ce) (b := true)
          (by simp only [covers]; rw [t1, t2]; simp; omega) (by show z.2.2.2 ≠ 0; omega) (by show S.vm.ClassLinks e.platform m.cls z.2.2.2 kc; rw [t4]; exact hlinks) hcS hobj hz2 hz1 hfit
        rw [if_pos rfl] at h5
        refine h5.trans ?_
        show Q9 (.found z.2.2.1) d9 acts9 (S.setVm (S.vm.noted m.cls z.2.2.2 (.cls kc))) ↔ _
        rw [t3, t4]
      · cases htab
    · split at htab
      · rename_i z r hz
        simp only [Bool.and_eq_true, beq_iff_eq] at htab
        obtain ⟨⟨⟨⟨⟨⟨t1, t2⟩, t3⟩, t4⟩, t5⟩, t6⟩, t7⟩ := htab
        obtain ⟨kc, hkc, hlinks, hz1, hz2, hW2⟩ := hrow S 13 1 hWS (X.2.2.2.2.1 _ lawC_ok.1)
        obtain ⟨n1, n2, hn1, hn2, hno⟩ := hZn s X.2.2.2.2.2.2.2.2.2.2
        have hfit : S.vm.assignable ce.cls kc = false := by
          rw [hWS.alike.assignable]
          have e3 : n1 = ce.cls := Option.some.inj (hn1.symm.trans hcl)
          have e4 : n2 = kc := Option.some.inj (hn2.symm.trans hkc)
          rw [e3, e4] at hno
          exact hno
        obtain ⟨kd, hkd, hlinks2, hy1, hy2, hW3⟩ := hrow (S.setVm (S.vm.noted m.cls 13 (.cls kc))) 73 2 hW2 (X.2.2.2.2.1 _ lawC_ok.2)
        have e9 : kd = ce.cls := Option.some.inj (hkd.symm.trans hcl)
        obtain ⟨c3, c4, hc3, hc4, hasg⟩ := Cond.castable_spec (hcast 2 (Or.inr rfl))
        have hfit2 : (S.setVm (S.vm.noted m.cls 13 (.cls kc))).vm.assignable ce.cls kd = true := by
          show (S.vm.noted m.cls 13 (Resolved.cls kc)).assignable ce.cls kd = true
          rw [hW2.alike.assignable, e9]
          have e3 : c3 = ce.cls := Option.some.inj (hc3.symm.trans hcl)
          have e4 : c4 = ce.cls := Option.some.inj (hc4.symm.trans hcl)
          rw [e3, e4] at hasg
          exact hasg
        refine ⟨_, hW3, fun Q9 E9 d9 acts9 => ?_⟩
        rw [Jvm.W.findHandler_eq hmS XT.code, hT9, hz]
        have h5 := fd_one (Q := Q9) (E := E9) (e := e) (d := d9) (acts := acts9) (s := S) (f := F0 m pc ls st2) (a := q) (x := ⟨z.1, z.2.1, z.2.2.1, z.2.2.2⟩) (t := tableOf [r]) (k := kc) (cell := ce) (b := false)
          (by simp only [covers]; rw [t1, t2]; simp; omega) (by show z.2.2.2 ≠ 0; omega) (by show S.vm.ClassLinks e.platform m.cls z.2.2.2 kc; rw [t3]; exact hlinks) hcS hobj hz2 hz1 hfit
        rw [if_neg (by decide)] at h5
        refine h5.trans ?_
        show wp (findHandler.go (F0 m pc ls st2) q (tableOf [r])) Q9 E9 e d9 acts9 (S.setVm (S.vm.noted m.cls z.2.2.2 (.cls kc))) ↔ _
        rw [t3]
        have h6 := fd_one (Q := Q9) (E := E9) (e := e) (d := d9) (acts := acts9) (s := S.setVm (S.vm.noted m.cls 13 (.cls kc))) (f := F0 m pc ls st2) (a := q) (x := ⟨r.1, r.2.1, r.2.2.1, r.2.2.2⟩) (t := []) (k := kd) (cell := ce) (b := true)
          (by simp only [covers]; rw [t4, t5]; simp; omega) (by show r.2.2.2 ≠ 0; omega) (by show (S.setVm (S.vm.noted m.cls 13 (.cls kc))).vm.ClassLinks e.platform m.cls r.2.2.2 kd; rw [t7]; exact hlinks2) hcS hobj hy2 hy1 hfit2
        rw [if_pos rfl] at h6
        refine h6.trans ?_
        show Q9 (.found r.2.2.1) d9 acts9 (((S.setVm (S.vm.noted m.cls 13 (.cls kc)))).setVm ((S.setVm (S.vm.noted m.cls 13 (.cls kc))).vm.noted m.cls r.2.2.2 (.cls kd))) ↔ _
        rw [t6, t7]
        rfl
      · cases htab
    · cases htab
  obtain ⟨vm2, hW2, hfd⟩ := hfind
  obtain ⟨t, h1, h2⟩ := hW (T.setVm vm2) hT (XT.noted hW2)
  exact ⟨t, fd_go (g := F0 m pc ls st2) XT.here hfd h1, h2⟩
end Cc
