/-! a throw that is caught: the search in a method's table, cold links and all -/
section Fd
/-- what the search gives, and the tables that it leaves -/
def FdT (e : Env) (s : State) (f : JFrame) (a : Addr) (h : Handler) (vm2 : Vm) : Prop :=
  ∀ (Q : Handler → Pre) (E : CtlPost) (d : Bool) (acts : List Action), wp (findHandler f a) Q E e d acts s ↔ Q h d acts (s.setVm vm2)
variable {Q : Handler → Pre} {E : CtlPost} {e : Env} {d : Bool} {acts : List Action} {s : State} {f : JFrame} {a : Addr}
theorem fd_one {x : ExceptionTableEntry} {t : List ExceptionTableEntry} {k : ClassId} {cell : Cell} {b : Bool} (hx : covers x f.pc = true) (h0 : x.catchType ≠ 0)
    (hl : s.vm.ClassLinks e.platform f.method.cls x.catchType k) (hcell : s.heap[a]? = some cell) (hobj : ∀ z, cell.vm ≠ .statics z)
    (hk : ∃ z, s.vm.classes[cell.cls]? = some z) (hc : ∃ z, s.vm.classes[k]? = some z) (hfit : s.vm.assignable cell.cls k = b) :
    wp (findHandler.go f a (x :: t)) Q E e d acts s ↔ (if b = true then Q (.found x.handlerPc) d acts (s.setVm (s.vm.noted f.method.cls x.catchType (.cls k))) else wp (findHandler.go f a t) Q E e d acts (s.setVm (s.vm.noted f.method.cls x.catchType (.cls k)))) := by
  simp only [covers] at hx
  obtain ⟨ha, ht⟩ := (resolveClass_links e.toSetting hl).op (op := VmOp.resolveClass f.method.cls x.catchType) rfl
  have hal : s.vm.Alike (s.vm.noted f.method.cls x.catchType (.cls k)) := (Vm.Alike.refl s.vm).noted _ _ _
  obtain ⟨z1, hz1⟩ := hk
  obtain ⟨z2, hz2⟩ := hc
  obtain ⟨z3, hz3, -⟩ := hal.2.2 _ _ hz1
  obtain ⟨z4, hz4, -⟩ := hal.2.2 _ _ hz2
  have hfit2 : (s.vm.noted f.method.cls x.catchType (.cls k)).assignable cell.cls k = b := by rw [hal.assignable]; exact hfit
  cases b <;> simp [findHandler.go, hx, h0, ha, ht, hcell, hobj, hz3, hz4, hfit2, VmOp.dirties, VmOp.acts]
theorem fd_step {r : List Frame} {pc : Nat} {vm2 : Vm} (hf : FdT e s f a (.found pc) vm2) : (stepThrowing e s a (.java f :: r)).Is ((s.setVm vm2).setFrames (.java { f with pc := pc, stack := [.ref a] } :: r)) [] := by
  simp only [stepThrowing, searchFrame, vmDo]
  generalize hr : Sem.go _ e false [] s = res
  obtain ⟨as, rfl, ha⟩ := Sem.eq_ok_of hr (a := Handler.found pc) (s' := s.setVm vm2) (acts' := []) (by simp [hf _ _ _ _])
  exact ⟨rfl, ha⟩
theorem fd_go {tb : Tables} {target : State} {g : JFrame} {c : Code} {below : List Frame} (h : At s g.method c below) {pc : Nat} {vm2 : Vm}
    (hf : FdT e ((s.setTop g).pushFrame (.throwing a)) g a (.found pc) vm2) (hr : Steps tb e below ((s.setVm vm2).setTop { g with pc := pc, stack := [.ref a] }) target) : Steps tb e below ((s.setTop g).pushFrame (.throwing a)) target := by
  have sf : ∀ (u : State) (v : Vm) (F G : List Frame), ((u.setFrames F).setVm v).setFrames G = (u.setVm v).setFrames G := fun u v F G => by
    rw [show (u.setFrames F).setVm v = (u.setVm v).setFrames F from rfl, State.setFrames_setFrames]
  obtain ⟨hgo, hw⟩ := h.throwing a
  refine Steps.head hgo hw ?_
  rw [stepThread_throwing (frames_entered h.top _), (fd_step (s := (s.setTop g).pushFrame (.throwing a)) hf).1]
  obtain ⟨g9, hg9⟩ := Option.isSome_iff_exists.mp h.top
  obtain ⟨r9, hr9⟩ := State.topJava?_eq_some.mp hg9
  have hr8 : (s.setVm vm2).frames = .java g9 :: r9 := hr9
  rw [State.setTop_of_frames _ hr8] at hr
  rw [hr9, List.tail_cons, State.pushFrame, sf, State.setTop_of_frames _ hr9, sf]
  exact hr
end Fd
