/-! calls of the methods that have tables of their own -/
theorem cowK : metT.all (fun q => !(q.2.2.2.1 == 1) || !(cowL.contains q.2.2.1)) = true := by decide +kernel
section Cw
variable {l : Launch} {D : va_G} {B : Nat} {sa : Nat → Nat} {ca : Nat → ClassId} {sc : Scr} {Z : State → Prop}
def wsW (y : Nat) : List Cond := cowW y :: mTbl
theorem Cx.of_bodyW {p : Program} {e : Env} {s : State} {m : MethodId} {args : Array Value} {below : List Frame} {meth : Method} {c : Code} {s₁ : State} {y d mc ms : Nat} {hs : HS} {as : List V}
    (Bd : BodyLoose p l (mName y) (headSpec (wsW y) (rmO d mc ms)) (mCode y) (mMaxL.getD y 0) (mI y).2.2.2 e s m args below meth c s₁) (hml : c.maxLocals = mMaxL.getD y 0) (hP : PcO D B sa ca sc Z hs as args s) (hy : y < 275) : Cx p s m args meth c D B sa ca sc Z y := by
  obtain ⟨h1, h2, h3, h4, h5, h6, h7, h8⟩ := hP
  have hts := atoms_spec (ws := wsW y) Bd.pre
  refine ⟨Bd.exec, Bd.bytes, hml, ?_, fun w hw => hts w (List.mem_cons_of_mem _ hw), h4, h5, ⟨(name_of_methodNamed Bd.named Bd.method).1, vx_table (x := mName y) Bd (hts _ List.mem_cons_self)⟩, h6, h7, h8⟩
  have h9 := findClass_of_methodNamed Bd.named
  rw [(mDesc_get hy).2.2.2.1] at h9
  exact h9
theorem met_ofW {n d y : Nat} {as : List V} {hs hs2 : HS} {v : Option V} (ih : SndAt l D B sa ca sc Z n) (hy : y < 275) (hn : as.length ≤ mMaxL.getD y 0) (hcat : catS as = as.length) (h : exec sc n d y 0 (lvIn y as) [] hs = some (.inl v, hs2)) :
    Met l (mName y) (wsW y) (rmO d (hs2.2.2.2.1 - hs.2.2.2.1) (hs2.2.2.2.2 - hs.2.2.2.2)) (PcO D B sa ca sc Z hs as) (QcO D B sa ca hs2 v) (hs2.2.2.2.1 - hs.2.2.2.1) (hs2.2.2.2.2 - hs.2.2.2.2) (fun q => B ≤ q) := by
  have hcnt := exec_cnt _ _ _ _ _ _ _ _ _ h
  refine va_MetW (cc := mCode y) (maxL := mMaxL.getD y 0) (ret := (mI y).2.2.2) (plain_get hy) rfl ?_
  intro p e s m args below meth c s₁ Bd hml hP
  have X := Cx.of_bodyW Bd hml hP hy
  have hargs := hP.1
  subst hargs
  rw [lg_entry_eq]
  refine ih d y 0 (lvIn y as) [] hs (.inl v) hs2 h p e _ s m _ below meth c _ X ⟨Nat.le_refl _, Nat.le_refl _⟩ s.heap [] 0 0 _ hs.2.2.2.1 hs.2.2.2.2 (rel_start hP) (lrel_in (catS_all hcat) hn) rfl rfl ?_ ?_ ?_
  · show hs2.2.2.2.1 ≤ hs.2.2.2.1 + (hs2.2.2.2.1 - hs.2.2.2.1)
    omega
  · show hs2.2.2.2.2 ≤ hs.2.2.2.2 + (hs2.2.2.2.2 - hs.2.2.2.2)
    omega
  · refine ⟨fun v2 hv2 H2 locs2 cells2 slots2 ls2 pc2 x nx i st2 hr2 hc2 hs2' hcd hi => ?_, fun k hk => by cases hk⟩
    cases hv2
    obtain ⟨v3, hv3, hW⟩ := sd_ret (l := l) (e := e) (R := (headSpec (wsW y) (rmO d (hs2.2.2.2.1 - hs.2.2.2.1) (hs2.2.2.2.2 - hs.2.2.2.2))).room) (below := below) (ls := ls2) (slots := slots2) X Bd.notSynchronized Bd.returns hr2 hcd hi
    cases hv3
    have e1 : cells2 = hs2.2.2.2.1 - hs.2.2.2.1 := by omega
    have e2 : slots2 = hs2.2.2.2.2 - hs.2.2.2.2 := by omega
    subst e1
    subst e2
    exact hW
theorem cw_law (hZ : ZOk B Z) (hN : ∀ U, Z U → NstO U) : CwLaw l D B sa ca sc Z := by
  intro n ih p e R s m args below meth c Q y pc lv st hs hs3 y2 nx d as r9 v H locs cells slots ls c0 s0 X h3 hcod hn9 hcat h4 hd hR hr hl hc hz hRc hRs kk
  have a1 := exec_cnt _ _ _ _ _ _ _ _ _ h4
  obtain ⟨i, x, hcd, hi, hx1, hx2, hx3, hx4, has, hr9⟩ := stp_call h3
  have hcal := cal_get hcd
  obtain ⟨raw, n9, hdc, ho⟩ := dec_of hcd
  rcases hi with ⟨hk, -⟩ | hk
  · exfalso
    rcases hk with rfl | rfl
    · simp only [calOk, Bool.and_eq_true] at hcal
      exact hcod (by simpa using hcal.2)
    · simp only [calOk, Bool.and_eq_true] at hcal
      exact hcod (by simpa using hcal.2)
  · subst hk
    simp only [calOk, Bool.and_eq_true, Bool.or_eq_true] at hcal
    have hcow : y2 ∈ cowL := by
      rcases hcal.2 with q | q
      · exact absurd (by simpa using q) hcod
      · obtain ⟨w, hw, e9⟩ := mem_any q
        have e9 : w.1 = y2 := by simpa using e9
        have h9 := mem_all cowT_L hw
        rw [e9] at h9
        simpa using h9
    have hy : y2 < 275 := by simpa using mem_all cowL_lt hcow
    obtain ⟨m1, m2, m3, m4, m5⟩ := mDesc_get hy
    have hM := met_ofW ih hy hn9 hcat h4
    have hws : ∀ w ∈ wsW y2, w ∈ mTbl := fun w hw => by
      rcases List.mem_cons.mp hw with rfl | hw
      · exact tb_mem (cowAll y2 hcow) rfl
      · exact hw
    simp only [okR, Bool.and_eq_true, beq_iff_eq] at ho
    obtain ⟨e1, ho⟩ := ho
    subst e1
    split at ho
    · rename_i u
      simp only [Bool.and_eq_true, beq_iff_eq] at ho
      obtain ⟨⟨rfl, hme⟩, hxn⟩ := ho
      subst hxn
      have hi1 := sta_mem hcal.1
      have hlk : Cond.methodLink (cnm (mOwn.getD y 99)) u (mName y2) ∈ mTbl := by
        obtain ⟨q, hq, h2⟩ := mem_any hme
        simp only [Bool.and_eq_true, beq_iff_eq] at h2
        obtain ⟨⟨e1, e2⟩, e3⟩ := h2
        have h8 := mem_all metT_ok hq
        have hk0 : ¬ q.2.2.2.1 = 1 := fun z => by
          have h7 := mem_all cowK hq
          rw [z, e3] at h7
          have h6 : cowL.contains y2 = true := by simpa using hcow
          rw [h6] at h7
          cases h7
        rw [if_neg hk0] at h8
        have h4 := okAt_mem h8 rfl
        rw [e1, e2, e3] at h4
        exact h4
      refine W.sized (fun hsz => ?_)
      have fix : CallFix p m c (mCode y) (mMaxL.getD y 0) s args mTbl (cnm (mOwn.getD y 99)) := ⟨X.1, X.2.1, X.2.2.1, X.2.2.2.1, X.2.2.2.2.1⟩
      have hroom : (rmO (d - 1) (hs3.2.2.2.1 - hs.2.2.2.1) (hs3.2.2.2.2 - hs.2.2.2.2)).frames + 1 ≤ R.frames ∧ 8 + (mMaxL.getD y2 0 + 11) + (rmO (d - 1) (hs3.2.2.2.1 - hs.2.2.2.1) (hs3.2.2.2.2 - hs.2.2.2.2)).locals ≤ R.locals := by
        unfold rmO
        dsimp only
        omega
      have hlen : (as.map (mv B sa)).length = mNar.getD y2 0 := by
        rw [has, List.length_map, List.length_reverse, List.length_take]
        omega
      have hrun := vx_runSW (p := p) (l := l) (e := e) (R := R) (meth := meth) (below := below) (H := H) (locs := locs) (cells := cells) (slots := slots) (bytes := mCode y2) (maxL := mMaxL.getD y2 0) (ret := (mI y2).2.2.2) (hh := mHh y2) (As := as.map (mv B sa)) (rest := r9.map (mv B sa)) (g := F0 m pc ls (st.map (mv B sa))) fix hM
        ⟨⟨rfl, rfl, hroom.1, hroom.2, pay_in X.2.2.2.2.1 (goodT hws), List.mem_cons_self⟩, X.2.2.2.2.1 _ (tb_mem (cowAll y2 hcow) rfl), X.2.2.2.2.1 _ (ini_mem hy), ⟨m2, m3⟩, fun sig hsig => by rw [hsig] at m1; exact (Option.some.inj m1).symm, X.2.2.2.2.1 _ hlk, X.2.2.2.2.1 _ hi1⟩
        ⟨PcO.blind hZ, pc_ok X hZ hr hsz⟩ rfl hlen hl.1 (by
          show st.map (mv B sa) = _
          rw [has, hr9]
          exact stk_eq) (by
          rw [cat_map, hr9]
          show 2 * 0 + _ ≤ 8
          omega) hdc (by omega)
      intro T hT XT
      obtain ⟨v9, st₀, t, T9, L, h0, X9, hL, e1, e2, ⟨hv, hP2, hF⟩, hst⟩ := hrun T hT XT
      have hv2 : v9 = v.map (mv B sa) := by cases hv; rfl
      subst hv2
      have r3 := rel_back hr h0 hP2 hF hL a1
      rw [← e1] at r3
      obtain ⟨t2, b1, b2⟩ := kk T9.heap (locs ++ L) _ (slots + (hs3.2.2.2.2 - hs.2.2.2.2)) r3 (by omega) (by omega) T9 rfl X9
      refine ⟨t2, hst t2 ?_, b2⟩
      have e9 : ((v.map (mv B sa)).toList ++ r9.map (mv B sa)) = (v.toList ++ r9).map (mv B sa) := by cases v <;> rfl
      rw [e9]
      exact b1
    · cases ho
end Cw
