/-! a call that comes back -/
theorem take_rev {st : List V} {k : Nat} {v : V} (h : st[k]? = some v) : (st.take (k + 1)).reverse = v :: (st.take k).reverse := by
  rw [List.take_succ, h]
  simp
theorem stk_eq {B : Nat} {sa : Nat → Nat} {st : List V} {x : Nat} : st.map (mv B sa) = (((st.take x).reverse).map (mv B sa)).reverse ++ (st.drop x).map (mv B sa) := by
  rw [← List.map_reverse, List.reverse_reverse, ← List.map_append, List.take_append_drop]
section Run
variable {p : Program} {l : Launch} {e : Env} {R : Room} {s : State} {m : MethodId} {args : Array Value} {below : List Frame} {meth : Method} {c : Code} {H : Heap} {locs : List Loc} {cells slots : Nat} {Q : State → Prop} {D : va_G} {B : Nat} {sa : Nat → Nat} {ca : Nat → ClassId} {sc : Scr} {Z : State → Prop} {y pc : Nat} {ls : Array Slot} {hs hs2 : HS}
theorem recv_at (X : Cx p s m args meth c D B sa ca sc Z y) (hr : Rel D B sa ca s H locs cells hs) {b k : Nat} {F : Nat → V} (h1 : b < hs.2.1) (h2 : hs.1 b = .inr (.inr (k, F))) (hk : k < 13) : ∃ cellB : Cell, H[B + b]? = some cellB ∧ cellB.vm.isStatics = false ∧ s.vm.findClass (cnm k) = some cellB.cls := by
  have hg := wsO_get (B := B) (sa := sa) (ca := ca) h1
  rw [h2] at hg
  exact va_recv X.2.2.2.2.2.1 hr.1 (ci := k) (q0 := b) (mCl_get hk) hg
theorem call_run (X : Cx p s m args meth c D B sa ca sc Z y) (hN : ∀ U, Z U → NstO U) (hZ : ZOk B Z) {d y2 nx : Nat} {as r : List V} {lv : LV} {st : List V} {v : Option V} {mc ms : Nat}
    (hcall : stp sc y pc lv st hs = some (.inr (.inl (y2, as, r, nx)))) (hcod : y2 ∈ codL)
    (hM : Met l (mName y2) (wsY y2) (rmO (d - 1) mc ms) (PcO D B sa ca sc Z hs as) (QcO D B sa ca hs2 v) mc ms (fun q => B ≤ q)) (hd : 0 < d) (hR : d + 8 ≤ R.frames ∧ 64 * d + 512 ≤ R.locals)
    (hr : Rel D B sa ca s H locs cells hs) (hls : ls.size = mMaxL.getD y 0)
    (hPc : ∀ U : State, U.heap = H → s.WarmedH U.vm → PcO D B sa ca sc Z hs as (as.map (mv B sa)).toArray U) (hf : cells + mc ≤ R.cells ∧ slots + ms ≤ R.slots) :
    nx = pc + 3 ∧ va_Run p l e R s m args below meth c H locs cells slots mc ms (F0 m pc ls (st.map (mv B sa))) (r.map (mv B sa)) (QcO D B sa ca hs2 v (as.map (mv B sa)).toArray) (fun q => B ≤ q) := by
  obtain ⟨i, x, hcd, hi, hx1, hx2, hx3, hx4, rfl, rfl⟩ := stp_call hcall
  have hcal := cal_get hcd
  obtain ⟨raw, n, hdc, ho⟩ := dec_of hcd
  have hy : y2 < 275 := by simpa using mem_all codL_lt hcod
  obtain ⟨m1, m2, m3, m4, m5⟩ := mDesc_get hy
  have hws : ∀ w ∈ wsY y2, w ∈ mTbl := fun w hw => by
    rcases List.mem_cons.mp hw with rfl | hw
    · exact cod_mem hcod
    · exact hw
  have hroom : (rmO (d - 1) mc ms).frames + 1 ≤ R.frames ∧ 8 + (mMaxL.getD y2 0 + 11) + (rmO (d - 1) mc ms).locals ≤ R.locals := by
    unfold rmO
    dsimp only
    omega
  have hcat : 2 * (F0 m pc ls (st.map (mv B sa))).monitorRoom + (((st.drop x).map (mv B sa)).map fun v => v.category).sum ≤ 8 := by
    rw [cat_map]
    show 2 * 0 + _ ≤ 8
    omega
  have fix : CallFix p m c (mCode y) (mMaxL.getD y 0) s args mTbl (cnm (mOwn.getD y 99)) := ⟨X.1, X.2.1, X.2.2.1, X.2.2.2.1, X.2.2.2.2.1⟩
  rcases hi with ⟨hk, hob⟩ | rfl
  · obtain ⟨b, F, hv, hb1, hb2⟩ := isObj_ref hob
    rcases hk with rfl | rfl
    · simp only [okR, Bool.and_eq_true, beq_iff_eq] at ho
      obtain ⟨e1, ho⟩ := ho
      subst e1
      split at ho
      · rename_i u
        simp only [Bool.and_eq_true, beq_iff_eq] at ho
        obtain ⟨⟨rfl, hme⟩, hxn⟩ := ho
        subst hxn
        simp only [calOk, Bool.and_eq_true] at hcal
        obtain ⟨hi1, hi2⟩ := vir_mem hcal.1
        have hlk : Cond.methodLink (cnm (mOwn.getD y 99)) u (mName y2) ∈ mTbl := by
          obtain ⟨q, hq, h2⟩ := mem_any hme
          simp only [Bool.and_eq_true, beq_iff_eq] at h2
          obtain ⟨⟨⟨e1, e2⟩, e3⟩, e4⟩ := h2
          have h3 := mem_all metT_ok hq
          rw [if_neg (by omega)] at h3
          have h4 := okAt_mem h3 rfl
          rw [e1, e2, e3] at h4
          exact h4
        have hget : st[mNar.getD y2 0]? = some (vR b) := by
          have h5 : mNar.getD y2 0 < st.length := by omega
          rw [Nat.add_sub_cancel, List.getD_eq_getElem?_getD, List.getElem?_eq_getElem h5] at hv
          rw [List.getElem?_eq_getElem h5]
          exact congrArg some hv
        have hk13 : mOwn.getD y2 99 < 13 := by
          have h6 := hr.1 b _ (wsO_get (B := B) (sa := sa) (ca := ca) hb1)
          rw [hb2] at h6
          obtain ⟨r9, h7, -⟩ := h6
          have h8 : mOwn.getD y2 99 < mCl.length := (List.getElem?_eq_some_iff.mp h7).1
          exact h8
        have has : (st.take (mNar.getD y2 0 + 1)).reverse = vR b :: (st.take (mNar.getD y2 0)).reverse := take_rev hget
        refine ⟨rfl, ?_⟩
        rw [has] at hPc hM ⊢
        have hcw : CallW R s args (cnm (mOwn.getD y 99)) (mName y2).cls u (mName y2) (mCode y2) (mMaxL.getD y2 0) (mI y2).2.2.2 (wsY y2) (rmO (d - 1) mc ms) mc ms (mNar.getD y2 0) :=
          cwV (mNar.getD y2 0) X.2.2.2.2.1 (goodT (fun w hw => by
            unfold wsV at hw
            rcases List.mem_append.mp hw with hw | hw
            · simp only [List.mem_cons, List.not_mem_nil, or_false] at hw
              rcases hw with rfl | rfl | rfl | rfl
              · exact hlk
              · exact hi1
              · exact hi2
              · exact ini_mem hy
            · exact hws w hw)) rfl rfl rfl ⟨rfl, m2, m3, m1⟩ hroom
        refine va_runV (b := B + b) (As := ((st.take (mNar.getD y2 0)).reverse).map (mv B sa)) fix hM hcw ⟨PcO.blind hZ, ?_, hPc⟩ rfl ?_ hls ?_ hcat hdc hf
        · rw [m4]
          exact recv_at X hr hb1 hb2 hk13
        · rw [List.length_map, List.length_reverse, List.length_take]
          omega
        · show st.map (mv B sa) = _
          rw [stk_eq (x := mNar.getD y2 0 + 1), has, List.map_cons, List.reverse_cons, List.append_assoc]
          rfl
      · cases ho
    · simp only [okR, Bool.and_eq_true, beq_iff_eq] at ho
      obtain ⟨e1, ho⟩ := ho
      subst e1
      split at ho
      · rename_i u
        simp only [Bool.and_eq_true, beq_iff_eq] at ho
        obtain ⟨⟨rfl, hme⟩, hxn⟩ := ho
        subst hxn
        simp only [calOk, Bool.and_eq_true] at hcal
        obtain ⟨hi1, hi2⟩ := inn_mem hcal.1
        have hlk := met_mem (y := y) (u := u) (y2 := y2) hme (fun q h9 => by simp only [Bool.and_eq_true, beq_iff_eq] at h9; exact ⟨h9.1.1, h9.1.2, h9.2⟩)
        have hget : st[mNar.getD y2 0]? = some (vR b) := by
          have h5 : mNar.getD y2 0 < st.length := by omega
          rw [Nat.add_sub_cancel, List.getD_eq_getElem?_getD, List.getElem?_eq_getElem h5] at hv
          rw [List.getElem?_eq_getElem h5]
          exact congrArg some hv
        have has : (st.take (mNar.getD y2 0 + 1)).reverse = vR b :: (st.take (mNar.getD y2 0)).reverse := take_rev hget
        refine ⟨rfl, ?_⟩
        rw [has] at hPc hM ⊢
        have hlen : (((st.take (mNar.getD y2 0)).reverse).map (mv B sa)).length = mNar.getD y2 0 := by
          rw [List.length_map, List.length_reverse, List.length_take]
          omega
        have hstk : (F0 m pc ls (st.map (mv B sa))).stack = (((st.take (mNar.getD y2 0)).reverse).map (mv B sa)).reverse ++ Value.ref (B + b) :: ((st.drop (mNar.getD y2 0 + 1)).map (mv B sa)) := by
          show st.map (mv B sa) = _
          rw [stk_eq (x := mNar.getD y2 0 + 1), has, List.map_cons, List.reverse_cons, List.append_assoc]
          rfl
        have hrk : (mI y2).2.2.2 = none := by
          have h9 := mem_all iniR_all (List.mem_range.mpr hy)
          rw [hcal.1] at h9
          simpa using h9
        rcases hlk with hlk | hlk
        · refine va_runI (bytes := mCode y2) (maxL := mMaxL.getD y2 0) (b := B + b) fix hM (cwI (mNar.getD y2 0) X.2.2.2.2.1 (goodT hws) (by unfold wsY codW; rw [hrk]) rfl rfl (X.2.2.2.2.1 _ (ini_mem hy)) (X.2.2.2.2.1 _ hlk) (X.2.2.2.2.1 _ hi1) hi2 ⟨m2, m3, m1⟩ hroom) ⟨PcO.blind hZ, hPc⟩ rfl hlen hls hstk hcat hdc hf
        · refine va_runIN (bytes := mCode y2) (maxL := mMaxL.getD y2 0) (b := B + b) fix hM ⟨va_cnB (mNar.getD y2 0) X.2.2.2.2.1 (goodT hws) (by unfold wsY codW; rw [hrk]) rfl rfl (hlk s (hN s X.2.2.2.2.2.2.2.2.2.2)) (X.2.2.2.2.1 _ (ini_mem hy)) ⟨m2, m3, m1⟩ hroom, hi2, X.2.2.2.2.1 _ hi1⟩ ⟨PcO.blind hZ, hPc⟩ rfl hlen hls hstk hcat hdc hf
      · cases ho
  · simp only [okR, Bool.and_eq_true, beq_iff_eq] at ho
    obtain ⟨e1, ho⟩ := ho
    subst e1
    split at ho
    · rename_i u
      simp only [Bool.and_eq_true, beq_iff_eq] at ho
      obtain ⟨⟨rfl, hme⟩, hxn⟩ := ho
      subst hxn
      simp only [calOk, Bool.and_eq_true] at hcal
      have hi1 := sta_mem hcal.1
      have hlk := met_mem (y := y) (u := u) (y2 := y2) hme (fun q h9 => by simp only [Bool.and_eq_true, beq_iff_eq] at h9; exact ⟨h9.1.1, h9.1.2, h9.2⟩)
      refine ⟨rfl, ?_⟩
      have hlen : (((st.take (mNar.getD y2 0)).reverse).map (mv B sa)).length = mNar.getD y2 0 := by
        rw [List.length_map, List.length_reverse, List.length_take]
        omega
      have hstk : (F0 m pc ls (st.map (mv B sa))).stack = (((st.take (mNar.getD y2 0)).reverse).map (mv B sa)).reverse ++ ((st.drop (mNar.getD y2 0)).map (mv B sa)) := by
        show st.map (mv B sa) = _
        exact stk_eq
      rcases hlk with hlk | hlk
      · exact va_runS (bytes := mCode y2) (maxL := mMaxL.getD y2 0) (ret := (mI y2).2.2.2) fix hM ⟨callB_of (mNar.getD y2 0) X.2.2.2.2.1 (goodT hws) rfl rfl rfl (X.2.2.2.2.1 _ (ini_mem hy)) (X.2.2.2.2.1 _ hlk) ⟨m2, m3, m1⟩ hroom, X.2.2.2.2.1 _ hi1⟩ ⟨PcO.blind hZ, hPc⟩ rfl hlen hls hstk hcat hdc hf
      · exact va_runSN (bytes := mCode y2) (maxL := mMaxL.getD y2 0) (ret := (mI y2).2.2.2) fix hM ⟨va_cnB (mNar.getD y2 0) X.2.2.2.2.1 (goodT hws) rfl rfl rfl (hlk s (hN s X.2.2.2.2.2.2.2.2.2.2)) (X.2.2.2.2.1 _ (ini_mem hy)) ⟨m2, m3, m1⟩ hroom, X.2.2.2.2.1 _ hi1, trivial⟩ ⟨PcO.blind hZ, hPc⟩ rfl hlen hls hstk hcat hdc hf
    · cases ho
end Run
