/-! a call that comes back with a throw -/
section Ct
variable {l : Launch} {D : va_G} {B : Nat} {sa : Nat → Nat} {ca : Nat → ClassId} {sc : Scr} {Z : State → Prop}
theorem vxmet_of {y d mc ms k : Nat} {hs hs2 : HS} {as : List V} (hM : xMet l D B sa ca sc Z y d mc ms k hs hs2 as) : vx_Met l (mName y) (wsY y) (rmO d mc ms) (PcO D B sa ca sc Z hs as) (fun _ _ _ _ => False) (XcO D B sa ca hs2 k) mc ms (fun q => B ≤ q) := by
  intro p e ha hc hk s m args below hf happ hP hK
  obtain ⟨k9, o, h1, h2, h3, q, ce, L, rfl, x1, x2, x3, x4, x5, x6, x7, x8⟩ := hM p e ha hc hk s m args below hf happ hP hK
  exact ⟨k9, _, h1, h2, h3, Or.inr ⟨q, rfl, exN k, ce, L, ⟨rfl, x4, x5⟩, x1, x2, x3, x6, x7, x8⟩⟩
theorem ct_law (hZ : ZOk B Z) : CtLaw l D B sa ca sc Z := by
  intro p e R s m args below meth c Q y pc lv st hs hs2 y2 nx d mc ms k as r H locs cells slots ls X hcall hisv hcod hM hd hR hr hls hPc hf kk
  obtain ⟨i, x, hcd, hi, hx1, hx2, hx3, hx4, rfl, rfl⟩ := stp_call hcall
  have hcal := cal_get hcd
  obtain ⟨raw, n, hdc, ho⟩ := dec_of hcd
  have hy : y2 < 275 := by simpa using mem_all codL_lt hcod
  obtain ⟨m1, m2, m3, m4, m5⟩ := mDesc_get hy
  have hws : ∀ w ∈ wsY y2, w ∈ mTbl := fun w hw => by
    rcases List.mem_cons.mp hw with rfl | hw
    · exact cod_mem hcod
    · exact hw
  have hroom : (rmO (d - 1) mc ms).frames + 1 ≤ R.frames ∧ 8 + (mMaxL.getD y2 0 + 11) + (rmO (d - 1) mc ms).locals ≤ R.locals := by
    unfold rmO
    dsimp only
    omega
  have hcat : 2 * (F0 m pc ls (st.map (mv B sa))).monitorRoom + (((st.drop x).map (mv B sa)).map fun v => v.category).sum ≤ 8 := by
    rw [cat_map]
    show 2 * 0 + _ ≤ 8
    omega
  have fix : CallFix p m c (mCode y) (mMaxL.getD y 0) s args mTbl (cnm (mOwn.getD y 99)) := ⟨X.1, X.2.1, X.2.2.1, X.2.2.2.1, X.2.2.2.2.1⟩
  obtain ⟨y9, hy9⟩ := isV_spec hisv hcd
  subst hy9
  rcases hi with ⟨hk, hob⟩ | hk
  · have e9 : y9 = y2 := by
      rcases hk with hk | hk
      · cases hk; rfl
      · cases hk
    subst e9
    obtain ⟨b, F, hv, hb1, hb2⟩ := isObj_ref hob
    simp only [okR, Bool.and_eq_true, beq_iff_eq] at ho
    obtain ⟨e1, ho⟩ := ho
    subst e1
    split at ho
    · rename_i u
      simp only [Bool.and_eq_true, beq_iff_eq] at ho
      obtain ⟨⟨rfl, hme⟩, hxn⟩ := ho
      subst hxn
      simp only [calOk, Bool.and_eq_true] at hcal
      obtain ⟨hi1, hi2⟩ := vir_mem hcal.1
      have hlk : Cond.methodLink (cnm (mOwn.getD y 99)) u (mName y9) ∈ mTbl := by
        obtain ⟨q, hq, h2⟩ := mem_any hme
        simp only [Bool.and_eq_true, beq_iff_eq] at h2
        obtain ⟨⟨⟨e1, e2⟩, e3⟩, e4⟩ := h2
        have h3 := mem_all metT_ok hq
        rw [if_neg (by omega)] at h3
        have h4 := okAt_mem h3 rfl
        rw [e1, e2, e3] at h4
        exact h4
      have hget : st[mNar.getD y9 0]? = some (vR b) := by
        have h5 : mNar.getD y9 0 < st.length := by omega
        rw [Nat.add_sub_cancel, List.getD_eq_getElem?_getD, List.getElem?_eq_getElem h5] at hv
        rw [List.getElem?_eq_getElem h5]
        exact congrArg some hv
      have hk13 : mOwn.getD y9 99 < 13 := by
        have h6 := hr.1 b _ (wsO_get (B := B) (sa := sa) (ca := ca) hb1)
        rw [hb2] at h6
        obtain ⟨r9, h7, -⟩ := h6
        have h8 : mOwn.getD y9 99 < mCl.length := (List.getElem?_eq_some_iff.mp h7).1
        exact h8
      have has : (st.take (mNar.getD y9 0 + 1)).reverse = vR b :: (st.take (mNar.getD y9 0)).reverse := take_rev hget
      rw [has] at hPc hM
      have hcw : CallW R s args (cnm (mOwn.getD y 99)) (mName y9).cls u (mName y9) (mCode y9) (mMaxL.getD y9 0) (mI y9).2.2.2 (wsY y9) (rmO (d - 1) mc ms) mc ms (mNar.getD y9 0) :=
        cwV (mNar.getD y9 0) X.2.2.2.2.1 (goodT (fun w hw => by
          unfold wsV at hw
          rcases List.mem_append.mp hw with hw | hw
          · simp only [List.mem_cons, List.not_mem_nil, or_false] at hw
            rcases hw with rfl | rfl | rfl | rfl
            · exact hlk
            · exact hi1
            · exact hi2
            · exact ini_mem hy
          · exact hws w hw)) rfl rfl rfl ⟨rfl, m2, m3, m1⟩ hroom
      have hrun := vx_runV (e := e) (meth := meth) (below := below) (locs := locs) (cells := cells) (slots := slots) (b := B + b) (As := ((st.take (mNar.getD y9 0)).reverse).map (mv B sa)) (rest := (st.drop (mNar.getD y9 0 + 1)).map (mv B sa)) (g := F0 m pc ls (st.map (mv B sa))) fix (vxmet_of hM) hcw ⟨PcO.blind hZ, (by rw [m4]; exact recv_at X hr hb1 hb2 hk13), hPc⟩ rfl
        (by rw [List.length_map, List.length_reverse, List.length_take]; omega) hls
        (by
          show st.map (mv B sa) = _
          rw [stk_eq (x := mNar.getD y9 0 + 1), has, List.map_cons, List.reverse_cons, List.append_assoc]
          rfl) hcat hdc hf
      intro T hT XT
      rcases hrun T hT XT with ⟨v, st₀, t, T', L, h0, X', hL, e1, e2, hq, -⟩ | ⟨q, st₀, t, T', L, E, ce, h0, X', hL, e1, e2, ⟨rfl, x1, x2⟩, hce, hcv, hcl, hst⟩
      · exact hq.elim
      · obtain ⟨t2, b1, b2⟩ := kk T'.heap L q ce st₀ t h0 e1.symm (by rw [e1]; exact x1) x2 hL (by rw [e1]; exact hce) hcv hcl T' rfl X'
        exact ⟨t2, hst.trans b1, b2⟩
    · cases ho
  · cases hk
end Ct
