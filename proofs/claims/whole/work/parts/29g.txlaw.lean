/-! the law of texts -/
def TzO (B : Nat) (sa aV : Nat → Nat) (U : State) : Prop := TxE B sa aV U ∧ vk_R jT 53 "table" (sa 0) U ∧ vk_R jT 59 "row" (sa 1) U ∧ vk_R jT 61 "rule" (sa 2) U ∧ vk_R jT 63 "false" (sa 3) U
theorem str_all : strT.all (fun q => q.1 == 9 && ((q.2.1 == 53 && q.2.2.1 == 0) || (q.2.1 == 59 && q.2.2.1 == 1) || (q.2.1 == 61 && q.2.2.1 == 2) || (q.2.1 == 63 && q.2.2.1 == 3))) = true := by decide +kernel
theorem sln_all : slnT.all (fun q => q.1 == 9 && q.2.1 == 65) = true := by decide +kernel
theorem sch_all : schT.all (fun q => q.1 == 9 && q.2.1 == 71) = true := by decide +kernel
theorem cnm9 : cnm 9 = jT := by decide +kernel
set_option maxHeartbeats 2000000 in
theorem tx_law {l : Launch} {D : va_G} {B : Nat} {sa aV : Nat → Nat} {ca : Nat → ClassId} {sc : Scr} {Z : State → Prop} (hZt : ∀ U, Z U → TzO B sa aV U) : TxLaw l D B sa ca sc Z := by
  intro p e R s m args below meth c Q y X hR pc i x nx hcd hi lv st hs pc2 lv2 st2 hs2 h H locs cells slots ls c0 s0 hr hl hc hz hc2 hz2 kk
  have hZ := hZt s X.2.2.2.2.2.2.2.2.2.2
  have hsz : ls.size = mMaxL.getD y 0 := hl.1
  have fix : CallFix p m c (mCode y) (mMaxL.getD y 0) s args mTbl (cnm (mOwn.getD y 99)) := ⟨X.1, X.2.1, X.2.2.1, X.2.2.2.1, X.2.2.2.2.1⟩
  have hE2 : ∀ U : State, U.heap = H → s.WarmedH U.vm → TxE B sa aV U := fun U h1 h2 => TxE.moved h2.alike (fun q hq => by rw [h1]; exact (hr.2.1.2.1 q (Nat.lt_of_lt_of_le hq X.2.2.2.2.2.2.1) (by omega))) hZ.1
  unfold stp at h
  rw [hcd] at h
  obtain ⟨r9, n9, hd, ho⟩ := dec_of hcd
  cases i <;> simp only [isTx] at hi <;> (try (exact absurd hi (by decide)))
  case sipush v =>
    dsimp only at h
    split at h
    · rename_i hv
      simp only [go, Option.some.injEq, Sum.inl.injEq, Prod.mk.injEq] at h
      obtain ⟨rfl, rfl, rfl, rfl⟩ := h
      simp only [okR, Bool.and_eq_true, beq_iff_eq] at ho
      obtain ⟨e1, ho⟩ := ho
      subst e1
      split at ho
      · rename_i k
        simp only [Bool.and_eq_true, beq_iff_eq] at ho
        obtain ⟨rfl, hcc⟩ := ho
        obtain ⟨q, hq, h2⟩ := mem_any hcc
        simp only [Bool.and_eq_true, beq_iff_eq] at h2
        obtain ⟨⟨e2, e3⟩, e4⟩ := h2
        have h3 := mem_all str_all hq
        simp only [Bool.and_eq_true, beq_iff_eq, Bool.or_eq_true] at h3
        obtain ⟨e5, h3⟩ := h3
        have hown : s.vm.findClass jT = some m.cls := by
          have := X.2.2.2.1
          rw [← e2, e5, cnm9] at this
          exact this
        have k1 := kk H locs cells slots ls hr hl hc hz
        rw [List.map_cons] at k1
        rcases h3 with ((⟨e6, e7⟩ | ⟨e6, e7⟩) | ⟨e6, e7⟩) | ⟨e6, e7⟩ <;> rw [e6] at e3 <;> subst e3 <;> rw [e7] at e4 <;> subst e4
        · exact va_ldcS X.1 X.2.1 hown hZ.2.1 hd k1
        · exact va_ldcS X.1 X.2.1 hown hZ.2.2.1 hd k1
        · exact va_ldcS X.1 X.2.1 hown hZ.2.2.2.1 hd k1
        · exact va_ldcS X.1 X.2.1 hown hZ.2.2.2.2 hd k1
      · simp only [beq_iff_eq] at ho
        omega
    · cases h
  case aconst_null =>
    dsimp only at h
    split at h
    · rename_i i r
      split at h
      · rename_i hv
        simp only [go, Option.some.injEq, Sum.inl.injEq, Prod.mk.injEq] at h
        obtain ⟨rfl, rfl, rfl, rfl⟩ := h
        simp only [okR, Bool.and_eq_true, beq_iff_eq] at ho
        obtain ⟨e1, ho⟩ := ho
        subst e1
        split at ho
        · rename_i k
          simp only [Bool.and_eq_true, beq_iff_eq] at ho
          obtain ⟨rfl, hcc⟩ := ho
          obtain ⟨q, hq, h2⟩ := mem_any hcc
          simp only [Bool.and_eq_true, beq_iff_eq] at h2
          obtain ⟨e2, e3⟩ := h2
          have h3 := mem_all sln_all hq
          simp only [Bool.and_eq_true, beq_iff_eq] at h3
          obtain ⟨e5, e6⟩ := h3
          rw [e6] at e3
          subst e3
          rw [← e2, e5, cnm9] at fix
          have k1 := kk H locs cells slots ls hr hl hc hz
          rw [List.map_cons] at k1
          refine j_back (va_runV (ret := some .int) (y := yLen) (bytes := cLen) (maxL := 1) (n := 0) (As := []) (b := sa i) (rest := r.map (mv B sa)) fix (m_len (l := l) (B := B) (aK := sa) (aV := aV) hv.1) (cwV 0 X.2.2.2.2.1 (j_memV (jW_at (i := 3) rfl) (jW_at (i := 4) rfl) (jW_at (i := 5) rfl) (jW_at (i := 0) rfl) (jW_at (i := 6) rfl)) rfl rfl rfl (by decide +kernel) ⟨by show 1 + 1 ≤ _; omega, by show 8 + (1 + 11) + 20 ≤ _; omega⟩) ⟨jPre.blind, vk_recv hZ.1.1 hv.1 hr.2.1, fun U h1 h2 => ⟨rfl, hE2 U h1 h2⟩⟩ rfl rfl hsz rfl (by show 2 * 0 + _ ≤ 8; rw [cat_map]; omega) hd ⟨by omega, by omega⟩) ?_
          exact k1
        · cases ho
      · cases h
    · cases h
  case caload =>
    dsimp only at h
    split at h
    · rename_i j i r
      split at h
      · rename_i hv
        simp only [go, Option.some.injEq, Sum.inl.injEq, Prod.mk.injEq] at h
        obtain ⟨rfl, rfl, rfl, rfl⟩ := h
        simp only [okR, Bool.and_eq_true, beq_iff_eq] at ho
        obtain ⟨e1, ho⟩ := ho
        subst e1
        split at ho
        · rename_i k
          simp only [Bool.and_eq_true, beq_iff_eq] at ho
          obtain ⟨rfl, hcc⟩ := ho
          obtain ⟨q, hq, h2⟩ := mem_any hcc
          simp only [Bool.and_eq_true, beq_iff_eq] at h2
          obtain ⟨e2, e3⟩ := h2
          have h3 := mem_all sch_all hq
          simp only [Bool.and_eq_true, beq_iff_eq] at h3
          obtain ⟨e5, e6⟩ := h3
          rw [e6] at e3
          subst e3
          rw [← e2, e5, cnm9] at fix
          have k1 := kk H locs cells slots ls hr hl hc hz
          rw [List.map_cons] at k1
          obtain ⟨hv1, hv2, hv3, hv4⟩ := hv
          obtain ⟨n, rfl⟩ := Int.eq_ofNat_of_zero_le hv2
          have en : Int32.ofInt (n : Int) = Int32.ofNat n := Int32.ofInt_eq_ofNat
          refine j_back (va_runV (ret := some .char) (y := yChr) (bytes := cChr) (maxL := 2) (n := 1) (As := [.int (Int32.ofNat n)]) (b := sa i) (rest := r.map (mv B sa)) fix (m_chr (l := l) (B := B) (aK := sa) (aV := aV) hv1 (j := n) (by omega)) (cwV 1 X.2.2.2.2.1 (j_memV (jW_at (i := 12) rfl) (jW_at (i := 13) rfl) (jW_at (i := 14) rfl) (jW_at (i := 0) rfl) (jW_at (i := 15) rfl)) rfl rfl rfl (by decide +kernel) ⟨by show 3 + 1 ≤ _; omega, by show 8 + (2 + 11) + 64 ≤ _; omega⟩) ⟨jPre.blind, vk_recv hZ.1.1 hv1 hr.2.1, fun U h1 h2 => ⟨rfl, hE2 U h1 h2⟩⟩ rfl rfl hsz (by rw [← en]; rfl) (by show 2 * 0 + _ ≤ 8; rw [cat_map]; omega) hd ⟨by omega, by omega⟩) ?_
          exact k1
        · cases ho
      · cases h
    · cases h
