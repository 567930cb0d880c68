/-! rows of references, Object's constructor, arraycopy, switches -/
section Sd6
variable {p : Program} {l : Launch} {e : Env} {R : Room} {s : State} {m : MethodId} {args : Array Value} {below : List Frame} {meth : Method} {c : Code} {H : Heap} {locs : List Loc} {cells slots : Nat} {Q : State → Prop} {D : va_G} {B : Nat} {sa : Nat → Nat} {ca : Nat → ClassId} {sc : Scr} {Z : State → Prop} {y pc x nx : Nat} {ls : Array Slot} {rest : List Value} {hs : HS}
theorem sd_anewarray (X : Cx p s m args meth c D B sa ca sc Z y) (hr : Rel D B sa ca s H locs cells hs) {k : Nat} {n : Int} (h : cd y pc = some (.anewarray k, x, nx)) (hex : hs.2.2.1 = true) (hn : 0 ≤ n ∧ n ≤ 65536) (hcl : cells + 1 ≤ R.cells) (hsl : slots + n.toNat ≤ R.slots)
    (kk : ∀ H2, Rel D B sa ca s H2 locs (cells + 1) (mup hs.1 hs.2.1 (eR k n.toNat (fun _ => none)), hs.2.1 + 1, true, hs.2.2.2.1 + 1, hs.2.2.2.2 + n.toNat) → W p l e R s m args below meth c H2 locs (cells + 1) (slots + n.toNat) Q (F0 m nx ls (.ref (B + hs.2.1) :: rest))) : W p l e R s m args below meth c H locs cells slots Q (F0 m pc ls (.int (Int32.ofInt n) :: rest)) := by
  obtain ⟨r, n9, hd, ho⟩ := dec_of h
  simp only [okR, Bool.and_eq_true, beq_iff_eq] at ho
  obtain ⟨e1, ho⟩ := ho
  subst e1
  split at ho
  · simp only [Bool.and_eq_true, beq_iff_eq, Bool.or_eq_true] at ho
    obtain ⟨⟨rfl, hc⟩, hk⟩ := ho
    have en := i32_id (a := n) ⟨by omega, by omega⟩
    have hn0 : ¬ Int32.ofInt n < 0 := fun q => by have q2 := Int32.lt_iff_toInt_lt.mp q; rw [en] at q2; have : (0 : Int32).toInt = 0 := rfl; omega
    have hn1 : (Int32.ofInt n).toNatClampNeg = n.toNat := Int32.toNatClampNeg_ofInt_of_le (by omega) (by omega)
    have hao : va_AO (cnm k) s := by
      obtain ⟨z1, z2⟩ := X.2.2.2.2.2.2.2.2.2.1
      rcases hk with rfl | rfl
      · exact z1
      · exact z2
    refine va_newq X.1 X.2.1 X.2.2.2.1 (X.2.2.2.2.1 _ (cls_mem hc)) hao X.2.2.2.2.2.1 hr.1 wsO_D hr.2.1 (fun q hq => Nat.le_trans X.2.2.2.2.2.2.1 hq) hn0 hn1 (by omega) hcl hsl hd (fun q cA H1 q0 q1 q2 q3 => ?_)
    refine W.sized (fun hz => ?_)
    have eq := new_at hr hex q1 q2 hz
    subst eq
    obtain ⟨t0, ht⟩ := ref_ty (ca := ca) hk
    have h5 : (tysO ca ++ [(cA, FieldType.object (cnm k))])[5]? = some (cA, FieldType.object (cnm k)) := rfl
    obtain ⟨-, -, -, -, -, u1⟩ := (q0.2 5 _ h5).2
    obtain ⟨-, -, -, -, -, u2⟩ := (X.2.2.2.2.2.1.2 _ _ ht).2
    have eA1 : cA = ca (10 + k) := Option.some.inj (u1.symm.trans u2)
    subst eA1
    refine kk H1 ⟨?_, q3, fun _ => ?_⟩
    · rw [wsO_push]
      exact q1
    · have := hr.2.2 hex
      show B + (hs.2.1 + 1) = s.heap.size + (cells + 1)
      omega
  · cases ho
theorem cat_map {st : List V} : ((st.map (mv B sa)).map fun v => v.category).sum = catS st := by
  induction st with
  | nil => rfl
  | cons v t ih =>
    rw [List.map_cons, List.map_cons, List.sum_cons, ih]
    rcases v with a | a | (_ | a) | i <;> rfl
theorem objC_ok : Cond.instanceMethod Lib.objectInit ∈ mTbl ∧ Cond.code Lib.objectInit ⟨#[0xb1]⟩ 1 none ∈ mTbl := ⟨List.mem_filter.mpr ⟨List.mem_append_right _ (by decide +kernel), rfl⟩, List.mem_filter.mpr ⟨List.mem_append_right _ (by decide +kernel), rfl⟩⟩
theorem sd_objinit (X : Cx p s m args meth c D B sa ca sc Z y) {a : Nat} {st : List V} (h : cd y pc = some (.pop2, x, nx)) (hl : ls.size = mMaxL.getD y 0) (hst : catS st ≤ 8) (hR : 8 ≤ R.frames ∧ 512 ≤ R.locals)
    (kk : W p l e R s m args below meth c H locs cells slots Q (F0 m nx ls (st.map (mv B sa)))) : W p l e R s m args below meth c H locs cells slots Q (F0 m pc ls (.ref (B + a) :: st.map (mv B sa))) := by
  obtain ⟨r, n9, hd, ho⟩ := dec_of h
  simp only [okR, Bool.and_eq_true, beq_iff_eq] at ho
  obtain ⟨e1, ho⟩ := ho
  subst e1
  split at ho
  · simp only [Bool.and_eq_true, beq_iff_eq] at ho
    obtain ⟨rfl, hc⟩ := ho
    obtain ⟨q, hq, h2⟩ := mem_any hc
    simp only [Bool.and_eq_true, beq_iff_eq] at h2
    obtain ⟨e2, e3⟩ := h2
    have h3 := okAt_mem (mem_all objT_ok hq) rfl
    rw [e2, e3] at h3
    refine W.objInit X.1 X.2.1 X.2.2.2.1 (X.2.2.2.2.1 _ h3) (X.2.2.2.2.1 _ objC_ok.1) (X.2.2.2.2.1 _ objC_ok.2) rfl (hl.trans X.2.2.1.symm) rfl hd (by omega) ?_ kk
    show 2 * 0 + _ + 12 ≤ R.locals
    rw [cat_map]
    omega
  · cases ho
theorem acpC_ok : Cond.native arraycopyName ∈ mTbl ∧ Cond.static arraycopyName ∈ mTbl ∧ Cond.initialized "java/lang/System" ∈ mTbl := ⟨List.mem_filter.mpr ⟨List.mem_append_right _ (by decide +kernel), rfl⟩, List.mem_filter.mpr ⟨List.mem_append_right _ (by decide +kernel), rfl⟩, List.mem_filter.mpr ⟨List.mem_append_right _ (by decide +kernel), rfl⟩⟩
theorem cpy_i {f g : Nat → Int} {u v w : Nat} : va_cpy (fun j => Int32.ofInt (f j)) (fun j => Int32.ofInt (g j)) u v w = fun j => Int32.ofInt (va_cpy f g u v w j) := by
  funext j
  unfold va_cpy
  split <;> rfl
theorem sd_copy (X : Cx p s m args meth c D B sa ca sc Z y) (hr : Rel D B sa ca s H locs cells hs) {a b n1 n2 : Nat} {n dp sp : Int} {f1 f2 : Nat → Int} {st : List V} (h : cd y pc = some (.nop, x, nx)) (hl : ls.size = mMaxL.getD y 0) (hb : b < hs.2.1) (heb : hs.1 b = .inl (0, n1, f1)) (ha : a < hs.2.1) (hea : hs.1 a = .inl (0, n2, f2))
    (h0 : 0 ≤ n ∧ 0 ≤ dp ∧ 0 ≤ sp ∧ sp + n ≤ n1 ∧ dp + n ≤ n2 ∧ n1 < 2147483648 ∧ n2 < 2147483648) (hst : catS st ≤ 8) (hR : 8 ≤ R.frames ∧ 512 ≤ R.locals)
    (kk : ∀ H2 locs2, Rel D B sa ca s H2 locs2 cells (hput hs a (eA 0 n2 (va_cpy f1 f2 sp.toNat dp.toNat n.toNat))) → W p l e R s m args below meth c H2 locs2 cells slots Q (F0 m nx ls (st.map (mv B sa)))) : W p l e R s m args below meth c H locs cells slots Q (F0 m pc ls (.int (Int32.ofInt n) :: .int (Int32.ofInt dp) :: .ref (B + a) :: .int (Int32.ofInt sp) :: .ref (B + b) :: st.map (mv B sa))) := by
  obtain ⟨r, n9, hd, ho⟩ := dec_of h
  simp only [okR, Bool.and_eq_true, beq_iff_eq] at ho
  obtain ⟨e1, ho⟩ := ho
  subst e1
  split at ho
  · simp only [Bool.and_eq_true, beq_iff_eq] at ho
    obtain ⟨rfl, hc⟩ := ho
    obtain ⟨q, hq, h2⟩ := mem_any hc
    simp only [Bool.and_eq_true, beq_iff_eq] at h2
    obtain ⟨e2, e3⟩ := h2
    have h3 := okAt_mem (mem_all acpT_ok hq) rfl
    rw [e2, e3] at h3
    have hga := wsO_get (B := B) (sa := sa) (ca := ca) ha
    rw [hea] at hga
    have hgb := wsO_get (B := B) (sa := sa) (ca := ca) hb
    rw [heb] at hgb
    have nn : ∀ z : Int, 0 ≤ z → z ≤ 2147483647 → ¬ Int32.ofInt z < 0 ∧ (Int32.ofInt z).toNatClampNeg = z.toNat := fun z z0 z1 =>
      ⟨fun q => by have q2 := Int32.lt_iff_toInt_lt.mp q; rw [i32_id ⟨by omega, by omega⟩] at q2; have : (0 : Int32).toInt = 0 := rfl; omega, Int32.toNatClampNeg_ofInt_of_le (by omega) (by omega)⟩
    have en := nn n (by omega) (by omega)
    have ed := nn dp (by omega) (by omega)
    have es := nn sp (by omega) (by omega)
    refine va_copyi X.1 X.2.1 (X.2.2.1.trans hl.symm) X.2.2.2.1 (X.2.2.2.2.1 _ h3) (X.2.2.2.2.1 _ acpC_ok.1) (X.2.2.2.2.1 _ acpC_ok.2.1) (X.2.2.2.2.1 _ acpC_ok.2.2) X.2.2.2.2.2.1 hr.1 wsO_D hr.2.1 b a 0 0
      (f := fun j => Int32.ofInt (f1 j)) (g := fun j => Int32.ofInt (f2 j)) hgb hga rfl rfl rfl es.1 ed.1 en.1 (by rw [es.2, en.2]; omega) (by rw [ed.2, en.2]; omega) (fun i _ => rfl) (by omega) ?_ hd (fun H1 locs1 q1 _ q3 => ?_)
    · rw [cat_map]
      have : nativeFrameWords "java/lang/System" "arraycopy" 5 + 11 ≤ 400 := by decide +kernel
      omega
    · rw [es.2, ed.2, en.2, cpy_i] at q1
      exact kk H1 locs1 (hr.put ha q1 q3)
  · cases ho
end Sd6
