/-! one step of the small machine is some steps of the machine -/
theorem dec_of {y pc : Nat} {i : Instr} {x nx : Nat} (h : cd y pc = some (i, x, nx)) : ∃ (r : Instr) (n : Nat), decode (mCode y) pc = .ok (r, n) ∧ okR y pc (i, x, nx) r n = true := by
  have hok := cd_ok h
  unfold okQ at hok
  split at hok
  · rename_i r n hd
    exact ⟨r, n, hd, hok⟩
  · cases hok
theorem i32_id {a : Int} (h : inR a) : (Int32.ofInt a).toInt = a := Int32.toInt_ofInt_of_le (by omega) (by omega)
theorem i64_id {a : Int} (h : inL a) : (Int64.ofInt a).toInt = a := Int64.toInt_ofInt_of_le (by omega) (by omega)
theorem ix_in {i : Int} {n : Nat} (h0 : 0 ≤ i) (h1 : i < n) (h2 : n < 2147483648) : vp_in (Int32.ofInt i) n := by
  rw [vp_in_iff, i32_id ⟨by omega, by omega⟩]
  exact ⟨h0, h1⟩
theorem ix_nat {i : Int} {n : Nat} (h0 : 0 ≤ i) (h1 : i < n) (h2 : n < 2147483648) : (Int32.ofInt i).toNatClampNeg = i.toNat := Int32.toNatClampNeg_ofInt_of_le (by omega) (by omega)
theorem mem_any {α : Type} {L : List α} {f : α → Bool} (h : L.any f = true) : ∃ q ∈ L, f q = true := List.any_eq_true.mp h
theorem mem_all {α : Type} {L : List α} {f : α → Bool} (h : L.all f = true) {q : α} (hq : q ∈ L) : f q = true := List.all_eq_true.mp h q hq
theorem rdA_spec {hs : HS} {ty a : Nat} {i z : Int} (h : rdA hs ty a i = some z) : ∃ (n : Nat) (f : Nat → Int), a < hs.2.1 ∧ hs.1 a = .inl (ty, n, f) ∧ 0 ≤ i ∧ i < n ∧ n < 2147483648 ∧ z = f i.toNat := by
  unfold rdA at h
  split at h
  · rename_i t2 n f hg
    obtain ⟨h1, h2⟩ := hget_spec hg
    split at h
    · rename_i q
      obtain ⟨rfl, q1, q2, q3⟩ := q
      exact ⟨n, f, h1, h2, q1, q2, q3, (Option.some.inj h).symm⟩
    · cases h
  · cases h
theorem wrA_spec {hs h2 : HS} {ty a : Nat} {i z : Int} (h : wrA hs ty a i z = some h2) : ∃ (n : Nat) (f : Nat → Int), a < hs.2.1 ∧ hs.1 a = .inl (ty, n, f) ∧ 0 ≤ i ∧ i < n ∧ n < 2147483648 ∧ h2 = hput hs a (.inl (ty, n, mup f i.toNat z)) := by
  unfold wrA at h
  split at h
  · rename_i t2 n f hg
    obtain ⟨h1, h2⟩ := hget_spec hg
    split at h
    · rename_i q
      obtain ⟨rfl, q1, q2, q3⟩ := q
      exact ⟨n, f, h1, h2, q1, q2, q3, (Option.some.inj h).symm⟩
    · cases h
  · cases h
section Sd
variable {p : Program} {l : Launch} {e : Env} {R : Room} {s : State} {m : MethodId} {args : Array Value} {below : List Frame} {meth : Method} {c : Code} {H : Heap} {locs : List Loc} {cells slots : Nat} {Q : State → Prop} {D : va_G} {B : Nat} {sa : Nat → Nat} {ca : Nat → ClassId} {sc : Scr} {Z : State → Prop} {y pc x nx : Nat} {ls : Array Slot} {rest : List Value}
theorem sd_iconst (X : Cx p s m args meth c D B sa ca sc Z y) {v : Int} (h : cd y pc = some (.iconst v, x, nx)) (kk : W p l e R s m args below meth c H locs cells slots Q (F0 m nx ls (.int (Int32.ofInt v) :: rest))) : W p l e R s m args below meth c H locs cells slots Q (F0 m pc ls rest) := by
  obtain ⟨r, n, hd, ho⟩ := dec_of h
  simp only [okR, Bool.and_eq_true, beq_iff_eq] at ho
  obtain ⟨e1, ho⟩ := ho
  subst e1
  split at ho
  · simp only [Bool.and_eq_true, beq_iff_eq] at ho
    obtain ⟨rfl, rfl⟩ := ho
    exact lv_iconst X.1 X.2.1 hd rfl kk
  · simp only [Bool.and_eq_true, beq_iff_eq, decide_eq_true_eq] at ho
    obtain ⟨h1, rfl⟩ := ho
    exact lv_bipush X.1 X.2.1 hd h1 kk
  · simp only [Bool.and_eq_true, beq_iff_eq, decide_eq_true_eq] at ho
    obtain ⟨h1, rfl⟩ := ho
    exact lv_sipush X.1 X.2.1 hd h1 kk
  · simp only [Bool.and_eq_true, beq_iff_eq] at ho
    obtain ⟨rfl, h1⟩ := ho
    obtain ⟨q, hq, h2⟩ := mem_any h1
    simp only [Bool.and_eq_true, beq_iff_eq] at h2
    obtain ⟨⟨e2, e3⟩, e4⟩ := h2
    have h3 := okAt_mem (mem_all conT_ok hq) rfl
    rw [e2, e3, e4] at h3
    exact lv_ldc X.1 X.2.1 X.2.2.2.1 (X.2.2.2.2.1 _ h3) hd kk
  · simp only [Bool.and_eq_true, beq_iff_eq] at ho
    obtain ⟨rfl, h1⟩ := ho
    obtain ⟨q, hq, h2⟩ := mem_any h1
    simp only [Bool.and_eq_true, beq_iff_eq] at h2
    obtain ⟨⟨e2, e3⟩, e4⟩ := h2
    have h3 := okAt_mem (mem_all conT_ok hq) rfl
    rw [e2, e3, e4] at h3
    exact lv_ldcw X.1 X.2.1 X.2.2.2.1 (X.2.2.2.2.1 _ h3) hd kk
  · cases ho
theorem sd_lconst (X : Cx p s m args meth c D B sa ca sc Z y) {v : Int} (h : cd y pc = some (.bipush v, x, nx)) (kk : W p l e R s m args below meth c H locs cells slots Q (F0 m nx ls (.long (Int64.ofInt v) :: rest))) : W p l e R s m args below meth c H locs cells slots Q (F0 m pc ls rest) := by
  obtain ⟨r, n, hd, ho⟩ := dec_of h
  simp only [okR, Bool.and_eq_true, beq_iff_eq] at ho
  obtain ⟨e1, ho⟩ := ho
  subst e1
  split at ho
  · simp only [Bool.and_eq_true, beq_iff_eq, decide_eq_true_eq] at ho
    obtain ⟨h1, rfl⟩ := ho
    exact lv_lconst X.1 X.2.1 hd h1 kk
  · simp only [Bool.and_eq_true, beq_iff_eq] at ho
    obtain ⟨rfl, h1⟩ := ho
    obtain ⟨q, hq, h2⟩ := mem_any h1
    simp only [Bool.and_eq_true, beq_iff_eq] at h2
    obtain ⟨⟨e2, e3⟩, e4⟩ := h2
    have h3 := okAt_mem (mem_all lonT_ok hq) rfl
    rw [e2, e3, e4] at h3
    exact lv_ldc2 X.1 X.2.1 X.2.2.2.1 (X.2.2.2.2.1 _ h3) hd kk
  · cases ho
theorem sd_iload (X : Cx p s m args meth c D B sa ca sc Z y) {k : Nat} {a : Int32} (h : cd y pc = some (.iload k, x, nx)) (hv : ls[k]? = some (.val (.int a))) (kk : W p l e R s m args below meth c H locs cells slots Q (F0 m nx ls (.int a :: rest))) : W p l e R s m args below meth c H locs cells slots Q (F0 m pc ls rest) := by
  obtain ⟨r, n, hd, ho⟩ := dec_of h
  simp only [okR, Bool.and_eq_true, beq_iff_eq] at ho
  obtain ⟨e1, ho⟩ := ho
  subst e1
  split at ho
  · simp only [Bool.and_eq_true, beq_iff_eq] at ho
    obtain ⟨rfl, rfl⟩ := ho
    exact lv_iload X.1 X.2.1 hd hv kk
  · simp only [Bool.and_eq_true, beq_iff_eq] at ho
    obtain ⟨h1, rfl⟩ := ho
    exact lv_iload_n X.1 X.2.1 hd h1 hv kk
  · cases ho
theorem sd_lload (X : Cx p s m args meth c D B sa ca sc Z y) {k : Nat} {a : Int64} (h : cd y pc = some (.lload k, x, nx)) (hv : ls[k]? = some (.val (.long a))) (kk : W p l e R s m args below meth c H locs cells slots Q (F0 m nx ls (.long a :: rest))) : W p l e R s m args below meth c H locs cells slots Q (F0 m pc ls rest) := by
  obtain ⟨r, n, hd, ho⟩ := dec_of h
  simp only [okR, Bool.and_eq_true, beq_iff_eq] at ho
  obtain ⟨e1, ho⟩ := ho
  subst e1
  split at ho
  · simp only [Bool.and_eq_true, beq_iff_eq] at ho
    obtain ⟨h1, rfl⟩ := ho
    exact lv_lload_n X.1 X.2.1 hd h1 hv kk
  · cases ho
theorem sd_aload (X : Cx p s m args meth c D B sa ca sc Z y) {k a : Nat} (h : cd y pc = some (.aload k, x, nx)) (hv : ls[k]? = some (.val (.ref a))) (kk : W p l e R s m args below meth c H locs cells slots Q (F0 m nx ls (.ref a :: rest))) : W p l e R s m args below meth c H locs cells slots Q (F0 m pc ls rest) := by
  obtain ⟨r, n, hd, ho⟩ := dec_of h
  simp only [okR, Bool.and_eq_true, beq_iff_eq] at ho
  obtain ⟨e1, ho⟩ := ho
  subst e1
  split at ho
  · simp only [Bool.and_eq_true, beq_iff_eq] at ho
    obtain ⟨rfl, rfl⟩ := ho
    exact lv_aload X.1 X.2.1 hd hv kk
  · simp only [Bool.and_eq_true, beq_iff_eq] at ho
    obtain ⟨h1, rfl⟩ := ho
    exact lv_aload_n X.1 X.2.1 hd h1 hv kk
  · cases ho
theorem sd_istore (X : Cx p s m args meth c D B sa ca sc Z y) {k : Nat} {a : Int} {lv : LV} (h : cd y pc = some (.istore k, x, nx)) (hl : lrel B sa ls (mMaxL.getD y 0) lv) (hk : k < lv.length) (hn : noL lv k = true)
    (kk : ∀ ls2, lrel B sa ls2 (mMaxL.getD y 0) (lv.set k (some (vI a))) → W p l e R s m args below meth c H locs cells slots Q (F0 m nx ls2 rest)) : W p l e R s m args below meth c H locs cells slots Q (F0 m pc ls (mv B sa (vI a) :: rest)) := by
  obtain ⟨r, n, hd, ho⟩ := dec_of h
  simp only [okR, Bool.and_eq_true, beq_iff_eq] at ho
  obtain ⟨e1, ho⟩ := ho
  subst e1
  have hk2 : k < mMaxL.getD y 0 := by rw [← hl.2.2.1]; exact hk
  split at ho
  · simp only [Bool.and_eq_true, beq_iff_eq] at ho
    obtain ⟨rfl, rfl⟩ := ho
    exact lv_istore X.1 X.2.1 hd hl.has hk2 rfl (fun ls2 h2 => kk ls2 (hl.put hn h2))
  · simp only [Bool.and_eq_true, beq_iff_eq] at ho
    obtain ⟨h1, rfl⟩ := ho
    exact lv_istore_n X.1 X.2.1 hd h1 hl.has hk2 rfl (fun ls2 h2 => kk ls2 (hl.put hn h2))
  · cases ho
theorem sd_lstore (X : Cx p s m args meth c D B sa ca sc Z y) {k : Nat} {a : Int} {lv : LV} (h : cd y pc = some (.lstore k, x, nx)) (hl : lrel B sa ls (mMaxL.getD y 0) lv) (hk : k + 1 < lv.length) (hn : noL lv k = true)
    (kk : ∀ ls2, lrel B sa ls2 (mMaxL.getD y 0) ((lv.set k (some (vL a))).set (k + 1) none) → W p l e R s m args below meth c H locs cells slots Q (F0 m nx ls2 rest)) : W p l e R s m args below meth c H locs cells slots Q (F0 m pc ls (mv B sa (vL a) :: rest)) := by
  obtain ⟨r, n, hd, ho⟩ := dec_of h
  simp only [okR, Bool.and_eq_true, beq_iff_eq] at ho
  obtain ⟨e1, ho⟩ := ho
  subst e1
  have hk2 : k + 1 < mMaxL.getD y 0 := by rw [← hl.2.2.1]; exact hk
  split at ho
  · simp only [Bool.and_eq_true, beq_iff_eq] at ho
    obtain ⟨h1, rfl⟩ := ho
    exact lv_lstore_n X.1 X.2.1 hd h1 hl.has hk2 rfl (fun ls2 h2 => kk ls2 (hl.put2 hn h2))
  · cases ho
theorem sd_astore (X : Cx p s m args meth c D B sa ca sc Z y) {k : Nat} {a : Nat} {lv : LV} (h : cd y pc = some (.astore k, x, nx)) (hl : lrel B sa ls (mMaxL.getD y 0) lv) (hk : k < lv.length) (hn : noL lv k = true)
    (kk : ∀ ls2, lrel B sa ls2 (mMaxL.getD y 0) (lv.set k (some (vR a))) → W p l e R s m args below meth c H locs cells slots Q (F0 m nx ls2 rest)) : W p l e R s m args below meth c H locs cells slots Q (F0 m pc ls (mv B sa (vR a) :: rest)) := by
  obtain ⟨r, n, hd, ho⟩ := dec_of h
  simp only [okR, Bool.and_eq_true, beq_iff_eq] at ho
  obtain ⟨e1, ho⟩ := ho
  subst e1
  have hk2 : k < mMaxL.getD y 0 := by rw [← hl.2.2.1]; exact hk
  split at ho
  · simp only [Bool.and_eq_true, beq_iff_eq] at ho
    obtain ⟨rfl, rfl⟩ := ho
    exact lv_astore X.1 X.2.1 hd hl.has hk2 rfl (fun ls2 h2 => kk ls2 (hl.put hn h2))
  · simp only [Bool.and_eq_true, beq_iff_eq] at ho
    obtain ⟨h1, rfl⟩ := ho
    exact lv_astore_n X.1 X.2.1 hd h1 hl.has hk2 rfl (fun ls2 h2 => kk ls2 (hl.put hn h2))
  · cases ho
theorem sd_iinc (X : Cx p s m args meth c D B sa ca sc Z y) {k : Nat} {a v : Int} {lv : LV} (h : cd y pc = some (.iinc k v, x, nx)) (hl : lrel B sa ls (mMaxL.getD y 0) lv) (hk : lv[k]? = some (some (vI a)))
    (kk : ∀ ls2, lrel B sa ls2 (mMaxL.getD y 0) (lv.set k (some (vI (a + v)))) → W p l e R s m args below meth c H locs cells slots Q (F0 m nx ls2 rest)) : W p l e R s m args below meth c H locs cells slots Q (F0 m pc ls rest) := by
  obtain ⟨r, n, hd, ho⟩ := dec_of h
  simp only [okR, Bool.and_eq_true, beq_iff_eq] at ho
  obtain ⟨e1, ho⟩ := ho
  subst e1
  have hk2 : k < mMaxL.getD y 0 := by rw [← hl.2.2.1]; exact (List.getElem?_eq_some_iff.mp hk).1
  have hn : noL lv k = true := by
    cases k with
    | zero => rfl
    | succ j =>
      simp only [noL]
      split
      · rename_i a9 q9
        have h1 := hl.2.2.2 j _ q9
        have h2 := hl.2.1.1 j _ h1 rfl
        have h3 := hl.2.2.2 _ _ hk
        rw [h2] at h3
        cases h3
      · rfl
  obtain ⟨i9, hi9⟩ := List.getElem?_of_mem (lvO_mem (B := B) (sa := sa) hk)
  split at ho
  · simp only [Bool.and_eq_true, beq_iff_eq] at ho
    obtain ⟨⟨rfl, rfl⟩, rfl⟩ := ho
    exact lv_iinc X.1 X.2.1 hd hl.has hi9 (v := Int32.ofInt (a + _)) (by rw [Int32.ofInt_add]) hk2 rfl (fun ls2 h2 => kk ls2 (hl.put hn h2))
  · cases ho
end Sd
