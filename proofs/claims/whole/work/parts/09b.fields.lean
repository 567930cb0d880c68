section Sd3
variable {p : Program} {l : Launch} {e : Env} {R : Room} {s : State} {m : MethodId} {args : Array Value} {below : List Frame} {meth : Method} {c : Code} {H : Heap} {locs : List Loc} {cells slots : Nat} {Q : State → Prop} {D : va_G} {B : Nat} {sa : Nat → Nat} {ca : Nat → ClassId} {sc : Scr} {Z : State → Prop} {y pc x nx : Nat} {ls : Array Slot} {rest : List Value} {hs : HS}
theorem W.sized {g : JFrame} (k : H.size ≤ s.heap.size + cells → W p l e R s m args below meth c H locs cells slots Q g) : W p l e R s m args below meth c H locs cells slots Q g := fun T hT X => k (by rw [← hT]; exact X.same.2.2.1) T hT X
theorem fld_mem {u k : Nat} (h : fldT.any (fun q => q.1 == mOwn.getD y 99 && q.2.1 == u && q.2.2.1 == x && q.2.2.2.1 == k) = true) : Cond.fieldLink (cnm (mOwn.getD y 99)) u (TXn x k).1 (TXn x k).2.1 (TXn x k).2.2.1 ∈ mTbl := by
  obtain ⟨q, hq, h2⟩ := mem_any h
  simp only [Bool.and_eq_true, beq_iff_eq] at h2
  obtain ⟨⟨⟨e2, e3⟩, e4⟩, e5⟩ := h2
  have h3 := okAt_mem (mem_all fldT_ok hq) rfl
  rw [e2, e3, e4, e5] at h3
  exact h3
theorem sd_getfield (X : Cx p s m args meth c D B sa ca sc Z y) (hr : Rel D B sa ca s H locs cells hs) {k a : Nat} {F : Nat → V} (h : cd y pc = some (.getfield k, x, nx)) (ha : a < hs.2.1) (he : hs.1 a = .inr (.inr (x, F)))
    (kk : W p l e R s m args below meth c H locs cells slots Q (F0 m nx ls (mv B sa (F k) :: rest))) : W p l e R s m args below meth c H locs cells slots Q (F0 m pc ls (.ref (B + a) :: rest)) := by
  obtain ⟨r, n, hd, ho⟩ := dec_of h
  simp only [okR, Bool.and_eq_true, beq_iff_eq] at ho
  obtain ⟨e1, ho⟩ := ho
  subst e1
  split at ho
  · simp only [Bool.and_eq_true, beq_iff_eq, Nat.blt_eq] at ho
    obtain ⟨⟨rfl, hk⟩, hf⟩ := ho
    have h13 := mNf13 hk
    have hg := wsO_get (B := B) (sa := sa) (ca := ca) ha
    rw [he] at hg
    exact va_get X.1 X.2.1 X.2.2.2.2.1 (clsW h13) X.2.2.2.1 X.2.2.2.2.2.1 hr.1 a hg (mCl_get h13) k hk (X.2.2.2.2.1 _ (fld_mem hf)) (fun _ h9 => h9)
      (by rw [List.getElem?_map, List.getElem?_range hk]; rfl) hd kk
  · cases ho
theorem obj_setN {N j : Nat} {F : Nat → V} {v : V} : (List.range N).map (fun i => mv B sa (mup F j v i)) = ((List.range N).map (fun i => mv B sa (F i))).set j (mv B sa v) := by
  apply List.ext_getElem?
  intro i
  rw [List.getElem?_set]
  by_cases hi : i < N
  · by_cases hj : j = i
    · subst hj
      simp [mup, hi]
    · have hj2 : ¬ i = j := fun q => hj q.symm
      simp [mup, hi, hj, hj2]
  · have hi2 : N ≤ i := by omega
    by_cases hj : j = i
    · subst hj
      simp [hi2]
    · simp [hi2, hj]
theorem obj_set {k j : Nat} {F : Nat → V} {v : V} : (List.range (mNf.getD k 0)).map (fun i => mv B sa (mup F j v i)) = ((List.range (mNf.getD k 0)).map (fun i => mv B sa (F i))).set j (mv B sa v) := obj_setN
theorem Rel.put (hr : Rel D B sa ca s H locs cells hs) {a : Nat} {e9 : mE} (ha : a < hs.2.1) {H1 : Heap} {locs1 : List Loc} (h1 : va_P D mCl ((wsO B sa ca hs).set a (B + a, toE B sa ca e9)) H1) (h2 : va_S (fun q => B ≤ q) s.heap H1 locs1) : Rel D B sa ca s H1 locs1 cells (hput hs a e9) := by
  rw [wsO_set ha] at h1
  exact ⟨h1, h2, hr.2.2⟩
theorem sd_putfield (X : Cx p s m args meth c D B sa ca sc Z y) (hr : Rel D B sa ca s H locs cells hs) {k a : Nat} {F : Nat → V} {v : V} (h : cd y pc = some (.putfield k, x, nx)) (ha : a < hs.2.1) (he : hs.1 a = .inr (.inr (x, F))) (hv : okV (fKind x k) v = true)
    (kk : ∀ H2 locs2, Rel D B sa ca s H2 locs2 cells (hput hs a (eO x (mup F k v))) → W p l e R s m args below meth c H2 locs2 cells slots Q (F0 m nx ls rest)) : W p l e R s m args below meth c H locs cells slots Q (F0 m pc ls (mv B sa v :: .ref (B + a) :: rest)) := by
  obtain ⟨r, n, hd, ho⟩ := dec_of h
  simp only [okR, Bool.and_eq_true, beq_iff_eq] at ho
  obtain ⟨e1, ho⟩ := ho
  subst e1
  split at ho
  · simp only [Bool.and_eq_true, beq_iff_eq, Nat.blt_eq] at ho
    obtain ⟨⟨⟨rfl, hk⟩, hf⟩, hfin⟩ := ho
    have h13 := mNf13 hk
    have hg := wsO_get (B := B) (sa := sa) (ca := ca) ha
    rw [he] at hg
    obtain ⟨hn, hft⟩ := fk_ok (B := B) (sa := sa) hk hv
    have hown := mem_all (mem_all own_all (List.mem_range.mpr h13)) (List.mem_range.mpr hk)
    simp only [decide_eq_true_eq] at hown
    by_cases hfn : (TXn x k).2.2.2 = false
    · refine va_put X.1 X.2.1 X.2.2.2.2.1 (clsW h13) (tyXn x) (tyXn_ok h13) (nmXn_ok h13) X.2.2.2.1 X.2.2.2.2.2.1 hr.1 wsO_D hr.2.1 a hg (mCl_get h13) k hk (X.2.2.2.2.1 _ (fld_mem hf)) (fun _ h9 => h9) hfn (tyXn_ok h13 k hk) hn hft (by rw [List.length_map, List.length_range]; exact hk) hd (fun H1 locs1 q1 _ q3 => ?_)
      exact kk H1 locs1 (hr.put ha (by show va_P D mCl ((wsO B sa ca hs).set a (B + a, .inr (x, _))) H1; rw [obj_set]; exact q1) q3)
    · have hfn2 : (TXn x k).2.2.2 = true := by simpa using hfn
      rw [hfn2] at hfin
      simp only [Bool.or_eq_true, Bool.and_eq_true, beq_iff_eq] at hfin
      rcases hfin with q | ⟨q1, q2⟩
      · cases q
      · refine va_putF X.1 X.2.1 X.2.2.2.2.1 (clsW h13) (tyXn x) (tyXn_ok h13) (nmXn_ok h13) X.2.2.2.1 X.2.2.2.2.2.1 hr.1 wsO_D hr.2.1 a hg (mCl_get h13) k hk (X.2.2.2.2.1 _ (fld_mem hf)) (fun _ h9 => h9) hfn2 (X.2.2.2.2.2.2.2.1.1.trans q1) (hown.trans q2) (tyXn_ok h13 k hk) hn hft (by rw [List.length_map, List.length_range]; exact hk) hd (fun H1 locs1 q1 _ q3 => ?_)
        exact kk H1 locs1 (hr.put ha (by show va_P D mCl ((wsO B sa ca hs).set a (B + a, .inr (x, _))) H1; rw [obj_set]; exact q1) q3)
  · cases ho
end Sd3
