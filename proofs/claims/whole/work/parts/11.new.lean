/-! new cells, Object's constructor, arraycopy, switches -/
section Sd5
variable {p : Program} {l : Launch} {e : Env} {R : Room} {s : State} {m : MethodId} {args : Array Value} {below : List Frame} {meth : Method} {c : Code} {H : Heap} {locs : List Loc} {cells slots : Nat} {Q : State → Prop} {D : va_G} {B : Nat} {sa : Nat → Nat} {ca : Nat → ClassId} {sc : Scr} {Z : State → Prop} {y pc x nx : Nat} {ls : Array Slot} {rest : List Value} {hs : HS}
theorem wsO_push {e9 : mE} {u : Bool × Nat × Nat} : wsO B sa ca (mup hs.1 hs.2.1 e9, hs.2.1 + 1, u) = wsO B sa ca hs ++ [(B + hs.2.1, toE B sa ca e9)] := by
  unfold wsO
  show (List.range (hs.2.1 + 1)).map _ = _
  rw [List.range_succ, List.map_append]
  congr 1
  · apply List.map_congr_left
    intro i hi
    have h1 : ¬ i = hs.2.1 := by have := List.mem_range.mp hi; omega
    simp [mup, h1]
  · simp [mup]
theorem new_at {q : Nat} {H1 : Heap} {e9 : va_E} (hr : Rel D B sa ca s H locs cells hs) (hex : hs.2.2.1 = true) (h1 : va_P D mCl (wsO B sa ca hs ++ [(q, e9)]) H1) (h2 : va_D (fun q => B ≤ q) (wsO B sa ca hs ++ [(q, e9)])) (h3 : H1.size ≤ s.heap.size + (cells + 1)) : q = B + hs.2.1 := by
  have hlen : (wsO B sa ca hs).length = hs.2.1 := by simp [wsO]
  have hg : (wsO B sa ca hs ++ [(q, e9)])[hs.2.1]? = some (q, e9) := by
    rw [List.getElem?_append_right (by omega), hlen, Nat.sub_self]; rfl
  have hlt : q < H1.size := (h1 _ _ hg).lt
  have hge : B ≤ q := h2.2 _ _ hg
  have hx := hr.2.2 hex
  rcases Nat.lt_or_ge q (B + hs.2.1) with hq | hq
  · have hid : q - B < hs.2.1 := by omega
    have hg2 : (wsO B sa ca hs ++ [(q, e9)])[q - B]? = some (B + (q - B), toE B sa ca (hs.1 (q - B))) := by
      rw [List.getElem?_append_left (by rw [hlen]; exact hid)]
      exact wsO_get hid
    have := h2.1 _ _ _ _ hg hg2 (by show q = B + (q - B); omega)
    omega
  · omega
theorem cls_mem {u k : Nat} (h : clsT.any (fun q => q.1 == mOwn.getD y 99 && q.2.1 == u && q.2.2.1 == k) = true) : Cond.classLink (cnm (mOwn.getD y 99)) u (cnm k) ∈ mTbl := by
  obtain ⟨q, hq, h2⟩ := mem_any h
  simp only [Bool.and_eq_true, beq_iff_eq] at h2
  obtain ⟨⟨e2, e3⟩, e4⟩ := h2
  have h3 := okAt_mem (mem_all clsT_ok hq) rfl
  rw [e2, e3, e4] at h3
  exact h3
theorem sd_new (X : Cx p s m args meth c D B sa ca sc Z y) (hr : Rel D B sa ca s H locs cells hs) {k : Nat} (h : cd y pc = some (.new k, x, nx)) (hex : hs.2.2.1 = true) (hcl : cells + 1 ≤ R.cells) (hsl : slots + mNf.getD k 0 ≤ R.slots)
    (kk : ∀ H2, Rel D B sa ca s H2 locs (cells + 1) (mup hs.1 hs.2.1 (eO k (dflt k)), hs.2.1 + 1, true, hs.2.2.2.1 + 1, hs.2.2.2.2 + mNf.getD k 0) → W p l e R s m args below meth c H2 locs (cells + 1) (slots + mNf.getD k 0) Q (F0 m nx ls (.ref (B + hs.2.1) :: rest))) : W p l e R s m args below meth c H locs cells slots Q (F0 m pc ls rest) := by
  obtain ⟨r, n, hd, ho⟩ := dec_of h
  simp only [okR, Bool.and_eq_true, beq_iff_eq] at ho
  obtain ⟨e1, ho⟩ := ho
  subst e1
  split at ho
  · simp only [Bool.and_eq_true, beq_iff_eq, Nat.blt_eq] at ho
    obtain ⟨⟨rfl, hc⟩, h13⟩ := ho
    refine va_new X.1 X.2.1 X.2.2.2.2.1 (clsW h13) (tyXn k) (tyXn_ok h13) X.2.2.2.1 (X.2.2.2.2.1 _ (cls_mem hc)) (X.2.2.2.2.1 _ (insW h13).1) (X.2.2.2.2.1 _ (insW h13).2) X.2.2.2.2.2.1 hr.1 wsO_D hr.2.1 (fun q hq => Nat.le_trans X.2.2.2.2.2.2.1 hq) (mCl_get h13) (df_ok (B := B) (sa := sa)) hcl hsl hd (fun q H1 q1 q2 q3 => ?_)
    refine W.sized (fun hz => ?_)
    have eq := new_at hr hex q1 q2 hz
    subst eq
    refine kk H1 ⟨?_, q3, fun _ => ?_⟩
    · rw [wsO_push]
      exact q1
    · have := hr.2.2 hex
      show B + (hs.2.1 + 1) = s.heap.size + (cells + 1)
      omega
  · cases ho
theorem arrC_ok : Cond.arrayClass .int ∈ mTbl ∧ Cond.arrayClass .boolean ∈ mTbl ∧ Cond.arrayClass .long ∈ mTbl := ⟨List.mem_filter.mpr ⟨List.mem_append_right _ (by decide +kernel), rfl⟩, List.mem_filter.mpr ⟨List.mem_append_right _ (by decide +kernel), rfl⟩, List.mem_filter.mpr ⟨List.mem_append_right _ (by decide +kernel), rfl⟩⟩
def atN (t : ArrayType) : Nat := match t with | .int => 0 | .boolean => 1 | _ => 2
theorem sd_newarray (X : Cx p s m args meth c D B sa ca sc Z y) (hr : Rel D B sa ca s H locs cells hs) {t : ArrayType} {n : Int} (h : cd y pc = some (.newarray t, x, nx)) (hex : hs.2.2.1 = true) (hn : 0 ≤ n ∧ n ≤ 65536) (hcl : cells + 1 ≤ R.cells) (hsl : slots + n.toNat ≤ R.slots)
    (kk : ∀ H2, Rel D B sa ca s H2 locs (cells + 1) (mup hs.1 hs.2.1 (eA (atN t) n.toNat (fun _ => 0)), hs.2.1 + 1, true, hs.2.2.2.1 + 1, hs.2.2.2.2 + n.toNat) → W p l e R s m args below meth c H2 locs (cells + 1) (slots + n.toNat) Q (F0 m nx ls (.ref (B + hs.2.1) :: rest))) : W p l e R s m args below meth c H locs cells slots Q (F0 m pc ls (.int (Int32.ofInt n) :: rest)) := by
  obtain ⟨r, n9, hd, ho⟩ := dec_of h
  simp only [okR, Bool.and_eq_true, beq_iff_eq, Bool.or_eq_true, decide_eq_true_eq] at ho
  obtain ⟨rfl, ⟨rfl, rfl⟩, ht⟩ := ho
  have en := i32_id (a := n) ⟨by omega, by omega⟩
  have hn0 : ¬ Int32.ofInt n < 0 := fun q => by have q2 := Int32.lt_iff_toInt_lt.mp q; rw [en] at q2; have : (0 : Int32).toInt = 0 := rfl; omega
  have hn1 : (Int32.ofInt n).toNatClampNeg = n.toNat := Int32.toNatClampNeg_ofInt_of_le (by omega) (by omega)
  have hwhat : ∃ ty : FieldType, newarray.typeOf t = ty ∧ (tysO ca)[atN t]? = some (ca (atN t), ty) ∧ Cond.arrayClass ty ∈ mTbl ∧ componentBytes ty ≤ 8 ∧ (∀ cA : ClassId, vp_cell cA (n.toNat, toA (atN t) (fun _ => 0)) = arrV cA n.toNat (fun _ => defaultValue ty)) ∧ (∀ cA, va_RA s cA ty → va_RA s (ca (atN t)) ty → cA = ca (atN t)) := by
    rcases ht with (rfl | rfl) | rfl
    · exact ⟨.int, rfl, rfl, arrC_ok.1, by decide, fun cA => rfl, fun cA h1 h2 => Option.some.inj (h1.symm.trans h2)⟩
    · exact ⟨.boolean, rfl, rfl, arrC_ok.2.1, by decide, fun cA => rfl, fun cA h1 h2 => Option.some.inj (h1.symm.trans h2)⟩
    · exact ⟨.long, rfl, rfl, arrC_ok.2.2, by decide, fun cA => rfl, fun cA h1 h2 => Option.some.inj (h1.symm.trans h2)⟩
  obtain ⟨ty, hty, htt, hac, hcb, hcell, huni⟩ := hwhat
  have hbytes : n.toNat * componentBytes ty ≤ 536870912 := by
    have : n.toNat ≤ 65536 := by omega
    calc n.toNat * componentBytes ty ≤ 65536 * 8 := Nat.mul_le_mul this hcb
      _ ≤ 536870912 := by decide
  refine va_newa X.1 X.2.1 (by rw [hty]; exact X.2.2.2.2.1 _ hac) hty X.2.2.2.2.2.1 hr.1 wsO_D hr.2.1 (fun q hq => Nat.le_trans X.2.2.2.2.2.2.1 hq) (a0 := (n.toNat, toA (atN t) (fun _ => 0))) hcell hn0 hn1 hbytes hcl hsl hd (fun q cA H1 q0 q1 q2 q3 => ?_)
  refine W.sized (fun hz => ?_)
  have eq := new_at hr hex q1 q2 hz
  subst eq
  have h5 : (tysO ca ++ [(cA, ty)])[5]? = some (cA, ty) := rfl
  have eA1 := huni cA (q0.2 5 _ h5).2 (X.2.2.2.2.2.1.2 _ _ htt).2
  subst eA1
  refine kk H1 ⟨?_, q3, fun _ => ?_⟩
  · rw [wsO_push]
    exact q1
  · have := hr.2.2 hex
    show B + (hs.2.1 + 1) = s.heap.size + (cells + 1)
    omega
end Sd5
