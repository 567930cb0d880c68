/-! rows, new cells, arraycopy -/
section Sd4
variable {p : Program} {l : Launch} {e : Env} {R : Room} {s : State} {m : MethodId} {args : Array Value} {below : List Frame} {meth : Method} {c : Code} {H : Heap} {locs : List Loc} {cells slots : Nat} {Q : State → Prop} {D : va_G} {B : Nat} {sa : Nat → Nat} {ca : Nat → ClassId} {sc : Scr} {Z : State → Prop} {y pc x nx : Nat} {ls : Array Slot} {rest : List Value} {hs : HS}
theorem sd_iaload (X : Cx p s m args meth c D B sa ca sc Z y) (hr : Rel D B sa ca s H locs cells hs) {a : Nat} {i z : Int} (h : cd y pc = some (.iaload, x, nx)) (hz : rdA hs 0 a i = some z)
    (kk : W p l e R s m args below meth c H locs cells slots Q (F0 m nx ls (.int (Int32.ofInt z) :: rest))) : W p l e R s m args below meth c H locs cells slots Q (F0 m pc ls (.int (Int32.ofInt i) :: .ref (B + a) :: rest)) := by
  obtain ⟨hd, rfl⟩ := sd_one h (fun r n => rfl)
  obtain ⟨n, f, ha, he, h0, h1, h2, rfl⟩ := rdA_spec hz
  have hg := wsO_get (B := B) (sa := sa) (ca := ca) ha
  rw [he] at hg
  refine va_iald X.1 X.2.1 X.2.2.2.2.2.1 hr.1 a 0 (f := fun j => Int32.ofInt (f j)) hg rfl (ix_in h0 h1 h2) hd ?_
  rw [ix_nat h0 h1 h2]
  exact kk
theorem sd_baload (X : Cx p s m args meth c D B sa ca sc Z y) (hr : Rel D B sa ca s H locs cells hs) {a : Nat} {i z : Int} (h : cd y pc = some (.baload, x, nx)) (hz : rdA hs 1 a i = some z)
    (kk : W p l e R s m args below meth c H locs cells slots Q (F0 m nx ls (.int (Int32.ofInt z) :: rest))) : W p l e R s m args below meth c H locs cells slots Q (F0 m pc ls (.int (Int32.ofInt i) :: .ref (B + a) :: rest)) := by
  obtain ⟨hd, rfl⟩ := sd_one h (fun r n => rfl)
  obtain ⟨n, f, ha, he, h0, h1, h2, rfl⟩ := rdA_spec hz
  have hg := wsO_get (B := B) (sa := sa) (ca := ca) ha
  rw [he] at hg
  refine va_zald X.1 X.2.1 X.2.2.2.2.2.1 hr.1 a 1 (f := fun j => Int32.ofInt (f j)) hg rfl (ix_in h0 h1 h2) hd ?_
  rw [ix_nat h0 h1 h2]
  exact kk
theorem sd_laload (X : Cx p s m args meth c D B sa ca sc Z y) (hr : Rel D B sa ca s H locs cells hs) {a : Nat} {i z : Int} (h : cd y pc = some (.laload, x, nx)) (hz : rdA hs 2 a i = some z)
    (kk : W p l e R s m args below meth c H locs cells slots Q (F0 m nx ls (.long (Int64.ofInt z) :: rest))) : W p l e R s m args below meth c H locs cells slots Q (F0 m pc ls (.int (Int32.ofInt i) :: .ref (B + a) :: rest)) := by
  obtain ⟨hd, rfl⟩ := sd_one h (fun r n => rfl)
  obtain ⟨n, f, ha, he, h0, h1, h2, rfl⟩ := rdA_spec hz
  have hg := wsO_get (B := B) (sa := sa) (ca := ca) ha
  rw [he] at hg
  refine va_lald X.1 X.2.1 X.2.2.2.2.2.1 hr.1 a 2 (f := fun j => Int64.ofInt (f j)) hg rfl (ix_in h0 h1 h2) hd ?_
  rw [ix_nat h0 h1 h2]
  exact kk
theorem up_i {f : Nat → Int} {k : Nat} {z : Int} : upd (fun j => Int32.ofInt (f j)) k (Int32.ofInt z) = fun j => Int32.ofInt (mup f k z j) := by
  funext j
  unfold upd mup
  split <;> rfl
theorem up_l {f : Nat → Int} {k : Nat} {z : Int} : vp_updL (fun j => Int64.ofInt (f j)) k (Int64.ofInt z) = fun j => Int64.ofInt (mup f k z j) := by
  funext j
  unfold vp_updL mup
  split <;> rfl
theorem sd_iastore (X : Cx p s m args meth c D B sa ca sc Z y) (hr : Rel D B sa ca s H locs cells hs) {a : Nat} {i z : Int} {h2 : HS} (h : cd y pc = some (.iastore, x, nx)) (hz : wrA hs 0 a i z = some h2)
    (kk : ∀ H2 locs2, Rel D B sa ca s H2 locs2 cells h2 → W p l e R s m args below meth c H2 locs2 cells slots Q (F0 m nx ls rest)) : W p l e R s m args below meth c H locs cells slots Q (F0 m pc ls (.int (Int32.ofInt z) :: .int (Int32.ofInt i) :: .ref (B + a) :: rest)) := by
  obtain ⟨hd, rfl⟩ := sd_one h (fun r n => rfl)
  obtain ⟨n, f, ha, he, h0, h1, h3, rfl⟩ := wrA_spec hz
  have hg := wsO_get (B := B) (sa := sa) (ca := ca) ha
  rw [he] at hg
  refine va_iast X.1 X.2.1 X.2.2.2.2.2.1 hr.1 wsO_D hr.2.1 a 0 (f := fun j => Int32.ofInt (f j)) hg rfl (ix_in h0 h1 h3) hd (fun H1 locs1 q1 _ q3 => ?_)
  rw [ix_nat h0 h1 h3, up_i] at q1
  exact kk H1 locs1 (hr.put ha q1 q3)
theorem sd_bastore (X : Cx p s m args meth c D B sa ca sc Z y) (hr : Rel D B sa ca s H locs cells hs) {a : Nat} {i z : Int} {h2 : HS} (h : cd y pc = some (.bastore, x, nx)) (hv : z = 0 ∨ z = 1) (hz : wrA hs 1 a i z = some h2)
    (kk : ∀ H2 locs2, Rel D B sa ca s H2 locs2 cells h2 → W p l e R s m args below meth c H2 locs2 cells slots Q (F0 m nx ls rest)) : W p l e R s m args below meth c H locs cells slots Q (F0 m pc ls (.int (Int32.ofInt z) :: .int (Int32.ofInt i) :: .ref (B + a) :: rest)) := by
  obtain ⟨hd, rfl⟩ := sd_one h (fun r n => rfl)
  obtain ⟨n, f, ha, he, h0, h1, h3, rfl⟩ := wrA_spec hz
  have hg := wsO_get (B := B) (sa := sa) (ca := ca) ha
  rw [he] at hg
  refine va_zast X.1 X.2.1 X.2.2.2.2.2.1 hr.1 wsO_D hr.2.1 a 1 (f := fun j => Int32.ofInt (f j)) hg rfl (ix_in h0 h1 h3) hd (fun H1 locs1 q1 _ q3 => ?_)
  have hb : vp_nar .boolean (Int32.ofInt z) = Int32.ofInt z := by rcases hv with rfl | rfl <;> decide
  rw [ix_nat h0 h1 h3, hb, up_i] at q1
  exact kk H1 locs1 (hr.put ha q1 q3)
theorem sd_lastore (X : Cx p s m args meth c D B sa ca sc Z y) (hr : Rel D B sa ca s H locs cells hs) {a : Nat} {i z : Int} {h2 : HS} (h : cd y pc = some (.lastore, x, nx)) (hz : wrA hs 2 a i z = some h2)
    (kk : ∀ H2 locs2, Rel D B sa ca s H2 locs2 cells h2 → W p l e R s m args below meth c H2 locs2 cells slots Q (F0 m nx ls rest)) : W p l e R s m args below meth c H locs cells slots Q (F0 m pc ls (.long (Int64.ofInt z) :: .int (Int32.ofInt i) :: .ref (B + a) :: rest)) := by
  obtain ⟨hd, rfl⟩ := sd_one h (fun r n => rfl)
  obtain ⟨n, f, ha, he, h0, h1, h3, rfl⟩ := wrA_spec hz
  have hg := wsO_get (B := B) (sa := sa) (ca := ca) ha
  rw [he] at hg
  refine va_last X.1 X.2.1 X.2.2.2.2.2.1 hr.1 wsO_D hr.2.1 a 2 (f := fun j => Int64.ofInt (f j)) hg rfl (ix_in h0 h1 h3) hd (fun H1 locs1 q1 _ q3 => ?_)
  rw [ix_nat h0 h1 h3, up_l] at q1
  exact kk H1 locs1 (hr.put ha q1 q3)
/-- the classes whose rows of references there are -/
theorem ref_ty {k : Nat} (h : k = 3 ∨ k = 8) : ∃ t0 : Nat, (tysO ca)[t0]? = some (ca (10 + k), FieldType.object (cnm k)) := by
  rcases h with rfl | rfl
  · exact ⟨3, rfl⟩
  · exact ⟨4, rfl⟩
theorem mv_rf {o : Option Nat} : va_rf (o.map (fun a => B + a)) = mv B sa (.inr (.inr (.inl o))) := by cases o <;> rfl
theorem sd_aaload (X : Cx p s m args meth c D B sa ca sc Z y) (hr : Rel D B sa ca s H locs cells hs) {a k n : Nat} {i : Int} {f : Nat → Option Nat} (h : cd y pc = some (.aaload, x, nx)) (ha : a < hs.2.1) (he : hs.1 a = .inr (.inl (k, n, f))) (hk : k = 3 ∨ k = 8) (h0 : 0 ≤ i) (h1 : i < n) (h2 : n < 2147483648)
    (kk : W p l e R s m args below meth c H locs cells slots Q (F0 m nx ls (mv B sa (.inr (.inr (.inl (f i.toNat)))) :: rest))) : W p l e R s m args below meth c H locs cells slots Q (F0 m pc ls (.int (Int32.ofInt i) :: .ref (B + a) :: rest)) := by
  obtain ⟨hd, rfl⟩ := sd_one h (fun r n => rfl)
  have hg := wsO_get (B := B) (sa := sa) (ca := ca) ha
  rw [he] at hg
  obtain ⟨t0, ht⟩ := ref_ty (ca := ca) hk
  refine va_aldq X.1 X.2.1 X.2.2.2.2.2.1 hr.1 a t0 (f := fun j => (f j).map (fun a => B + a)) hg ht (ix_in h0 h1 h2) hd ?_
  rw [ix_nat h0 h1 h2, mv_rf]
  exact kk
theorem isObj_spec {k : Nat} {q : Nat} (h : isObj hs k (vR q) = true) : ∃ F, q < hs.2.1 ∧ hs.1 q = .inr (.inr (k, F)) := by
  have h0 : (match hget hs q with | some (.inr (.inr (c2, _))) => c2 == k | _ => false) = true := h
  split at h0
  · rename_i c2 F hg
    obtain ⟨h1, h2⟩ := hget_spec hg
    have e2 : c2 = k := by simpa using h0
    subst e2
    exact ⟨F, h1, h2⟩
  · cases h0
theorem sd_aastore (X : Cx p s m args meth c D B sa ca sc Z y) (hr : Rel D B sa ca s H locs cells hs) {a k n q : Nat} {i : Int} {f : Nat → Option Nat} (h : cd y pc = some (.aastore, x, nx)) (ha : a < hs.2.1) (he : hs.1 a = .inr (.inl (k, n, f))) (hk : k = 3 ∨ k = 8) (h0 : 0 ≤ i) (h1 : i < n) (h2 : n < 2147483648) (hq : isObj hs k (vR q) = true)
    (kk : ∀ H2 locs2, Rel D B sa ca s H2 locs2 cells (hput hs a (eR k n (mup f i.toNat (some q)))) → W p l e R s m args below meth c H2 locs2 cells slots Q (F0 m nx ls rest)) : W p l e R s m args below meth c H locs cells slots Q (F0 m pc ls (.ref (B + q) :: .int (Int32.ofInt i) :: .ref (B + a) :: rest)) := by
  obtain ⟨hd, rfl⟩ := sd_one h (fun r n => rfl)
  have hg := wsO_get (B := B) (sa := sa) (ca := ca) ha
  rw [he] at hg
  obtain ⟨F, hq1, hq2⟩ := isObj_spec hq
  have hg2 := wsO_get (B := B) (sa := sa) (ca := ca) hq1
  rw [hq2] at hg2
  obtain ⟨t0, ht⟩ := ref_ty (ca := ca) hk
  have h13 : k < 13 := by omega
  refine va_astq X.1 X.2.1 X.2.2.2.2.2.1 hr.1 wsO_D hr.2.1 a t0 q k (r := (cnm k, TXn k, mNf.getD k 0)) (f := fun j => (f j).map (fun a => B + a)) hg ht hg2 (mCl_get h13) (ix_in h0 h1 h2) hd (fun H1 locs1 q1 _ q3 => ?_)
  have e3 : va_up (fun j => (f j).map (fun a => B + a)) i.toNat (some (B + q)) = fun j => (mup f i.toNat (some q) j).map (fun a => B + a) := by
    funext j
    unfold va_up mup
    split <;> rfl
  rw [ix_nat h0 h1 h2, e3] at q1
  exact kk H1 locs1 (hr.put ha q1 q3)
theorem sd_alen (X : Cx p s m args meth c D B sa ca sc Z y) (hr : Rel D B sa ca s H locs cells hs) {a ty n : Nat} {f : Nat → Int} (h : cd y pc = some (.arraylength, x, nx)) (ha : a < hs.2.1) (he : hs.1 a = .inl (ty, n, f)) (hty : ty < 3)
    (kk : W p l e R s m args below meth c H locs cells slots Q (F0 m nx ls (.int (Int32.ofInt n) :: rest))) : W p l e R s m args below meth c H locs cells slots Q (F0 m pc ls (.ref (B + a) :: rest)) := by
  obtain ⟨hd, rfl⟩ := sd_one h (fun r n => rfl)
  have hg := wsO_get (B := B) (sa := sa) (ca := ca) ha
  rw [he] at hg
  have ht : ∃ t, (tysO ca)[ty]? = some (ca ty, t) := by
    rcases (show ty = 0 ∨ ty = 1 ∨ ty = 2 by omega) with rfl | rfl | rfl <;> exact ⟨_, rfl⟩
  obtain ⟨t, ht⟩ := ht
  exact va_alen X.1 X.2.1 X.2.2.2.2.2.1 hr.1 a ty hg ht (v := Int32.ofInt n) (Int32.ofInt_eq_ofNat).symm hd kk
theorem sd_sld (X : Cx p s m args meth c D B sa ca sc Z y) (hr : Rel D B sa ca s H locs cells hs) {i : Int} (h : cd y pc = some (.iaload, x, nx)) (h0 : 0 ≤ i) (h1 : i < sc.1) (h2 : sc.1 < 2147483648)
    (kk : W p l e R s m args below meth c H locs cells slots Q (F0 m nx ls (.int (Int32.ofInt (sc.2 i.toNat)) :: rest))) : W p l e R s m args below meth c H locs cells slots Q (F0 m pc ls (.int (Int32.ofInt i) :: .ref (sa 9) :: rest)) := by
  obtain ⟨hd, rfl⟩ := sd_one h (fun r n => rfl)
  obtain ⟨hX, hb⟩ := X.2.2.2.2.2.2.2.2.1
  refine va_sld X.1 X.2.1 hX (Nat.lt_of_lt_of_le hb X.2.2.2.2.2.2.1) (by show ¬ B ≤ sa 9; omega) hr.2.1 (ix_in h0 h1 h2) hd ?_
  rw [ix_nat h0 h1 h2]
  exact kk
theorem sd_slen (X : Cx p s m args meth c D B sa ca sc Z y) (hr : Rel D B sa ca s H locs cells hs) (h : cd y pc = some (.arraylength, x, nx))
    (kk : W p l e R s m args below meth c H locs cells slots Q (F0 m nx ls (.int (Int32.ofInt sc.1) :: rest))) : W p l e R s m args below meth c H locs cells slots Q (F0 m pc ls (.ref (sa 9) :: rest)) := by
  obtain ⟨hd, rfl⟩ := sd_one h (fun r n => rfl)
  obtain ⟨hX, hb⟩ := X.2.2.2.2.2.2.2.2.1
  refine va_slen X.1 X.2.1 hX (Nat.lt_of_lt_of_le hb X.2.2.2.2.2.2.1) (by show ¬ B ≤ sa 9; omega) hr.2.1 hd ?_
  rw [← Int32.ofInt_eq_ofNat]
  exact kk
end Sd4
