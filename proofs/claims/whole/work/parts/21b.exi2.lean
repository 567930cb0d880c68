/-! runs, further instructions -/
section Exj
variable {sc : Scr} {d y pc x nx : Nat} {lv : LV} {st : List V} {hs : HS} {Q : Rs → HS → Prop}
/-- the length of a row of numbers -/
def La (hs : HS) (a : Nat) (f : Int → Prop) : Prop := match hget hs a with
  | some (.inl (ty, n, _)) => if ty < 3 ∧ n < 2147483648 then f n else False
  | _ => False
theorem e_alen {a : Nat} (h : cd y pc = some (.arraylength, x, nx)) : Ex sc d y pc lv (vR a :: st) hs Q ↔ La hs a (fun z => Ex sc d y nx lv (vI z :: st) hs Q) := by
  unfold La
  cases hg : hget hs a with
  | none => exact ex_none (by unfold stp; rw [h]; dsimp only; rw [hg])
  | some e9 =>
    rcases e9 with ⟨ty, n, f⟩ | e9 | e9
    · dsimp only
      by_cases hc : ty < 3 ∧ n < 2147483648
      · rw [if_pos hc]
        exact ex_step (by unfold stp; rw [h]; dsimp only; rw [hg]; dsimp only; rw [if_pos hc])
      · rw [if_neg hc]
        exact ex_none (by unfold stp; rw [h]; dsimp only; rw [hg]; dsimp only; rw [if_neg hc])
    · exact ex_none (by unfold stp; rw [h]; dsimp only; rw [hg])
    · exact ex_none (by unfold stp; rw [h]; dsimp only; rw [hg])
theorem e_alenS (h : cd y pc = some (.arraylength, x, nx)) (hn : sc.1 < 2147483648) : Ex sc d y pc lv (vS 9 :: st) hs Q ↔ Ex sc d y nx lv (vI sc.1 :: st) hs Q := ex_step (by unfold stp; rw [h]; exact if_pos hn)
theorem e_ialdS {i : Int} (h : cd y pc = some (.iaload, x, nx)) (hq : 0 ≤ i ∧ i < (sc.1 : Int) ∧ sc.1 < 2147483648) : Ex sc d y pc lv (vI i :: vS 9 :: st) hs Q ↔ Ex sc d y nx lv (vI (sc.2 i.toNat) :: st) hs Q := ex_step (by unfold stp; rw [h]; exact if_pos hq)
/-- a read of a row of references -/
def Rr (hs : HS) (a : Nat) (i : Int) (f : V → Prop) : Prop := match hget hs a with
  | some (.inr (.inl (c, n, g))) => if (c = 3 ∨ c = 8) ∧ 0 ≤ i ∧ i < (n : Int) ∧ n < 2147483648 then f (.inr (.inr (.inl (g i.toNat)))) else False
  | _ => False
theorem e_aald {a : Nat} {i : Int} (h : cd y pc = some (.aaload, x, nx)) : Ex sc d y pc lv (vI i :: vR a :: st) hs Q ↔ Rr hs a i (fun v => Ex sc d y nx lv (v :: st) hs Q) := by
  unfold Rr
  cases hg : hget hs a with
  | none => exact ex_none (by unfold stp; rw [h]; dsimp only; rw [hg])
  | some e9 =>
    rcases e9 with e9 | ⟨c, n, f⟩ | e9
    · exact ex_none (by unfold stp; rw [h]; dsimp only; rw [hg])
    · dsimp only
      by_cases hc : (c = 3 ∨ c = 8) ∧ 0 ≤ i ∧ i < (n : Int) ∧ n < 2147483648
      · rw [if_pos hc]
        exact ex_step (by unfold stp; rw [h]; dsimp only; rw [hg]; dsimp only; rw [if_pos hc])
      · rw [if_neg hc]
        exact ex_none (by unfold stp; rw [h]; dsimp only; rw [hg]; dsimp only; rw [if_neg hc])
    · exact ex_none (by unfold stp; rw [h]; dsimp only; rw [hg])
theorem Rr_w {σ : St} {u : Bool × Nat × Nat × Int} {a c n r : Nat} {i : Int} {w : List (Nat × Nat)} {f : V → Prop} (hs : shp a = (1, c, n, w)) (ha : a < NW) (hc : c = 3 ∨ c = 8) (hn : n < 2147483648) (h0 : 0 ≤ i) (h1 : i < n) (hr : lk2 w i.toNat = some r) : Rr (wH σ u) a i f = f (vR r) := by
  unfold Rr
  rw [hget_w ha, hs]
  show (if (c = 3 ∨ c = 8) ∧ 0 ≤ i ∧ i < (n : Int) ∧ n < 2147483648 then f (.inr (.inr (.inl (lk2 w i.toNat)))) else False) = _
  rw [if_pos ⟨hc, h0, h1, hn⟩, hr]
/-- a copy of numbers -/
def Cp (hs : HS) (b : Nat) (sp : Int) (a : Nat) (dp n : Int) (f : HS → Prop) : Prop := match hget hs b, hget hs a with
  | some (.inl (t1, n1, f1)), some (.inl (t2, n2, f2)) => if t1 = 0 ∧ t2 = 0 ∧ 0 ≤ n ∧ 0 ≤ dp ∧ 0 ≤ sp ∧ sp + n ≤ n1 ∧ dp + n ≤ n2 ∧ n1 < 2147483648 ∧ n2 < 2147483648 then f (hput hs a (eA 0 n2 (va_cpy f1 f2 sp.toNat dp.toNat n.toNat))) else False
  | _, _ => False
theorem e_copy {a b : Nat} {sp dp n : Int} (h : cd y pc = some (.nop, x, nx)) (hk : catS st ≤ 8) : Ex sc d y pc lv (vI n :: vI dp :: vR a :: vI sp :: vR b :: st) hs Q ↔ Cp hs b sp a dp n (fun h2 => Ex sc d y nx lv st h2 Q) := by
  unfold Cp
  cases hg : hget hs b with
  | none => exact ex_none (by unfold stp; rw [h]; dsimp only; rw [hg])
  | some e8 =>
    cases hg2 : hget hs a with
    | none =>
      rcases e8 with ⟨t1, n1, f1⟩ | e8 | e8 <;> exact ex_none (by unfold stp; rw [h]; dsimp only; rw [hg, hg2])
    | some e9 =>
      rcases e8 with ⟨t1, n1, f1⟩ | e8 | e8
      · rcases e9 with ⟨t2, n2, f2⟩ | e9 | e9
        · dsimp only
          by_cases hc : t1 = 0 ∧ t2 = 0 ∧ 0 ≤ n ∧ 0 ≤ dp ∧ 0 ≤ sp ∧ sp + n ≤ n1 ∧ dp + n ≤ n2 ∧ n1 < 2147483648 ∧ n2 < 2147483648
          · rw [if_pos hc]
            obtain ⟨c1, c2, c3, c4, c5, c6, c7, c8, c9⟩ := hc
            exact ex_step (by unfold stp; rw [h]; dsimp only; rw [hg, hg2]; dsimp only; rw [if_pos ⟨c1, c2, c3, c4, c5, c6, c7, c8, c9, hk⟩])
          · rw [if_neg hc]
            exact ex_none (by unfold stp; rw [h]; dsimp only; rw [hg, hg2]; dsimp only; rw [if_neg (fun z => hc ⟨z.1, z.2.1, z.2.2.1, z.2.2.2.1, z.2.2.2.2.1, z.2.2.2.2.2.1, z.2.2.2.2.2.2.1, z.2.2.2.2.2.2.2.1, z.2.2.2.2.2.2.2.2.1⟩)])
        · exact ex_none (by unfold stp; rw [h]; dsimp only; rw [hg, hg2])
        · exact ex_none (by unfold stp; rw [h]; dsimp only; rw [hg, hg2])
      · exact ex_none (by unfold stp; rw [h]; dsimp only; rw [hg, hg2])
      · exact ex_none (by unfold stp; rw [h]; dsimp only; rw [hg, hg2])
/-- numbers copied -/
def scp (σ : St) (b : Nat) (sp : Int) (a : Nat) (dp n : Int) : St := fun c => if c = a then (fun j => if dp ≤ j ∧ j < dp + n then σ b (j - dp + sp) else σ a j) else σ c
theorem Cp_w {σ : St} {u : Bool × Nat × Nat × Int} {a b n1 n2 : Nat} {sp dp n : Int} {f : HS → Prop} (h1 : shp b = (0, 0, n1, [])) (h2 : shp a = (0, 0, n2, [])) (hb : b < NW) (ha : a < NW) (m1 : n1 < 2147483648) (m2 : n2 < 2147483648) (hn : 0 ≤ n) (hd : 0 ≤ dp) (hs : 0 ≤ sp) (k1 : sp + n ≤ n1) (k2 : dp + n ≤ n2) : Cp (wH σ u) b sp a dp n f = f (wH (scp σ b sp a dp n) u) := by
  unfold Cp
  rw [hget_w hb, hget_w ha, h1, h2, wcE_A, wcE_A]
  dsimp only
  rw [if_pos ⟨rfl, rfl, hn, hd, hs, k1, k2, m1, m2⟩]
  congr 1
  unfold hput wH
  congr 1
  funext id
  unfold mup
  by_cases hb : id = a
  · subst hb
    rw [if_pos rfl, h2, ov_ne ha]
    unfold scp
    rw [if_pos rfl, wcE_A]
    congr 3
    funext j
    unfold va_cpy
    by_cases hj : dp ≤ (j : Int) ∧ (j : Int) < dp + n
    · rw [if_pos hj, if_pos (by omega)]
      show σ b ((sp.toNat + (j - dp.toNat) : Nat) : Int) = σ b ((j : Int) - dp + sp)
      congr 1
      omega
    · rw [if_neg hj, if_neg (by omega)]
  · rw [if_neg hb]
    exact congrArg (wcE (shp id)) (ov_ext (by unfold scp; rw [if_neg hb]))
theorem La_w {σ : St} {u : Bool × Nat × Nat × Int} {ty a n : Nat} {f : Int → Prop} (hs : shp a = (0, ty, n, [])) (ha : a < NW) (ht : ty < 3) (hn : n < 2147483648) : La (wH σ u) a f = f n := by
  unfold La
  rw [hget_w ha, hs, wcE_A]
  dsimp only
  rw [if_pos ⟨ht, hn⟩]
theorem e_tsw {a df lo hi : Int} {offs : Array Int} (h : cd y pc = some (.tableswitch df lo hi offs, x, nx)) (ha : inR a) : Ex sc d y pc lv (vI a :: st) hs Q ↔ if a < lo ∨ hi < a then Ex sc d y ((pc : Int) + df).toNat lv st hs Q else (match offs[(a - lo).toNat]? with | some o => Ex sc d y ((pc : Int) + o).toNat lv st hs Q | none => False) := by
  by_cases hq : a < lo ∨ hi < a
  · rw [if_pos hq]
    exact ex_step (by unfold stp; rw [h]; dsimp only; rw [if_pos ha, if_pos hq])
  · rw [if_neg hq]
    cases ho : offs[(a - lo).toNat]? with
    | some o => exact ex_step (by unfold stp; rw [h]; dsimp only; rw [if_pos ha, if_neg hq, ho])
    | none => exact ex_none (by unfold stp; rw [h]; dsimp only; rw [if_pos ha, if_neg hq, ho])
theorem e_lsw {a df : Int} {ps : Array (Int × Int)} (h : cd y pc = some (.lookupswitch df ps, x, nx)) (ha : inR a) : Ex sc d y pc lv (vI a :: st) hs Q ↔ Ex sc d y ((pc : Int) + Op.lookupswitch.offset ps.toList df a).toNat lv st hs Q :=
  ex_step (by unfold stp; rw [h]; dsimp only; rw [if_pos ha])
theorem e_lshl {a b : Int} (h : cd y pc = some (.lshl, x, nx)) : Ex sc d y pc lv (vI b :: vL a :: st) hs Q ↔ Ex sc d y nx lv (vL (Int64.ofInt a <<< ((Int32.ofInt b).toInt64 &&& 63)).toInt :: st) hs Q := ex_step (by unfold stp; rw [h])
theorem e_lor {a b : Int} (h : cd y pc = some (.lor, x, nx)) : Ex sc d y pc lv (vL b :: vL a :: st) hs Q ↔ Ex sc d y nx lv (vL (Int64.ofInt a ||| Int64.ofInt b).toInt :: st) hs Q := ex_step (by unfold stp; rw [h])
theorem e_slen {i : Nat} (h : cd y pc = some (.aconst_null, x, nx)) (hi : i < 4) (hk : catS st ≤ 8) : Ex sc d y pc lv (vS i :: st) hs Q ↔ Ex sc d y nx lv (vI (txLen i) :: st) hs Q := ex_step (by unfold stp; rw [h]; dsimp only; rw [if_pos ⟨hi, hk⟩])
theorem e_sch {i : Nat} {j : Int} (h : cd y pc = some (.caload, x, nx)) (hi : i < 4) (h0 : 0 ≤ j) (h1 : j < txLen i) (hk : catS st ≤ 8) : Ex sc d y pc lv (vI j :: vS i :: st) hs Q ↔ Ex sc d y nx lv (vI (txAt i j.toNat) :: st) hs Q := ex_step (by unfold stp; rw [h]; dsimp only; rw [if_pos ⟨hi, h0, h1, hk⟩])
theorem e_thr {k : Nat} (h : cd y pc = some (.athrow, k, nx)) (hk : catS st ≤ 8) : Ex sc d y pc lv st hs Q ↔ Q (.inr k) (hs.1, hs.2.1, false, hs.2.2.2.1 + 1, hs.2.2.2.2 + 6) := ex_end (by unfold stp; rw [h]; dsimp only; rw [if_pos hk])
theorem e_ifw {c : ClassFile.Cond} {o a : Int} (h : cd y pc = some (.ifCond c o, x, nx)) : Ex sc d y pc lv (vI a :: st) hs Q ↔ if cmpI c (wI a) 0 = true then Ex sc d y x lv st hs Q else Ex sc d y nx lv st hs Q := by
  rw [ex_step (pc2 := if cmpI c (wI a) 0 then x else nx) (lv2 := lv) (st2 := st) (hs2 := hs) (by unfold stp; rw [h])]
  split <;> rfl
theorem e_icmpw {c : ClassFile.Cond} {o a b : Int} (h : cd y pc = some (.if_icmp c o, x, nx)) : Ex sc d y pc lv (vI b :: vI a :: st) hs Q ↔ if cmpI c (wI a) (wI b) = true then Ex sc d y x lv st hs Q else Ex sc d y nx lv st hs Q := by
  rw [ex_step (pc2 := if cmpI c (wI a) (wI b) then x else nx) (lv2 := lv) (st2 := st) (hs2 := hs) (by unfold stp; rw [h])]
  split <;> rfl
end Exj
section Suu
variable {σ : St} {a b : Nat} {i j x : Int}
theorem su_ne (h : b ≠ a) : su σ a i x b = σ b := by unfold su; rw [if_neg h]
theorem su_at : su σ a i x a j = if j = i then x else σ a j := by unfold su iup; rw [if_pos rfl]
theorem su_eq : su σ a i x a i = x := by rw [su_at, if_pos rfl]
theorem su_off (h : j ≠ i) : su σ a i x a j = σ a j := by rw [su_at, if_neg h]
theorem scp_ne {c : Nat} {sp dp n : Int} (h : c ≠ a) : scp σ b sp a dp n c = σ c := by unfold scp; rw [if_neg h]
theorem scp_at {sp dp n : Int} : scp σ b sp a dp n a j = if dp ≤ j ∧ j < dp + n then σ b (j - dp + sp) else σ a j := by unfold scp; rw [if_pos rfl]
end Suu
def notL : Option V → Bool
  | some (.inr (.inl _)) => false
  | _ => true
theorem noL_of {l : LV} {j : Nat} {v : Option V} (h : l[j]? = some v) (hv : notL v = true) : noL l (j + 1) = true := by
  unfold noL
  dsimp only
  rw [h]
  rcases v with _ | (a | a | (_ | a) | i)
  · rfl
  · rfl
  · cases hv
  · rfl
  · rfl
  · rfl
theorem notL_I {a : Int} : notL (some (vI a)) = true := rfl
theorem notL_R {a : Nat} : notL (some (vR a)) = true := rfl
theorem notL_S {a : Nat} : notL (some (vS a)) = true := rfl
theorem notL_N : notL none = true := rfl
