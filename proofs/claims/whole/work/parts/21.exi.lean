/-! runs, instruction by instruction -/
section Exi
variable {sc : Scr} {d y pc x nx : Nat} {lv : LV} {st : List V} {hs : HS} {Q : Rs → HS → Prop}
theorem e_iconst {v : Int} (h : cd y pc = some (.iconst v, x, nx)) : Ex sc d y pc lv st hs Q ↔ Ex sc d y nx lv (vI v :: st) hs Q := ex_step (by unfold stp; rw [h])
theorem e_lconst {v : Int} (h : cd y pc = some (.bipush v, x, nx)) : Ex sc d y pc lv st hs Q ↔ Ex sc d y nx lv (vL v :: st) hs Q := ex_step (by unfold stp; rw [h])
theorem e_str {v : Int} (h : cd y pc = some (.sipush v, x, nx)) (hv : 0 ≤ v ∧ v < 4) : Ex sc d y pc lv st hs Q ↔ Ex sc d y nx lv (vS v.toNat :: st) hs Q := ex_step (by unfold stp; rw [h]; dsimp only; rw [if_pos hv])
theorem e_iload {k : Nat} {a : Int} (h : cd y pc = some (.iload k, x, nx)) (hk : lv[k]? = some (some (vI a))) : Ex sc d y pc lv st hs Q ↔ Ex sc d y nx lv (vI a :: st) hs Q := ex_step (by unfold stp; rw [h]; dsimp only; rw [hk])
theorem e_lload {k : Nat} {a : Int} (h : cd y pc = some (.lload k, x, nx)) (hk : lv[k]? = some (some (vL a))) : Ex sc d y pc lv st hs Q ↔ Ex sc d y nx lv (vL a :: st) hs Q := ex_step (by unfold stp; rw [h]; dsimp only; rw [hk])
theorem e_aload {k a : Nat} (h : cd y pc = some (.aload k, x, nx)) (hk : lv[k]? = some (some (vR a))) : Ex sc d y pc lv st hs Q ↔ Ex sc d y nx lv (vR a :: st) hs Q := ex_step (by unfold stp; rw [h]; dsimp only; rw [hk])
theorem e_aloadS {k a : Nat} (h : cd y pc = some (.aload k, x, nx)) (hk : lv[k]? = some (some (vS a))) : Ex sc d y pc lv st hs Q ↔ Ex sc d y nx lv (vS a :: st) hs Q := ex_step (by unfold stp; rw [h]; dsimp only; rw [hk])
theorem e_istore {k : Nat} {a : Int} {lv2 : LV} (h : cd y pc = some (.istore k, x, nx)) (hk : k < lv.length) (hn : noL lv k = true) (hl : lv.set k (some (vI a)) = lv2) : Ex sc d y pc lv (vI a :: st) hs Q ↔ Ex sc d y nx lv2 st hs Q := ex_step (by unfold stp; rw [h]; dsimp only; rw [if_pos ⟨hk, hn⟩, hl])
theorem e_lstore {k : Nat} {a : Int} {lv2 : LV} (h : cd y pc = some (.lstore k, x, nx)) (hk : k + 1 < lv.length) (hn : noL lv k = true) (hl : (lv.set k (some (vL a))).set (k + 1) none = lv2) : Ex sc d y pc lv (vL a :: st) hs Q ↔ Ex sc d y nx lv2 st hs Q := ex_step (by unfold stp; rw [h]; dsimp only; rw [if_pos ⟨hk, hn⟩, hl])
theorem e_astore {k a : Nat} {lv2 : LV} (h : cd y pc = some (.astore k, x, nx)) (hk : k < lv.length) (hn : noL lv k = true) (hl : lv.set k (some (vR a)) = lv2) : Ex sc d y pc lv (vR a :: st) hs Q ↔ Ex sc d y nx lv2 st hs Q := ex_step (by unfold stp; rw [h]; dsimp only; rw [if_pos ⟨hk, hn⟩, hl])
theorem e_iinc {k : Nat} {v a : Int} {lv2 : LV} (h : cd y pc = some (.iinc k v, x, nx)) (hk : lv[k]? = some (some (vI a))) (hl : lv.set k (some (vI (a + v))) = lv2) : Ex sc d y pc lv st hs Q ↔ Ex sc d y nx lv2 st hs Q := ex_step (by unfold stp; rw [h]; dsimp only; rw [hk]; dsimp only; rw [hl])
theorem e_iadd {a b : Int} (h : cd y pc = some (.iadd, x, nx)) : Ex sc d y pc lv (vI b :: vI a :: st) hs Q ↔ Ex sc d y nx lv (vI (a + b) :: st) hs Q := ex_step (by unfold stp; rw [h]; rfl)
theorem e_isub {a b : Int} (h : cd y pc = some (.isub, x, nx)) : Ex sc d y pc lv (vI b :: vI a :: st) hs Q ↔ Ex sc d y nx lv (vI (a - b) :: st) hs Q := ex_step (by unfold stp; rw [h]; rfl)
theorem e_imul {a b : Int} (h : cd y pc = some (.imul, x, nx)) : Ex sc d y pc lv (vI b :: vI a :: st) hs Q ↔ Ex sc d y nx lv (vI (a * b) :: st) hs Q := ex_step (by unfold stp; rw [h]; rfl)
theorem e_idiv {a b : Int} (h : cd y pc = some (.idiv, x, nx)) (hq : 0 ≤ a ∧ a ≤ 2147483647 ∧ 0 < b ∧ b ≤ 2147483647) : Ex sc d y pc lv (vI b :: vI a :: st) hs Q ↔ Ex sc d y nx lv (vI (a / b) :: st) hs Q := ex_step (by unfold stp; rw [h]; dsimp only; unfold bin; dsimp only; rw [if_pos hq])
theorem e_irem {a b : Int} (h : cd y pc = some (.irem, x, nx)) (hq : 0 ≤ a ∧ a ≤ 2147483647 ∧ 0 < b ∧ b ≤ 2147483647) : Ex sc d y pc lv (vI b :: vI a :: st) hs Q ↔ Ex sc d y nx lv (vI (a % b) :: st) hs Q := ex_step (by unfold stp; rw [h]; dsimp only; unfold bin; dsimp only; rw [if_pos hq])
theorem e_iand {a b : Int} (h : cd y pc = some (.iand, x, nx)) : Ex sc d y pc lv (vI b :: vI a :: st) hs Q ↔ Ex sc d y nx lv (vI (Int32.ofInt a &&& Int32.ofInt b).toInt :: st) hs Q := ex_step (by unfold stp; rw [h]; rfl)
theorem e_ishr {a b : Int} (h : cd y pc = some (.ishr, x, nx)) : Ex sc d y pc lv (vI b :: vI a :: st) hs Q ↔ Ex sc d y nx lv (vI (Int32.ofInt a >>> (Int32.ofInt b &&& 31)).toInt :: st) hs Q := ex_step (by unfold stp; rw [h]; rfl)
theorem e_iushr {a b : Int} (h : cd y pc = some (.iushr, x, nx)) : Ex sc d y pc lv (vI b :: vI a :: st) hs Q ↔ Ex sc d y nx lv (vI ((Int32.ofInt a).toUInt32 >>> ((Int32.ofInt b).toUInt32 &&& Int32.toUInt32 31)).toInt32.toInt :: st) hs Q := ex_step (by unfold stp; rw [h]; rfl)
theorem e_imax {a b : Int} (h : cd y pc = some (.ixor, x, nx)) (ha : inR a) (hb : inR b) (hc : catS st ≤ 8) : Ex sc d y pc lv (vI b :: vI a :: st) hs Q ↔ Ex sc d y nx lv (vI (if a < b then b else a) :: st) hs Q := ex_step (by unfold stp; rw [h]; dsimp only; rw [if_pos ⟨ha, hb, hc⟩])
theorem e_imin {a b : Int} (h : cd y pc = some (.ior, x, nx)) (ha : inR a) (hb : inR b) (hc : catS st ≤ 8) : Ex sc d y pc lv (vI b :: vI a :: st) hs Q ↔ Ex sc d y nx lv (vI (if b < a then b else a) :: st) hs Q := ex_step (by unfold stp; rw [h]; dsimp only; rw [if_pos ⟨ha, hb, hc⟩])
theorem e_i2l {a : Int} (h : cd y pc = some (.i2l, x, nx)) (ha : inR a) : Ex sc d y pc lv (vI a :: st) hs Q ↔ Ex sc d y nx lv (vL a :: st) hs Q := ex_step (by unfold stp; rw [h]; dsimp only; rw [if_pos ha])
theorem e_lcmp {a b : Int} (h : cd y pc = some (.lcmp, x, nx)) (ha : inL a) (hb : inL b) : Ex sc d y pc lv (vL b :: vL a :: st) hs Q ↔ Ex sc d y nx lv (vI (if a < b then -1 else if a = b then 0 else 1) :: st) hs Q := ex_step (by unfold stp; rw [h]; dsimp only; rw [if_pos ⟨ha, hb⟩])
theorem e_dupI {a : Int} (h : cd y pc = some (.dup, x, nx)) : Ex sc d y pc lv (vI a :: st) hs Q ↔ Ex sc d y nx lv (vI a :: vI a :: st) hs Q := ex_step (by unfold stp; rw [h])
theorem e_dupR {a : Nat} (h : cd y pc = some (.dup, x, nx)) : Ex sc d y pc lv (vR a :: st) hs Q ↔ Ex sc d y nx lv (vR a :: vR a :: st) hs Q := ex_step (by unfold stp; rw [h])
theorem e_dup2 {a : Nat} {b : Int} (h : cd y pc = some (.dup2, x, nx)) : Ex sc d y pc lv (vI b :: vR a :: st) hs Q ↔ Ex sc d y nx lv (vI b :: vR a :: vI b :: vR a :: st) hs Q := ex_step (by unfold stp; rw [h])
theorem e_pop {a : Int} (h : cd y pc = some (.pop, x, nx)) : Ex sc d y pc lv (vI a :: st) hs Q ↔ Ex sc d y nx lv st hs Q := ex_step (by unfold stp; rw [h])
theorem e_obj {a : Nat} (h : cd y pc = some (.pop2, x, nx)) (hc : catS st ≤ 8) : Ex sc d y pc lv (vR a :: st) hs Q ↔ Ex sc d y nx lv st hs Q := ex_step (by unfold stp; rw [h]; dsimp only; rw [if_pos hc])
theorem e_goto {o : Int} (h : cd y pc = some (.goto o, x, nx)) : Ex sc d y pc lv st hs Q ↔ Ex sc d y x lv st hs Q := ex_step (by unfold stp; rw [h])
theorem e_icmp {c : ClassFile.Cond} {o a b : Int} (h : cd y pc = some (.if_icmp c o, x, nx)) (ha : inR a) (hb : inR b) : Ex sc d y pc lv (vI b :: vI a :: st) hs Q ↔ if cmpI c a b = true then Ex sc d y x lv st hs Q else Ex sc d y nx lv st hs Q := by
  rw [ex_step (pc2 := if cmpI c a b then x else nx) (lv2 := lv) (st2 := st) (hs2 := hs) (by unfold stp; rw [h]; dsimp only; rw [wI_id ha, wI_id hb])]
  split <;> rfl
theorem e_if {c : ClassFile.Cond} {o a : Int} (h : cd y pc = some (.ifCond c o, x, nx)) (ha : inR a) : Ex sc d y pc lv (vI a :: st) hs Q ↔ if cmpI c a 0 = true then Ex sc d y x lv st hs Q else Ex sc d y nx lv st hs Q := by
  rw [ex_step (pc2 := if cmpI c a 0 then x else nx) (lv2 := lv) (st2 := st) (hs2 := hs) (by unfold stp; rw [h]; dsimp only; rw [wI_id ha])]
  split <;> rfl
theorem e_getfield {k a : Nat} (h : cd y pc = some (.getfield k, x, nx)) : Ex sc d y pc lv (vR a :: st) hs Q ↔ Gf hs x a k (fun v => Ex sc d y nx lv (v :: st) hs Q) := by
  unfold Gf
  cases hg : hget hs a with
  | none => exact ex_none (by unfold stp; rw [h]; dsimp only; rw [hg])
  | some e9 =>
    rcases e9 with e9 | e9 | ⟨c, F⟩
    · exact ex_none (by unfold stp; rw [h]; dsimp only; rw [hg])
    · exact ex_none (by unfold stp; rw [h]; dsimp only; rw [hg])
    · dsimp only
      by_cases hc : c = x
      · rw [if_pos hc]
        exact ex_step (by unfold stp; rw [h]; dsimp only; rw [hg]; dsimp only; rw [if_pos hc])
      · rw [if_neg hc]
        exact ex_none (by unfold stp; rw [h]; dsimp only; rw [hg]; dsimp only; rw [if_neg hc])
theorem e_putfield {k a : Nat} {v : V} (h : cd y pc = some (.putfield k, x, nx)) : Ex sc d y pc lv (v :: vR a :: st) hs Q ↔ Pf hs x a k v (fun h2 => Ex sc d y nx lv st h2 Q) := by
  unfold Pf
  cases hg : hget hs a with
  | none => exact ex_none (by unfold stp; rw [h]; dsimp only; rw [hg])
  | some e9 =>
    rcases e9 with e9 | e9 | ⟨c, F⟩
    · exact ex_none (by unfold stp; rw [h]; dsimp only; rw [hg])
    · exact ex_none (by unfold stp; rw [h]; dsimp only; rw [hg])
    · dsimp only
      by_cases hc : c = x ∧ okV (fKind c k) v = true
      · rw [if_pos hc]
        exact ex_step (by unfold stp; rw [h]; dsimp only; rw [hg]; dsimp only; rw [if_pos hc])
      · rw [if_neg hc]
        exact ex_none (by unfold stp; rw [h]; dsimp only; rw [hg]; dsimp only; rw [if_neg hc])
theorem e_iaload {a : Nat} {i z : Int} (h : cd y pc = some (.iaload, x, nx)) (hz : rdA hs 0 a i = some z) : Ex sc d y pc lv (vI i :: vR a :: st) hs Q ↔ Ex sc d y nx lv (vI z :: st) hs Q := ex_step (by unfold stp; rw [h]; dsimp only; rw [hz])
def Ra (hs : HS) (ty a : Nat) (i : Int) (f : Int → Prop) : Prop := match rdA hs ty a i with
  | some z => f z
  | none => False
def Wa (hs : HS) (ty a : Nat) (i z : Int) (f : HS → Prop) : Prop := match wrA hs ty a i z with
  | some h2 => f h2
  | none => False
theorem e_iald {a : Nat} {i : Int} (h : cd y pc = some (.iaload, x, nx)) : Ex sc d y pc lv (vI i :: vR a :: st) hs Q ↔ Ra hs 0 a i (fun z => Ex sc d y nx lv (vI z :: st) hs Q) := by
  unfold Ra
  cases hg : rdA hs 0 a i with
  | none => exact ex_none (by unfold stp; rw [h]; dsimp only; rw [hg])
  | some z => exact ex_step (by unfold stp; rw [h]; dsimp only; rw [hg])
theorem e_bald {a : Nat} {i : Int} (h : cd y pc = some (.baload, x, nx)) : Ex sc d y pc lv (vI i :: vR a :: st) hs Q ↔ Ra hs 1 a i (fun z => Ex sc d y nx lv (vI z :: st) hs Q) := by
  unfold Ra
  cases hg : rdA hs 1 a i with
  | none => exact ex_none (by unfold stp; rw [h]; dsimp only; rw [hg])
  | some z => exact ex_step (by unfold stp; rw [h]; dsimp only; rw [hg])
theorem e_lald {a : Nat} {i : Int} (h : cd y pc = some (.laload, x, nx)) : Ex sc d y pc lv (vI i :: vR a :: st) hs Q ↔ Ra hs 2 a i (fun z => Ex sc d y nx lv (vL z :: st) hs Q) := by
  unfold Ra
  cases hg : rdA hs 2 a i with
  | none => exact ex_none (by unfold stp; rw [h]; dsimp only; rw [hg])
  | some z => exact ex_step (by unfold stp; rw [h]; dsimp only; rw [hg])
theorem e_iast {a : Nat} {i z : Int} (h : cd y pc = some (.iastore, x, nx)) : Ex sc d y pc lv (vI z :: vI i :: vR a :: st) hs Q ↔ Wa hs 0 a i z (fun h2 => Ex sc d y nx lv st h2 Q) := by
  unfold Wa
  cases hg : wrA hs 0 a i z with
  | none => exact ex_none (by unfold stp; rw [h]; dsimp only; rw [hg])
  | some h2 => exact ex_step (by unfold stp; rw [h]; dsimp only; rw [hg])
theorem e_bast {a : Nat} {i z : Int} (h : cd y pc = some (.bastore, x, nx)) (hz : z = 0 ∨ z = 1) : Ex sc d y pc lv (vI z :: vI i :: vR a :: st) hs Q ↔ Wa hs 1 a i z (fun h2 => Ex sc d y nx lv st h2 Q) := by
  unfold Wa
  cases hg : wrA hs 1 a i z with
  | none => exact ex_none (by unfold stp; rw [h]; dsimp only; rw [if_pos hz, hg])
  | some h2 => exact ex_step (by unfold stp; rw [h]; dsimp only; rw [if_pos hz, hg])
theorem e_last {a : Nat} {i z : Int} (h : cd y pc = some (.lastore, x, nx)) : Ex sc d y pc lv (vL z :: vI i :: vR a :: st) hs Q ↔ Wa hs 2 a i z (fun h2 => Ex sc d y nx lv st h2 Q) := by
  unfold Wa
  cases hg : wrA hs 2 a i z with
  | none => exact ex_none (by unfold stp; rw [h]; dsimp only; rw [hg])
  | some h2 => exact ex_step (by unfold stp; rw [h]; dsimp only; rw [hg])
theorem e_iret {a : Int} (h : cd y pc = some (.ireturn, x, nx)) (hk : mRk.getD y 9 = 1) : Ex sc d y pc lv [vI a] hs Q ↔ Q (.inl (some (vI a))) hs := ex_end (by unfold stp; rw [h]; dsimp only; rw [if_pos (Or.inl hk)])
theorem e_zret {a : Int} (h : cd y pc = some (.ireturn, x, nx)) (hk : mRk.getD y 9 = 2) (ha : a = 0 ∨ a = 1) : Ex sc d y pc lv [vI a] hs Q ↔ Q (.inl (some (vI a))) hs := ex_end (by unfold stp; rw [h]; dsimp only; rw [if_pos (Or.inr ⟨hk, ha⟩)])
theorem e_aret {a : Nat} (h : cd y pc = some (.areturn, x, nx)) (hk : mRk.getD y 9 = 3) : Ex sc d y pc lv [vR a] hs Q ↔ Q (.inl (some (vR a))) hs := ex_end (by unfold stp; rw [h]; dsimp only; rw [if_pos hk])
theorem e_vret (h : cd y pc = some (.return_, x, nx)) (hk : mRk.getD y 9 = 0) : Ex sc d y pc lv [] hs Q ↔ Q (.inl none) hs := ex_end (by unfold stp; rw [h]; dsimp only; rw [if_pos hk])
theorem e_callV {y2 : Nat} {as r : List V} {l2 : LV} (h : cd y pc = some (.invokevirtual y2, x, nx)) (ho : isObj hs (mOwn.getD y2 99) (st.getD (x - 1) vN) = true) (h1 : x ≤ st.length) (h2 : x ≤ mMaxL.getD y2 0) (h3 : catS (st.take x) = x) (h5 : (st.take x).reverse = as) (h6 : st.drop x = r) (h4 : catS r ≤ 8) (h7 : lvIn y2 as = l2) (hd : 0 < d) :
    Ex sc d y pc lv st hs Q ↔ Ex sc (d - 1) y2 0 l2 [] hs (Kc sc d y pc nx lv r Q) := by
  subst h5; subst h6; subst h7
  exact ex_call (by unfold stp; rw [h]; dsimp only; rw [if_pos ho]; unfold mcall; rw [if_pos ⟨h1, h2, h3, h4⟩]) hd
theorem e_callI {y2 : Nat} {as r : List V} {l2 : LV} (h : cd y pc = some (.invokespecial y2, x, nx)) (ho : isObj hs (mOwn.getD y2 99) (st.getD (x - 1) vN) = true) (h1 : x ≤ st.length) (h2 : x ≤ mMaxL.getD y2 0) (h3 : catS (st.take x) = x) (h5 : (st.take x).reverse = as) (h6 : st.drop x = r) (h4 : catS r ≤ 8) (h7 : lvIn y2 as = l2) (hd : 0 < d) :
    Ex sc d y pc lv st hs Q ↔ Ex sc (d - 1) y2 0 l2 [] hs (Kc sc d y pc nx lv r Q) := by
  subst h5; subst h6; subst h7
  exact ex_call (by unfold stp; rw [h]; dsimp only; rw [if_pos ho]; unfold mcall; rw [if_pos ⟨h1, h2, h3, h4⟩]) hd
theorem e_callS {y2 : Nat} {as r : List V} {l2 : LV} (h : cd y pc = some (.invokestatic y2, x, nx)) (h1 : x ≤ st.length) (h2 : x ≤ mMaxL.getD y2 0) (h3 : catS (st.take x) = x) (h5 : (st.take x).reverse = as) (h6 : st.drop x = r) (h4 : catS r ≤ 8) (h7 : lvIn y2 as = l2) (hd : 0 < d) :
    Ex sc d y pc lv st hs Q ↔ Ex sc (d - 1) y2 0 l2 [] hs (Kc sc d y pc nx lv r Q) := by
  subst h5; subst h6; subst h7
  exact ex_call (by unfold stp; rw [h]; dsimp only; unfold mcall; rw [if_pos ⟨h1, h2, h3, h4⟩]) hd
theorem Kc_some {r : List V} {v : V} {h2 : HS} : Kc sc d y pc nx lv r Q (.inl (some v)) h2 = Ex sc d y nx lv (v :: r) h2 Q := rfl
theorem Kc_none {r : List V} {h2 : HS} : Kc sc d y pc nx lv r Q (.inl none) h2 = Ex sc d y nx lv r h2 Q := rfl
end Exi
