/-! a step of the small machine, every kind -/
def StepW (p : Program) (l : Launch) (e : Env) (R : Room) (s : State) (m : MethodId) (args : Array Value) (below : List Frame) (meth : Method) (c : Code) (Q : State → Prop) (D : va_G) (B : Nat) (sa : Nat → Nat) (ca : Nat → ClassId) (y pc : Nat) (lv : LV) (st : List V) (hs : HS) (pc2 : Nat) (lv2 : LV) (st2 : List V) (hs2 : HS) : Prop :=
  ∀ (H : Heap) (locs : List Loc) (cells slots : Nat) (ls : Array Slot) (c0 s0 : Nat), Rel D B sa ca s H locs cells hs → lrel B sa ls (mMaxL.getD y 0) lv → c0 + cells = hs.2.2.2.1 → s0 + slots = hs.2.2.2.2 → hs2.2.2.2.1 ≤ c0 + R.cells → hs2.2.2.2.2 ≤ s0 + R.slots →
    (∀ (H2 : Heap) (locs2 : List Loc) (cells2 slots2 : Nat) (ls2 : Array Slot), Rel D B sa ca s H2 locs2 cells2 hs2 → lrel B sa ls2 (mMaxL.getD y 0) lv2 → c0 + cells2 = hs2.2.2.2.1 → s0 + slots2 = hs2.2.2.2.2 → W p l e R s m args below meth c H2 locs2 cells2 slots2 Q (F0 m pc2 ls2 (st2.map (mv B sa)))) →
    W p l e R s m args below meth c H locs cells slots Q (F0 m pc ls (st.map (mv B sa)))
theorem wI_in {a : Int} : inR (wI a) := ⟨(Int32.ofInt a).le_toInt, by have := (Int32.ofInt a).toInt_lt; unfold wI; omega⟩
theorem wI_of {a : Int} : Int32.ofInt (wI a) = Int32.ofInt a := Int32.ofInt_toInt _
theorem wI_id {a : Int} (h : inR a) : wI a = a := i32_id h
def isTx (i : Instr) : Bool := match i with
  | .sipush _ => true
  | .aconst_null => true
  | .caload => true
  | _ => false
theorem bin_spec {st : List V} {f : Int → Int → Option Int} {nx : Nat} {lv : LV} {hs : HS} {pc2 : Nat} {lv2 : LV} {st2 : List V} {hs2 : HS} (h : bin st f nx lv hs = some (.inl (pc2, lv2, st2, hs2))) : ∃ (a b : Int) (r : List V) (z : Int), st = vI b :: vI a :: r ∧ f a b = some z ∧ pc2 = nx ∧ lv2 = lv ∧ st2 = vI z :: r ∧ hs2 = hs := by
  unfold bin at h
  split at h
  · rename_i b a r
    split at h
    · rename_i z hz
      simp only [go, Option.some.injEq, Sum.inl.injEq, Prod.mk.injEq] at h
      obtain ⟨rfl, rfl, rfl, rfl⟩ := h
      exact ⟨a, b, r, z, rfl, hz, rfl, rfl, rfl, rfl⟩
    · cases h
  · cases h
theorem lks_ge {P df a : Int} (h0 : 0 ≤ P + df) : ∀ {ps : List (Int × Int)}, (∀ q ∈ ps, 0 ≤ P + q.2) → 0 ≤ P + Op.lookupswitch.offset ps df a := by
  intro ps
  induction ps with
  | nil => intro _; simpa [Op.lookupswitch.offset] using h0
  | cons q t ih =>
    intro h
    unfold Op.lookupswitch.offset
    split
    · exact h q List.mem_cons_self
    · exact ih (fun z hz => h z (List.mem_cons_of_mem _ hz))
theorem tb_mem {w : Cond} (h : w ∈ tables_1) (hg : goodWord w = true) : w ∈ mTbl := List.mem_filter.mpr ⟨List.mem_append_right _ h, hg⟩
section Snd
variable {p : Program} {l : Launch} {e : Env} {R : Room} {s : State} {m : MethodId} {args : Array Value} {below : List Frame} {meth : Method} {c : Code} {Q : State → Prop} {D : va_G} {B : Nat} {sa : Nat → Nat} {ca : Nat → ClassId} {sc : Scr} {Z : State → Prop} {y : Nat}
set_option maxHeartbeats 4000000 in
theorem snd_step (X : Cx p s m args meth c D B sa ca sc Z y) (hR : 8 ≤ R.frames ∧ 512 ≤ R.locals)
    (hT : ∀ (pc : Nat) (i : Instr) (x nx : Nat), cd y pc = some (i, x, nx) → isTx i = true → ∀ (lv : LV) (st : List V) (hs : HS) (pc2 : Nat) (lv2 : LV) (st2 : List V) (hs2 : HS), stp sc y pc lv st hs = some (.inl (pc2, lv2, st2, hs2)) → StepW p l e R s m args below meth c Q D B sa ca y pc lv st hs pc2 lv2 st2 hs2)
    {pc : Nat} {lv : LV} {st : List V} {hs : HS} {pc2 : Nat} {lv2 : LV} {st2 : List V} {hs2 : HS} (h : stp sc y pc lv st hs = some (.inl (pc2, lv2, st2, hs2))) : StepW p l e R s m args below meth c Q D B sa ca y pc lv st hs pc2 lv2 st2 hs2 := by
  cases hcd : cd y pc with
  | none => unfold stp at h; rw [hcd] at h; cases h
  | some li =>
    obtain ⟨i, x, nx⟩ := li
    by_cases htx : isTx i = true
    · exact hT pc i x nx hcd htx lv st hs pc2 lv2 st2 hs2 h
    · unfold stp at h
      rw [hcd] at h
      intro H locs cells slots ls c0 s0 hr hl hc hz hRc hRs kk
      cases i <;> simp only [go, reduceCtorEq] at h
      case sipush => exact absurd rfl htx
      case aconst_null => exact absurd rfl htx
      case caload => exact absurd rfl htx
      case iconst v =>
        simp only [Option.some.injEq, Sum.inl.injEq, Prod.mk.injEq] at h
        obtain ⟨rfl, rfl, rfl, rfl⟩ := h
        exact sd_iconst X hcd (kk H locs cells slots ls hr hl hc hz)
      case bipush v =>
        simp only [Option.some.injEq, Sum.inl.injEq, Prod.mk.injEq] at h
        obtain ⟨rfl, rfl, rfl, rfl⟩ := h
        exact sd_lconst X hcd (kk H locs cells slots ls hr hl hc hz)
      case iload k =>
        split at h
        · rename_i a hk
          simp only [Option.some.injEq, Sum.inl.injEq, Prod.mk.injEq] at h
          obtain ⟨rfl, rfl, rfl, rfl⟩ := h
          exact sd_iload X hcd (hl.2.2.2 _ _ hk) (kk H locs cells slots ls hr hl hc hz)
        · cases h
      case lload k =>
        split at h
        · rename_i a hk
          simp only [Option.some.injEq, Sum.inl.injEq, Prod.mk.injEq] at h
          obtain ⟨rfl, rfl, rfl, rfl⟩ := h
          exact sd_lload X hcd (hl.2.2.2 _ _ hk) (kk H locs cells slots ls hr hl hc hz)
        · cases h
      case aload k =>
        split at h
        · rename_i a hk
          simp only [Option.some.injEq, Sum.inl.injEq, Prod.mk.injEq] at h
          obtain ⟨rfl, rfl, rfl, rfl⟩ := h
          exact sd_aload X hcd (hl.2.2.2 _ _ hk) (kk H locs cells slots ls hr hl hc hz)
        · rename_i a hk
          simp only [Option.some.injEq, Sum.inl.injEq, Prod.mk.injEq] at h
          obtain ⟨rfl, rfl, rfl, rfl⟩ := h
          exact sd_aload X hcd (hl.2.2.2 _ _ hk) (kk H locs cells slots ls hr hl hc hz)
        · cases h
      case istore k =>
        split at h
        · rename_i a r
          split at h
          · rename_i hk
            simp only [Option.some.injEq, Sum.inl.injEq, Prod.mk.injEq] at h
            obtain ⟨rfl, rfl, rfl, rfl⟩ := h
            exact sd_istore X hcd hl hk.1 hk.2 (fun ls2 h2 => kk H locs cells slots ls2 hr h2 hc hz)
          · cases h
        · cases h
      case lstore k =>
        split at h
        · rename_i a r
          split at h
          · rename_i hk
            simp only [Option.some.injEq, Sum.inl.injEq, Prod.mk.injEq] at h
            obtain ⟨rfl, rfl, rfl, rfl⟩ := h
            exact sd_lstore X hcd hl hk.1 hk.2 (fun ls2 h2 => kk H locs cells slots ls2 hr h2 hc hz)
          · cases h
        · cases h
      case astore k =>
        split at h
        · rename_i a r
          split at h
          · rename_i hk
            simp only [Option.some.injEq, Sum.inl.injEq, Prod.mk.injEq] at h
            obtain ⟨rfl, rfl, rfl, rfl⟩ := h
            exact sd_astore X hcd hl hk.1 hk.2 (fun ls2 h2 => kk H locs cells slots ls2 hr h2 hc hz)
          · cases h
        · cases h
      case iinc k v =>
        split at h
        · rename_i a hk
          simp only [Option.some.injEq, Sum.inl.injEq, Prod.mk.injEq] at h
          obtain ⟨rfl, rfl, rfl, rfl⟩ := h
          exact sd_iinc X hcd hl hk (fun ls2 h2 => kk H locs cells slots ls2 hr h2 hc hz)
        · cases h
      case iadd =>
        obtain ⟨a, b, r, z, rfl, hf, rfl, rfl, rfl, rfl⟩ := bin_spec h
        cases hf
        obtain ⟨hd, rfl⟩ := sd_one hcd (fun r n => rfl)
        refine lv_iadd X.1 X.2.1 hd ?_
        rw [← Int32.ofInt_add]
        exact kk H locs cells slots ls hr hl hc hz
      case isub =>
        obtain ⟨a, b, r, z, rfl, hf, rfl, rfl, rfl, rfl⟩ := bin_spec h
        cases hf
        obtain ⟨hd, rfl⟩ := sd_one hcd (fun r n => rfl)
        refine lv_isub X.1 X.2.1 hd ?_
        rw [← Int32.ofInt_sub]
        exact kk H locs cells slots ls hr hl hc hz
      case imul =>
        obtain ⟨a, b, r, z, rfl, hf, rfl, rfl, rfl, rfl⟩ := bin_spec h
        cases hf
        obtain ⟨hd, rfl⟩ := sd_one hcd (fun r n => rfl)
        refine lv_imul X.1 X.2.1 hd ?_
        rw [← Int32.ofInt_mul]
        exact kk H locs cells slots ls hr hl hc hz
      case idiv =>
        obtain ⟨a, b, r, z, rfl, hf, rfl, rfl, rfl, rfl⟩ := bin_spec h
        simp only [Option.ite_none_right_eq_some, Option.some.injEq] at hf
        obtain ⟨hq, rfl⟩ := hf
        exact sd_idiv X hcd hq (kk H locs cells slots ls hr hl hc hz)
      case irem =>
        obtain ⟨a, b, r, z, rfl, hf, rfl, rfl, rfl, rfl⟩ := bin_spec h
        simp only [Option.ite_none_right_eq_some, Option.some.injEq] at hf
        obtain ⟨hq, rfl⟩ := hf
        exact sd_irem X hcd hq (kk H locs cells slots ls hr hl hc hz)
      case iand =>
        obtain ⟨a, b, r, z, rfl, hf, rfl, rfl, rfl, rfl⟩ := bin_spec h
        cases hf
        obtain ⟨hd, rfl⟩ := sd_one hcd (fun r n => rfl)
        refine lv_iand X.1 X.2.1 hd ?_
        have k1 := kk H locs cells slots ls hr hl hc hz
        simp only [List.map_cons, mv, Int32.ofInt_toInt] at k1
        exact k1
      case ishr =>
        obtain ⟨a, b, r, z, rfl, hf, rfl, rfl, rfl, rfl⟩ := bin_spec h
        cases hf
        obtain ⟨hd, rfl⟩ := sd_one hcd (fun r n => rfl)
        refine lv_ishr X.1 X.2.1 hd ?_
        have k1 := kk H locs cells slots ls hr hl hc hz
        simp only [List.map_cons, mv, Int32.ofInt_toInt] at k1
        exact k1
      case iushr =>
        obtain ⟨a, b, r, z, rfl, hf, rfl, rfl, rfl, rfl⟩ := bin_spec h
        cases hf
        obtain ⟨hd, rfl⟩ := sd_one hcd (fun r n => rfl)
        refine lv_iushr X.1 X.2.1 hd rfl ?_
        have k1 := kk H locs cells slots ls hr hl hc hz
        simp only [List.map_cons, mv, Int32.ofInt_toInt] at k1
        exact k1
      case ixor =>
        split at h
        · rename_i b a r
          split at h
          · rename_i hq
            simp only [Option.some.injEq, Sum.inl.injEq, Prod.mk.injEq] at h
            obtain ⟨rfl, rfl, rfl, rfl⟩ := h
            obtain ⟨r9, n9, hd, ho⟩ := dec_of hcd
            simp only [okR, Bool.and_eq_true, beq_iff_eq] at ho
            obtain ⟨e1, ho⟩ := ho
            subst e1
            split at ho
            · simp only [Bool.and_eq_true, beq_iff_eq] at ho
              obtain ⟨rfl, hcc⟩ := ho
              obtain ⟨q, hqq, h2⟩ := mem_any hcc
              simp only [Bool.and_eq_true, beq_iff_eq] at h2
              obtain ⟨e2, e3⟩ := h2
              have h3 := okAt_mem (mem_all mmxT_ok hqq) rfl
              rw [e2, e3] at h3
              have k1 := kk H locs cells slots ls hr hl hc hz
              have e9 : (if Int32.ofInt a < Int32.ofInt b then Int32.ofInt b else Int32.ofInt a) = Int32.ofInt (if a < b then b else a) := by
                have hiff : Int32.ofInt a < Int32.ofInt b ↔ a < b := by rw [Int32.lt_iff_toInt_lt, i32_id hq.1, i32_id hq.2.1]
                by_cases hab : a < b
                · rw [if_pos hab, if_pos (hiff.mpr hab)]
                · rw [if_neg hab, if_neg (fun z => hab (hiff.mp z))]
              refine va_mmax X.1 X.2.1 (X.2.2.1.trans hl.1.symm) X.2.2.2.1 (X.2.2.2.2.1 _ h3) (X.2.2.2.2.1 _ (tb_mem mmx_sta rfl)) (X.2.2.2.2.1 _ (tb_mem mmx_ini rfl)) (X.2.2.2.2.1 _ (tb_mem mmx_cod rfl)) (by omega) ?_ (by omega) (by omega) hd ?_
              · rw [cat_map]
                omega
              · rw [e9]
                exact k1
            · cases ho
          · cases h
        · cases h
      case ior =>
        split at h
        · rename_i b a r
          split at h
          · rename_i hq
            simp only [Option.some.injEq, Sum.inl.injEq, Prod.mk.injEq] at h
            obtain ⟨rfl, rfl, rfl, rfl⟩ := h
            obtain ⟨r9, n9, hd, ho⟩ := dec_of hcd
            simp only [okR, Bool.and_eq_true, beq_iff_eq] at ho
            obtain ⟨e1, ho⟩ := ho
            subst e1
            split at ho
            · simp only [Bool.and_eq_true, beq_iff_eq] at ho
              obtain ⟨rfl, hcc⟩ := ho
              obtain ⟨q, hqq, h2⟩ := mem_any hcc
              simp only [Bool.and_eq_true, beq_iff_eq] at h2
              obtain ⟨e2, e3⟩ := h2
              have h3 := okAt_mem (mem_all mmnT_ok hqq) rfl
              rw [e2, e3] at h3
              have k1 := kk H locs cells slots ls hr hl hc hz
              have e9 : (if Int32.ofInt b < Int32.ofInt a then Int32.ofInt b else Int32.ofInt a) = Int32.ofInt (if b < a then b else a) := by
                have hiff : Int32.ofInt b < Int32.ofInt a ↔ b < a := by rw [Int32.lt_iff_toInt_lt, i32_id hq.1, i32_id hq.2.1]
                by_cases hab : b < a
                · rw [if_pos hab, if_pos (hiff.mpr hab)]
                · rw [if_neg hab, if_neg (fun z => hab (hiff.mp z))]
              refine va_mmin X.1 X.2.1 (X.2.2.1.trans hl.1.symm) X.2.2.2.1 (X.2.2.2.2.1 _ h3) (X.2.2.2.2.1 _ (tb_mem mmn_sta rfl)) (X.2.2.2.2.1 _ (tb_mem mmx_ini rfl)) (X.2.2.2.2.1 _ (tb_mem mmn_cod rfl)) (by omega) ?_ (by omega) (by omega) hd ?_
              · rw [cat_map]
                omega
              · rw [e9]
                exact k1
            · cases ho
          · cases h
        · cases h
      case i2l =>
        split at h
        · rename_i a r
          split at h
          · rename_i hk
            simp only [Option.some.injEq, Sum.inl.injEq, Prod.mk.injEq] at h
            obtain ⟨rfl, rfl, rfl, rfl⟩ := h
            obtain ⟨hd, rfl⟩ := sd_one hcd (fun r n => rfl)
            exact lv_i2l X.1 X.2.1 hd (Int32.toInt64_ofInt hk.1 hk.2) (kk H locs cells slots ls hr hl hc hz)
          · cases h
        · cases h
      case lcmp =>
        split at h
        · rename_i b a r
          split at h
          · rename_i hk
            simp only [Option.some.injEq, Sum.inl.injEq, Prod.mk.injEq] at h
            obtain ⟨rfl, rfl, rfl, rfl⟩ := h
            exact sd_lcmp X hcd hk.1 hk.2 (kk H locs cells slots ls hr hl hc hz)
          · cases h
        · cases h
      case lshl =>
        split at h
        · rename_i b a r
          simp only [Option.some.injEq, Sum.inl.injEq, Prod.mk.injEq] at h
          obtain ⟨rfl, rfl, rfl, rfl⟩ := h
          obtain ⟨hd, rfl⟩ := sd_one hcd (fun r n => rfl)
          refine lv_lshl X.1 X.2.1 hd rfl ?_
          have k1 := kk H locs cells slots ls hr hl hc hz
          simp only [List.map_cons, mv, Int64.ofInt_toInt] at k1
          exact k1
        · cases h
      case lor =>
        split at h
        · rename_i b a r
          simp only [Option.some.injEq, Sum.inl.injEq, Prod.mk.injEq] at h
          obtain ⟨rfl, rfl, rfl, rfl⟩ := h
          obtain ⟨hd, rfl⟩ := sd_one hcd (fun r n => rfl)
          refine lv_lor X.1 X.2.1 hd ?_
          have k1 := kk H locs cells slots ls hr hl hc hz
          simp only [List.map_cons, mv, Int64.ofInt_toInt] at k1
          exact k1
        · cases h
      case dup =>
        split at h
        · rename_i a r
          simp only [Option.some.injEq, Sum.inl.injEq, Prod.mk.injEq] at h
          obtain ⟨rfl, rfl, rfl, rfl⟩ := h
          obtain ⟨hd, rfl⟩ := sd_one hcd (fun r n => rfl)
          exact lv_dup X.1 X.2.1 hd rfl (kk H locs cells slots ls hr hl hc hz)
        · rename_i a r
          simp only [Option.some.injEq, Sum.inl.injEq, Prod.mk.injEq] at h
          obtain ⟨rfl, rfl, rfl, rfl⟩ := h
          obtain ⟨hd, rfl⟩ := sd_one hcd (fun r n => rfl)
          refine lv_dup X.1 X.2.1 hd ?_ (kk H locs cells slots ls hr hl hc hz)
          rcases a with (_ | a) | a <;> rfl
        · cases h
      case dup2 =>
        split at h
        · rename_i b a r
          simp only [Option.some.injEq, Sum.inl.injEq, Prod.mk.injEq] at h
          obtain ⟨rfl, rfl, rfl, rfl⟩ := h
          obtain ⟨hd, rfl⟩ := sd_one hcd (fun r n => rfl)
          refine lv_dup2_11 X.1 X.2.1 hd ?_ ?_ (kk H locs cells slots ls hr hl hc hz)
          · first | rfl | (rcases a with (_ | a) | a <;> rfl)
          · first | rfl | (rcases a with (_ | a) | a <;> rfl)
        · cases h
      case pop =>
        split at h
        · rename_i a r
          simp only [Option.some.injEq, Sum.inl.injEq, Prod.mk.injEq] at h
          obtain ⟨rfl, rfl, rfl, rfl⟩ := h
          obtain ⟨hd, rfl⟩ := sd_one hcd (fun r n => rfl)
          exact lv_pop X.1 X.2.1 hd rfl (kk H locs cells slots ls hr hl hc hz)
        · cases h
      case pop2 =>
        split at h
        · rename_i a r
          split at h
          · rename_i hk
            simp only [Option.some.injEq, Sum.inl.injEq, Prod.mk.injEq] at h
            obtain ⟨rfl, rfl, rfl, rfl⟩ := h
            exact sd_objinit X hcd hl.1 hk hR (kk H locs cells slots ls hr hl hc hz)
          · cases h
        · cases h
      case if_icmp k o =>
        split at h
        · rename_i b a r
          simp only [Option.some.injEq, Sum.inl.injEq, Prod.mk.injEq] at h
          obtain ⟨rfl, rfl, rfl, rfl⟩ := h
          have k1 := sd_icmp (a := wI a) (b := wI b) X hcd wI_in wI_in (kk H locs cells slots ls hr hl hc hz)
          rw [wI_of, wI_of] at k1
          exact k1
        · cases h
      case ifCond k o =>
        split at h
        · rename_i a r
          simp only [Option.some.injEq, Sum.inl.injEq, Prod.mk.injEq] at h
          obtain ⟨rfl, rfl, rfl, rfl⟩ := h
          have k1 := sd_if (a := wI a) X hcd wI_in (kk H locs cells slots ls hr hl hc hz)
          rw [wI_of] at k1
          exact k1
        · cases h
      case goto o =>
        simp only [Option.some.injEq, Sum.inl.injEq, Prod.mk.injEq] at h
        obtain ⟨rfl, rfl, rfl, rfl⟩ := h
        obtain ⟨hd, rfl, ht⟩ := sd_jump (o := o) hcd (fun r n => rfl)
        exact lv_goto X.1 X.2.1 hd ht (kk H locs cells slots ls hr hl hc hz)
      case getfield k =>
        split at h
        · rename_i a r
          split at h
          · rename_i k2 F hg
            obtain ⟨g1, g2⟩ := hget_spec hg
            split at h
            · rename_i hk
              subst hk
              simp only [Option.some.injEq, Sum.inl.injEq, Prod.mk.injEq] at h
              obtain ⟨rfl, rfl, rfl, rfl⟩ := h
              exact sd_getfield X hr hcd g1 g2 (kk H locs cells slots ls hr hl hc hz)
            · cases h
          · cases h
        · cases h
      case putfield k =>
        split at h
        · rename_i v a r
          split at h
          · rename_i k2 F hg
            obtain ⟨g1, g2⟩ := hget_spec hg
            split at h
            · rename_i hk
              obtain ⟨rfl, hk⟩ := hk
              simp only [Option.some.injEq, Sum.inl.injEq, Prod.mk.injEq] at h
              obtain ⟨rfl, rfl, rfl, rfl⟩ := h
              exact sd_putfield X hr hcd g1 g2 hk (fun H2 locs2 r2 => kk H2 locs2 cells slots ls r2 hl hc hz)
            · cases h
          · cases h
        · cases h
      case iaload =>
        split at h
        · rename_i i a r
          split at h
          · rename_i z hq
            simp only [Option.some.injEq, Sum.inl.injEq, Prod.mk.injEq] at h
            obtain ⟨rfl, rfl, rfl, rfl⟩ := h
            exact sd_iaload X hr hcd hq (kk H locs cells slots ls hr hl hc hz)
          · cases h
        · rename_i i r
          split at h
          · rename_i hk
            simp only [Option.some.injEq, Sum.inl.injEq, Prod.mk.injEq] at h
            obtain ⟨rfl, rfl, rfl, rfl⟩ := h
            exact sd_sld X hr hcd hk.1 hk.2.1 hk.2.2 (kk H locs cells slots ls hr hl hc hz)
          · cases h
        · cases h
      case baload =>
        split at h
        · rename_i i a r
          split at h
          · rename_i z hq
            simp only [Option.some.injEq, Sum.inl.injEq, Prod.mk.injEq] at h
            obtain ⟨rfl, rfl, rfl, rfl⟩ := h
            exact sd_baload X hr hcd hq (kk H locs cells slots ls hr hl hc hz)
          · cases h
        · cases h
      case laload =>
        split at h
        · rename_i i a r
          split at h
          · rename_i z hq
            simp only [Option.some.injEq, Sum.inl.injEq, Prod.mk.injEq] at h
            obtain ⟨rfl, rfl, rfl, rfl⟩ := h
            exact sd_laload X hr hcd hq (kk H locs cells slots ls hr hl hc hz)
          · cases h
        · cases h
      case iastore =>
        split at h
        · rename_i v i a r
          split at h
          · rename_i h9 hq
            simp only [Option.some.injEq, Sum.inl.injEq, Prod.mk.injEq] at h
            obtain ⟨rfl, rfl, rfl, rfl⟩ := h
            obtain ⟨n9, f9, -, -, -, -, -, e9⟩ := wrA_spec hq
            exact sd_iastore X hr hcd hq (fun H2 locs2 r2 => kk H2 locs2 cells slots ls r2 hl (by rw [e9]; exact hc) (by rw [e9]; exact hz))
          · cases h
        · cases h
      case bastore =>
        split at h
        · rename_i v i a r
          split at h
          · rename_i hv
            split at h
            · rename_i h9 hq
              simp only [Option.some.injEq, Sum.inl.injEq, Prod.mk.injEq] at h
              obtain ⟨rfl, rfl, rfl, rfl⟩ := h
              obtain ⟨n9, f9, -, -, -, -, -, e9⟩ := wrA_spec hq
              exact sd_bastore X hr hcd hv hq (fun H2 locs2 r2 => kk H2 locs2 cells slots ls r2 hl (by rw [e9]; exact hc) (by rw [e9]; exact hz))
            · cases h
          · cases h
        · cases h
      case lastore =>
        split at h
        · rename_i v i a r
          split at h
          · rename_i h9 hq
            simp only [Option.some.injEq, Sum.inl.injEq, Prod.mk.injEq] at h
            obtain ⟨rfl, rfl, rfl, rfl⟩ := h
            obtain ⟨n9, f9, -, -, -, -, -, e9⟩ := wrA_spec hq
            exact sd_lastore X hr hcd hq (fun H2 locs2 r2 => kk H2 locs2 cells slots ls r2 hl (by rw [e9]; exact hc) (by rw [e9]; exact hz))
          · cases h
        · cases h
      case aaload =>
        split at h
        · rename_i i a r
          split at h
          · rename_i k2 n f hg
            obtain ⟨g1, g2⟩ := hget_spec hg
            split at h
            · rename_i hk
              simp only [Option.some.injEq, Sum.inl.injEq, Prod.mk.injEq] at h
              obtain ⟨rfl, rfl, rfl, rfl⟩ := h
              exact sd_aaload X hr hcd g1 g2 hk.1 hk.2.1 hk.2.2.1 hk.2.2.2 (kk H locs cells slots ls hr hl hc hz)
            · cases h
          · cases h
        · cases h
      case aastore =>
        split at h
        · rename_i q i a r
          split at h
          · rename_i k2 n f hg
            obtain ⟨g1, g2⟩ := hget_spec hg
            split at h
            · rename_i hk
              simp only [Option.some.injEq, Sum.inl.injEq, Prod.mk.injEq] at h
              obtain ⟨rfl, rfl, rfl, rfl⟩ := h
              exact sd_aastore X hr hcd g1 g2 hk.1 hk.2.1 hk.2.2.1 hk.2.2.2.1 hk.2.2.2.2 (fun H2 locs2 r2 => kk H2 locs2 cells slots ls r2 hl hc hz)
            · cases h
          · cases h
        · cases h
      case arraylength =>
        split at h
        · rename_i a r
          split at h
          · rename_i ty n f hg
            obtain ⟨g1, g2⟩ := hget_spec hg
            split at h
            · rename_i hk
              simp only [Option.some.injEq, Sum.inl.injEq, Prod.mk.injEq] at h
              obtain ⟨rfl, rfl, rfl, rfl⟩ := h
              exact sd_alen X hr hcd g1 g2 hk.1 (kk H locs cells slots ls hr hl hc hz)
            · cases h
          · cases h
        · rename_i r
          split at h
          · simp only [Option.some.injEq, Sum.inl.injEq, Prod.mk.injEq] at h
            obtain ⟨rfl, rfl, rfl, rfl⟩ := h
            exact sd_slen X hr hcd (kk H locs cells slots ls hr hl hc hz)
          · cases h
        · cases h
      case new k =>
        split at h
        · rename_i hk
          simp only [Option.some.injEq, Sum.inl.injEq, Prod.mk.injEq] at h
          obtain ⟨rfl, rfl, rfl, rfl⟩ := h
          dsimp only at hRc hRs
          refine sd_new X hr hcd hk (by omega) (by omega) (fun H2 r2 => kk H2 locs (cells + 1) _ ls r2 hl ?_ ?_)
          · dsimp only; omega
          · dsimp only; omega
        · cases h
      case newarray t =>
        split at h
        · rename_i n r
          split at h
          · rename_i hk
            simp only [Option.some.injEq, Sum.inl.injEq, Prod.mk.injEq] at h
            obtain ⟨rfl, rfl, rfl, rfl⟩ := h
            dsimp only at hRc hRs
            have r3 := fun H2 r2 => kk H2 locs (cells + 1) (slots + n.toNat) ls r2 hl (by dsimp only; omega) (by dsimp only; omega)
            refine sd_newarray X hr hcd hk.1 hk.2 (by omega) (by omega) (fun H2 r2 => r3 H2 ?_)
            cases t <;> exact r2
          · cases h
        · cases h
      case anewarray k =>
        split at h
        · rename_i n r
          split at h
          · rename_i hk
            simp only [Option.some.injEq, Sum.inl.injEq, Prod.mk.injEq] at h
            obtain ⟨rfl, rfl, rfl, rfl⟩ := h
            dsimp only at hRc hRs
            exact sd_anewarray X hr hcd hk.1 hk.2 (by omega) (by omega) (fun H2 r2 => kk H2 locs (cells + 1) (slots + n.toNat) ls r2 hl (by dsimp only; omega) (by dsimp only; omega))
          · cases h
        · cases h
      case nop =>
        split at h
        · rename_i n dp a sp b r
          split at h
          · rename_i t1 n1 f1 t2 n2 f2 hgb hga
            obtain ⟨b1, b2⟩ := hget_spec hgb
            obtain ⟨a1, a2⟩ := hget_spec hga
            split at h
            · rename_i hk
              obtain ⟨rfl, rfl, k1, k2, k3, k4, k5, k6, k7, k8⟩ := hk
              simp only [Option.some.injEq, Sum.inl.injEq, Prod.mk.injEq] at h
              obtain ⟨rfl, rfl, rfl, rfl⟩ := h
              exact sd_copy X hr hcd hl.1 b1 b2 a1 a2 ⟨k1, k2, k3, k4, k5, k6, k7⟩ k8 hR (fun H2 locs2 r2 => kk H2 locs2 cells slots ls r2 hl hc hz)
            · cases h
          · cases h
        · cases h
      case tableswitch df lo hi offs =>
        split at h
        · rename_i a r
          obtain ⟨r9, n9, hd, ho⟩ := dec_of hcd
          simp only [okR, Bool.and_eq_true, beq_iff_eq, decide_eq_true_eq] at ho
          obtain ⟨rfl, ⟨rfl, hdf⟩, hof⟩ := ho
          split at h
          · rename_i hk
            split at h
            · rename_i hq
              simp only [Option.some.injEq, Sum.inl.injEq, Prod.mk.injEq] at h
              obtain ⟨rfl, rfl, rfl, rfl⟩ := h
              exact lv_tableOut X.1 X.2.1 hd (by rw [i32_id hk]; exact hq) (by omega) (kk H locs cells slots ls hr hl hc hz)
            · rename_i hq
              split at h
              · rename_i o hoo
                simp only [Option.some.injEq, Sum.inl.injEq, Prod.mk.injEq] at h
                obtain ⟨rfl, rfl, rfl, rfl⟩ := h
                have ho2 : 0 ≤ (pc : Int) + o := by
                  have := Array.all_eq_true'.mp hof o (Array.mem_of_getElem? hoo)
                  simpa using this
                exact lv_tableIn X.1 X.2.1 hd (by rw [i32_id hk]; omega) (by rw [i32_id hk]; omega) (by rw [i32_id hk]; exact hoo) (by omega) (kk H locs cells slots ls hr hl hc hz)
              · cases h
          · cases h
        · cases h
      case lookupswitch df ps =>
        split at h
        · rename_i a r
          obtain ⟨r9, n9, hd, ho⟩ := dec_of hcd
          simp only [okR, Bool.and_eq_true, beq_iff_eq, decide_eq_true_eq] at ho
          obtain ⟨rfl, ⟨⟨rfl, hdf⟩, hof⟩, hps⟩ := ho
          split at h
          · rename_i hk
            simp only [Option.some.injEq, Sum.inl.injEq, Prod.mk.injEq] at h
            obtain ⟨rfl, rfl, rfl, rfl⟩ := h
            have ho2 : 0 ≤ (pc : Int) + Op.lookupswitch.offset ps.toList df a := lks_ge hdf (fun q hq => by
              have := Array.all_eq_true'.mp hof q (by simpa using hq)
              simpa using this)
            exact lv_lookup X.1 X.2.1 hd hps (by rw [i32_id hk]) (by omega) (kk H locs cells slots ls hr hl hc hz)
          · cases h
        · cases h
      case invokevirtual y2 =>
        split at h
        · unfold mcall at h
          split at h
          · cases h
          · cases h
        · cases h
      case invokespecial y2 =>
        split at h
        · unfold mcall at h
          split at h
          · cases h
          · cases h
        · cases h
      case invokestatic y2 =>
        unfold mcall at h
        split at h
        · cases h
        · cases h
      case athrow =>
        split at h
        · cases h
        · cases h
      case ireturn =>
        split at h
        · split at h
          · cases h
          · cases h
        · cases h
      case areturn =>
        split at h
        · split at h
          · cases h
          · cases h
        · cases h
      case return_ =>
        split at h
        · split at h
          · cases h
          · cases h
        · cases h
end Snd
