/-! the JDK's String.length and String.charAt over the four words of the tokens -/
abbrev jS : String := "java/lang/String"
abbrev jL : String := "java/lang/StringLatin1"
abbrev jP : String := "jdk/internal/util/Preconditions"
abbrev jT : String := "ChaseHall$Tokens"
abbrev jB : String := "Ljava/util/function/BiFunction;"
abbrev yLen : MethodName := ⟨jS, "length", "()I"⟩
abbrev yCod : MethodName := ⟨jS, "coder", "()B"⟩
abbrev yChr : MethodName := ⟨jS, "charAt", "(I)C"⟩
abbrev yLat : MethodName := ⟨jS, "isLatin1", "()Z"⟩
abbrev yLch : MethodName := ⟨jL, "charAt", "([BI)C"⟩
abbrev yChk : MethodName := ⟨jS, "checkIndex", "(II)V"⟩
abbrev yPre : MethodName := ⟨jP, "checkIndex", "(IILjava/util/function/BiFunction;)I"⟩
abbrev cLen : ByteArray := prog_19_method_54_code
abbrev cCod : ByteArray := prog_19_method_152_code
abbrev cChr : ByteArray := prog_19_method_56_code
abbrev cLat : ByteArray := prog_19_method_154_code
abbrev cLch : ByteArray := prog_20_method_2_code
abbrev cChk : ByteArray := prog_19_method_155_code
abbrev cPre : ByteArray := prog_26_method_11_code
def jW : List Cond := [.initialized jS, .initialized jL, .initialized jP,
  .methodLink jT 65 yLen, .instanceMethod yLen, .selects jS yLen yLen, .code yLen cLen 1 (some .int),
  .methodLink jS 335 yCod, .instanceMethod yCod, .selects jS yCod yCod, .code yCod cCod 1 (some .byte),
  .fieldLink jS 38 jS "COMPACT_STRINGS" "Z",
  .methodLink jT 71 yChr, .instanceMethod yChr, .selects jS yChr yChr, .code yChr cChr 2 (some .char),
  .methodLink jS 492 yLat, .instanceMethod yLat, .selects jS yLat yLat, .code yLat cLat 1 (some .boolean),
  .methodLink jS 495 yLch, .static yLch, .code yLch cLch 2 (some .char),
  .methodLink jL 9 yChk, .static yChk, .code yChk cChk 2 none,
  .fieldLink jS 1053 jP "SIOOBE_FORMATTER" jB,
  .methodLink jS 1059 yPre, .static yPre, .code yPre cPre 3 (some .int),
  .fieldLink jS 9 jS "value" "[B", .fieldLink jS 15 jS "coder" "B"]
theorem jW_all : jW.all (fun w => decide (w ∈ lw_tbl) && goodWord w) = true := by decide +kernel
theorem jW_in {w : Cond} (h : w ∈ jW) : w ∈ mTbl := by
  have h1 := mem_all jW_all h
  simp only [Bool.and_eq_true, decide_eq_true_eq] at h1
  exact List.mem_filter.mpr h1
theorem jW_at {i : Nat} {w : Cond} (h : jW[i]? = some w) : w ∈ mTbl := jW_in (List.mem_of_getElem? h)
def txB : List (List Int32) := [[116, 97, 98, 108, 101], [114, 111, 119], [114, 117, 108, 101], [102, 97, 108, 115, 101]]
def txN : List Nat := [5, 3, 4, 5]
def TxE (B : Nat) (aK aV : Nat → Nat) (U : State) : Prop :=
  vk_S 4 txN txB aK aV (fun q => B ≤ q) U U.heap ∧ va_Z jS "COMPACT_STRINGS" "Z" (.int 1) (fun q => B ≤ q) U U.heap ∧ va_Zq jP "SIOOBE_FORMATTER" jB (fun q => B ≤ q) U U.heap
theorem TxE.moved {B : Nat} {aK aV : Nat → Nat} {s U : State} (hv : s.vm.Alike U.vm) (hk : ∀ q : Nat, q < B → U.heap[q]? = s.heap[q]?) (h : TxE B aK aV s) : TxE B aK aV U := by
  have hq : ∀ a : Nat, a < s.heap.size → ¬ B ≤ a → U.heap[a]? = s.heap[a]? := fun a _ ha => hk a (by omega)
  exact ⟨(vk_S.moved hv h.1).kept hq, (va_Z.moved hv h.2.1).kept hq, (va_Zq.moved hv h.2.2).kept hq⟩
def jPre (B : Nat) (aK aV : Nat → Nat) (as : List Value) : Array Value → State → Prop := fun v U => v = as.toArray ∧ TxE B aK aV U
def jPost (r : Option Value) : Array Value → State → Outcome → State → Prop := fun _ st o t => o = .returned r ∧ t.heap = st.heap
def jRm (f n : Nat) : Room := { frames := f, cells := 0, slots := 0, locals := n }
theorem jPre.blind {B : Nat} {aK aV : Nat → Nat} {as : List Value} : FrameBlind (jPre B aK aV as) := by
  intro a U g mk h
  obtain ⟨h1, h2⟩ := h
  exact ⟨h1, TxE.moved (State.WarmedH.refl U).alike (fun q _ => rfl) h2⟩
section Jd
variable {p : Program} {l : Launch} {e : Env} {R : Room} {s : State} {m : MethodId} {args : Array Value} {below : List Frame} {meth : Method} {c : Code} {H : Heap} {locs : List Loc} {cells slots : Nat} {Q : State → Prop} {pc : Nat} {ls : Array Slot} {rest st0 : List Value} {a : Array Value}
theorem j_back {r : Option Value} (hr : va_Run p l e R s m args below meth c H locs cells slots 0 0 (F0 m pc ls st0) rest (jPost r a) (fun _ => False))
    (kk : W p l e R s m args below meth c H locs cells slots Q (F0 m (pc + 3) ls (r.toList ++ rest))) : W p l e R s m args below meth c H locs cells slots Q (F0 m pc ls st0) := by
  intro T hT X
  obtain ⟨v, st₀, t, T', L, h0, X', hL, e1, -, ⟨hv, hh⟩, st⟩ := hr T hT X
  cases hv
  obtain ⟨t2, a1, b1⟩ := kk T' (by rw [e1, hh, h0]) (Stand.forget X' (fun q h => (hL q h).elim))
  exact ⟨t2, st t2 a1, b1⟩
theorem j_memV {own : String} {idx n : Nat} {y : MethodName} {c : ByteArray} {r : Option FieldType} (h1 : Cond.methodLink own idx y ∈ mTbl) (h2 : Cond.instanceMethod y ∈ mTbl) (h3 : Cond.selects jS y y ∈ mTbl) (h4 : Cond.initialized jS ∈ mTbl) (h5 : Cond.code y c n r ∈ mTbl) : GoodIn mTbl (wsV own idx jS y (.code y c n r :: mTbl)) := by
  apply goodT
  intro w hw
  simp only [wsV, List.cons_append, List.nil_append, List.mem_cons] at hw
  rcases hw with rfl | rfl | rfl | rfl | rfl | hw
  · exact h1
  · exact h2
  · exact h3
  · exact h4
  · exact h5
  · exact hw
theorem j_memS {n : Nat} {y : MethodName} {c : ByteArray} {r : Option FieldType} (h5 : Cond.code y c n r ∈ mTbl) : GoodIn mTbl (.code y c n r :: mTbl) := by
  apply goodT
  intro w hw
  rcases List.mem_cons.mp hw with rfl | hw
  · exact h5
  · exact hw
end Jd
theorem dPre : decode cPre 0 = .ok (.iload_n 0, 1) ∧ decode cPre 1 = .ok (.ifCond .lt 8, 3) ∧ decode cPre 4 = .ok (.iload_n 0, 1) ∧ decode cPre 5 = .ok (.iload_n 1, 1) ∧ decode cPre 6 = .ok (.if_icmp .lt 10, 3) ∧ decode cPre 16 = .ok (.iload_n 0, 1) ∧ decode cPre 17 = .ok (.ireturn, 1) := by decide +kernel
theorem dChk : decode cChk 0 = .ok (.iload_n 0, 1) ∧ decode cChk 1 = .ok (.iload_n 1, 1) ∧ decode cChk 2 = .ok (.getstatic 1053, 3) ∧ decode cChk 5 = .ok (.invokestatic 1059, 3) ∧ decode cChk 8 = .ok (.pop, 1) ∧ decode cChk 9 = .ok (.return_, 1) := by decide +kernel
theorem dLch : decode cLch 0 = .ok (.iload_n 1, 1) ∧ decode cLch 1 = .ok (.aload_n 0, 1) ∧ decode cLch 2 = .ok (.arraylength, 1) ∧ decode cLch 3 = .ok (.invokestatic 9, 3) ∧ decode cLch 6 = .ok (.aload_n 0, 1) ∧ decode cLch 7 = .ok (.iload_n 1, 1) ∧ decode cLch 8 = .ok (.baload, 1) ∧ decode cLch 9 = .ok (.sipush 255, 3) ∧ decode cLch 12 = .ok (.iand, 1) ∧ decode cLch 13 = .ok (.i2c, 1) ∧ decode cLch 14 = .ok (.ireturn, 1) := by decide +kernel
theorem dLat : decode cLat 0 = .ok (.getstatic 38, 3) ∧ decode cLat 3 = .ok (.ifCond .eq 14, 3) ∧ decode cLat 6 = .ok (.aload_n 0, 1) ∧ decode cLat 7 = .ok (.getfield 15, 3) ∧ decode cLat 10 = .ok (.ifCond .ne 7, 3) ∧ decode cLat 13 = .ok (.iconst 1, 1) ∧ decode cLat 14 = .ok (.goto 4, 3) ∧ decode cLat 18 = .ok (.ireturn, 1) := by decide +kernel
theorem dCod : decode cCod 0 = .ok (.getstatic 38, 3) ∧ decode cCod 3 = .ok (.ifCond .eq 10, 3) ∧ decode cCod 6 = .ok (.aload_n 0, 1) ∧ decode cCod 7 = .ok (.getfield 15, 3) ∧ decode cCod 10 = .ok (.goto 4, 3) ∧ decode cCod 14 = .ok (.ireturn, 1) := by decide +kernel
theorem dLen : decode cLen 0 = .ok (.aload_n 0, 1) ∧ decode cLen 1 = .ok (.getfield 9, 3) ∧ decode cLen 4 = .ok (.arraylength, 1) ∧ decode cLen 5 = .ok (.aload_n 0, 1) ∧ decode cLen 6 = .ok (.invokevirtual 335, 3) ∧ decode cLen 9 = .ok (.ishr, 1) ∧ decode cLen 10 = .ok (.ireturn, 1) := by decide +kernel
theorem dChr : decode cChr 0 = .ok (.aload_n 0, 1) ∧ decode cChr 1 = .ok (.invokevirtual 492, 3) ∧ decode cChr 4 = .ok (.ifCond .eq 12, 3) ∧ decode cChr 7 = .ok (.aload_n 0, 1) ∧ decode cChr 8 = .ok (.getfield 9, 3) ∧ decode cChr 11 = .ok (.iload_n 1, 1) ∧ decode cChr 12 = .ok (.invokestatic 495, 3) ∧ decode cChr 15 = .ok (.ireturn, 1) := by decide +kernel
section Jm
variable {l : Launch} {B : Nat} {aK aV : Nat → Nat}
set_option maxHeartbeats 1000000 in
theorem m_pre {i n : Int32} {q : Value} (hq : q = .null ∨ ∃ t, q = .ref t) (h0 : ¬ i < 0) (h1 : i < n) : Met l yPre (.code yPre cPre 3 (some .int) :: mTbl) (jRm 0 0) (jPre B aK aV [.int i, .int n, q]) (jPost (some (.int i))) 0 0 (fun _ => False) := by
  refine Met.ofW (cc := cPre) (maxL := 3) (ret := some .int) (by decide) rfl ?_
  intro p e s m args below meth c s₁ Bo hml hv
  obtain ⟨rfl, hE⟩ := hv
  have hx := Bo.exec
  have hb := Bo.bytes
  have hr := Bo.returns
  have hlocks := Bo.notSynchronized
  have hl0 : lv_has (lg_sl [.int i, .int n, q] ++ List.replicate (3 - (lg_sl [.int i, .int n, q]).length) Slot.unset).toArray 3 [(0, .int i), (1, .int n)] := by
    rcases hq with rfl | ⟨t, rfl⟩
    · exact lv_sub (lv_entry ([.int i, .int n, .null]) (n := 3) (Nat.le_of_ble_eq_true rfl)) [0, 1] rfl
    · exact lv_sub (lv_entry ([.int i, .int n, .ref t]) (n := 3) (Nat.le_of_ble_eq_true rfl)) [0, 1] rfl
  rw [lg_entry_eq]
  generalize (lg_sl [.int i, .int n, q] ++ List.replicate (3 - (lg_sl [.int i, .int n, q]).length) Slot.unset).toArray = ls at hl0 ⊢
  refine lv_iload_n hx hb dPre.1 rfl (lv_at hl0 0 rfl) ?_
  refine lv_if_lt hx hb dPre.2.1 (tgt := 9) rfl (fun z => absurd z h0) (fun _ => ?_)
  refine lv_iload_n hx hb dPre.2.2.1 rfl (lv_at hl0 0 rfl) ?_
  refine lv_iload_n hx hb dPre.2.2.2.1 rfl (lv_at hl0 1 rfl) ?_
  refine lv_icmp_lt hx hb dPre.2.2.2.2.1 (tgt := 16) rfl (fun _ => ?_) (fun z => absurd h1 z)
  refine lv_iload_n hx hb dPre.2.2.2.2.2.1 rfl (lv_at hl0 0 rfl) ?_
  exact W.iret (v := i) hx hb hr (fun t ht hW => ⟨rfl, ht⟩) (fun z hz => by cases hz) dPre.2.2.2.2.2.2
set_option maxHeartbeats 1000000 in
theorem m_chk {i n : Int32} (h0 : ¬ i < 0) (h1 : i < n) : Met l yChk (.code yChk cChk 2 none :: mTbl) (jRm 1 22) (jPre B aK aV [.int i, .int n]) (jPost none) 0 0 (fun _ => False) := by
  refine Met.ofW (cc := cChk) (maxL := 2) (ret := none) (by decide) rfl ?_
  intro p e s m args below meth c s₁ Bo hml hv
  obtain ⟨rfl, hE⟩ := hv
  have hx := Bo.exec
  have hb := Bo.bytes
  have hr := Bo.returns
  have hlocks := Bo.notSynchronized
  have hts := atoms_spec (ws := .code yChk cChk 2 (none) :: mTbl) Bo.pre
  have hj : ∀ w ∈ mTbl, w.before [.int i, .int n].toArray s = true := fun w hw => hts w (List.mem_cons_of_mem _ hw)
  have hown : s.vm.findClass jS = some m.cls := findClass_of_methodNamed Bo.named
  have hS : va_S (fun q => B ≤ q) s.heap s.heap [] := va_S.rf
  have hE2 : ∀ U : State, U.heap = s.heap → s.WarmedH U.vm → TxE B aK aV U := fun U h1 h2 => TxE.moved h2.alike (fun q _ => by rw [h1]) hE
  have fix : CallFix p m c cChk 2 s [.int i, .int n].toArray mTbl jS := ⟨hx, hb, hml, hown, hj⟩
  have hl := lv_entry [.int i, .int n] (n := 2) (Nat.le_of_ble_eq_true rfl)
  rw [lg_entry_eq]
  generalize (lg_sl [.int i, .int n] ++ List.replicate (2 - (lg_sl [.int i, .int n]).length) Slot.unset).toArray = ls at hl ⊢
  have hl : lv_has ls 2 [(0, .int i), (1, .int n)] := hl
  have hsz : ls.size = 2 := hl.1
  refine lv_iload_n hx hb dChk.1 rfl (lv_at hl 0 rfl) ?_
  refine lv_iload_n hx hb dChk.2.1 rfl (lv_at hl 1 rfl) ?_
  have go : ∀ q : Value, (q = .null ∨ ∃ t, q = .ref t) → va_Z jP "SIOOBE_FORMATTER" jB q (fun q => B ≤ q) s s.heap → W p l e (jRm 1 22) s m [.int i, .int n].toArray below meth c s.heap [] 0 0 (MQ below (jPost none) [.int i, .int n].toArray s 0 0 (fun _ => False)) (F0 m 2 ls [.int n, .int i]) := by
    intro q hq hZ
    refine va_gets hx hb hZ hS hown (hj _ (jW_at (i := 26) rfl)) (fun _ h => h) dChk.2.2.1 ?_
    refine j_back (va_runS (ret := some .int) (y := yPre) (bytes := cPre) (maxL := 3) (n := 3) (As := [.int i, .int n, q]) fix (m_pre (l := l) (B := B) (aK := aK) (aV := aV) hq h0 h1) ⟨callB_of 3 hj (j_memS (jW_at (i := 29) rfl)) rfl rfl rfl (hj _ (jW_at (i := 2) rfl)) (hj _ (jW_at (i := 27) rfl)) (by decide +kernel) (by decide), hj _ (jW_at (i := 28) rfl)⟩ ⟨jPre.blind, fun U h1 h2 => ⟨rfl, hE2 U h1 h2⟩⟩ rfl rfl hsz rfl (Nat.le_of_ble_eq_true rfl) dChk.2.2.2.1 (by decide)) ?_
    refine lv_pop hx hb (va := .int i) dChk.2.2.2.2.1 rfl ?_
    exact W.vret hx hb hr (fun t ht hW => ⟨rfl, ht⟩) (fun z hz => by cases hz) dChk.2.2.2.2.2
  rcases hE.2.2 with hZ | ⟨t, hZ⟩
  · exact go _ (Or.inl rfl) hZ
  · exact go _ (Or.inr ⟨t, rfl⟩) hZ
set_option maxHeartbeats 1000000 in
theorem m_lat {i : Nat} (hi : i < 4) : Met l yLat (.code yLat cLat 1 (some .boolean) :: mTbl) (jRm 0 0) (jPre B aK aV [.ref (aK i)]) (jPost (some (.int 1))) 0 0 (fun _ => False) := by
  refine Met.ofW (cc := cLat) (maxL := 1) (ret := some .boolean) (by decide) rfl ?_
  intro p e s m args below meth c s₁ Bo hml hv
  obtain ⟨rfl, hE⟩ := hv
  have hx := Bo.exec
  have hb := Bo.bytes
  have hr := Bo.returns
  have hlocks := Bo.notSynchronized
  have hts := atoms_spec (ws := .code yLat cLat 1 (some .boolean) :: mTbl) Bo.pre
  have hj : ∀ w ∈ mTbl, w.before [.ref (aK i)].toArray s = true := fun w hw => hts w (List.mem_cons_of_mem _ hw)
  have hown : s.vm.findClass jS = some m.cls := findClass_of_methodNamed Bo.named
  have hS : va_S (fun q => B ≤ q) s.heap s.heap [] := va_S.rf
  have hE2 : ∀ U : State, U.heap = s.heap → s.WarmedH U.vm → TxE B aK aV U := fun U h1 h2 => TxE.moved h2.alike (fun q _ => by rw [h1]) hE
  have fix : CallFix p m c cLat 1 s [.ref (aK i)].toArray mTbl jS := ⟨hx, hb, hml, hown, hj⟩
  have hl := lv_entry [.ref (aK i)] (n := 1) (Nat.le_of_ble_eq_true rfl)
  rw [lg_entry_eq]
  generalize (lg_sl [.ref (aK i)] ++ List.replicate (1 - (lg_sl [.ref (aK i)]).length) Slot.unset).toArray = ls at hl ⊢
  have hl : lv_has ls 1 [(0, .ref (aK i))] := hl
  have hsz : ls.size = 1 := hl.1
  refine va_gets hx hb hE.2.1 hS hown (hj _ (jW_at (i := 11) rfl)) (fun _ h => h) dLat.1 ?_
  refine lv_if_eq hx hb dLat.2.1 (tgt := 17) rfl (fun z => absurd z (by decide)) (fun _ => ?_)
  refine lv_aload_n hx hb dLat.2.2.1 rfl (lv_at hl 0 rfl) ?_
  refine vk_getf hx hb (hE.1.1 i hi).2.1 hS hown (hj _ (jW_at (i := 31) rfl)) (fun _ h => h) dLat.2.2.2.1 ?_
  refine lv_if_ne hx hb dLat.2.2.2.2.1 (tgt := 17) rfl (fun z => absurd rfl z) (fun _ => ?_)
  refine lv_iconst (v := 1) hx hb dLat.2.2.2.2.2.1 (by decide) ?_
  refine lv_goto hx hb dLat.2.2.2.2.2.2.1 (tgt := 18) rfl ?_
  exact W.zret (v := 1) hx hb hr rfl (fun t ht hW => ⟨rfl, ht⟩) (fun z hz => by cases hz) dLat.2.2.2.2.2.2.2
set_option maxHeartbeats 1000000 in
theorem m_cod {i : Nat} (hi : i < 4) : Met l yCod (.code yCod cCod 1 (some .byte) :: mTbl) (jRm 0 0) (jPre B aK aV [.ref (aK i)]) (jPost (some (.int 0))) 0 0 (fun _ => False) := by
  refine Met.ofW (cc := cCod) (maxL := 1) (ret := some .byte) (by decide) rfl ?_
  intro p e s m args below meth c s₁ Bo hml hv
  obtain ⟨rfl, hE⟩ := hv
  have hx := Bo.exec
  have hb := Bo.bytes
  have hr := Bo.returns
  have hlocks := Bo.notSynchronized
  have hts := atoms_spec (ws := .code yCod cCod 1 (some .byte) :: mTbl) Bo.pre
  have hj : ∀ w ∈ mTbl, w.before [.ref (aK i)].toArray s = true := fun w hw => hts w (List.mem_cons_of_mem _ hw)
  have hown : s.vm.findClass jS = some m.cls := findClass_of_methodNamed Bo.named
  have hS : va_S (fun q => B ≤ q) s.heap s.heap [] := va_S.rf
  have hE2 : ∀ U : State, U.heap = s.heap → s.WarmedH U.vm → TxE B aK aV U := fun U h1 h2 => TxE.moved h2.alike (fun q _ => by rw [h1]) hE
  have fix : CallFix p m c cCod 1 s [.ref (aK i)].toArray mTbl jS := ⟨hx, hb, hml, hown, hj⟩
  have hl := lv_entry [.ref (aK i)] (n := 1) (Nat.le_of_ble_eq_true rfl)
  rw [lg_entry_eq]
  generalize (lg_sl [.ref (aK i)] ++ List.replicate (1 - (lg_sl [.ref (aK i)]).length) Slot.unset).toArray = ls at hl ⊢
  have hl : lv_has ls 1 [(0, .ref (aK i))] := hl
  have hsz : ls.size = 1 := hl.1
  refine va_gets hx hb hE.2.1 hS hown (hj _ (jW_at (i := 11) rfl)) (fun _ h => h) dCod.1 ?_
  refine lv_if_eq hx hb dCod.2.1 (tgt := 13) rfl (fun z => absurd z (by decide)) (fun _ => ?_)
  refine lv_aload_n hx hb dCod.2.2.1 rfl (lv_at hl 0 rfl) ?_
  refine vk_getf hx hb (hE.1.1 i hi).2.1 hS hown (hj _ (jW_at (i := 31) rfl)) (fun _ h => h) dCod.2.2.2.1 ?_
  refine lv_goto hx hb dCod.2.2.2.2.1 (tgt := 14) rfl ?_
  exact W.zret (v := 0) hx hb hr rfl (fun t ht hW => ⟨rfl, ht⟩) (fun z hz => by cases hz) dCod.2.2.2.2.2
theorem tx_shr : ∀ i < 4, Int32.ofNat (txN.getD i 0) >>> ((0 : Int32) &&& 31) = Int32.ofInt (txLen i) := by decide +kernel
theorem tx_ch : ∀ i < 4, ∀ j < txN.getD i 0, ((((txB.getD i []).getD j 0) &&& 255).toUInt32 % 65536).toInt32 = Int32.ofInt (txAt i j) ∧ narrow .char (.int (Int32.ofInt (txAt i j))) = .int (Int32.ofInt (txAt i j)) := by decide +kernel
theorem tx_len : ∀ i < 4, txN.getD i 0 = txLen i ∧ txLen i ≤ 5 := by decide +kernel
set_option maxHeartbeats 1000000 in
theorem m_len {i : Nat} (hi : i < 4) : Met l yLen (.code yLen cLen 1 (some .int) :: mTbl) (jRm 1 20) (jPre B aK aV [.ref (aK i)]) (jPost (some (.int (Int32.ofInt (txLen i))))) 0 0 (fun _ => False) := by
  refine Met.ofW (cc := cLen) (maxL := 1) (ret := some .int) (by decide) rfl ?_
  intro p e s m args below meth c s₁ Bo hml hv
  obtain ⟨rfl, hE⟩ := hv
  have hx := Bo.exec
  have hb := Bo.bytes
  have hr := Bo.returns
  have hlocks := Bo.notSynchronized
  have hts := atoms_spec (ws := .code yLen cLen 1 (some .int) :: mTbl) Bo.pre
  have hj : ∀ w ∈ mTbl, w.before [.ref (aK i)].toArray s = true := fun w hw => hts w (List.mem_cons_of_mem _ hw)
  have hown : s.vm.findClass jS = some m.cls := findClass_of_methodNamed Bo.named
  have hS : va_S (fun q => B ≤ q) s.heap s.heap [] := va_S.rf
  have hE2 : ∀ U : State, U.heap = s.heap → s.WarmedH U.vm → TxE B aK aV U := fun U h1 h2 => TxE.moved h2.alike (fun q _ => by rw [h1]) hE
  have fix : CallFix p m c cLen 1 s [.ref (aK i)].toArray mTbl jS := ⟨hx, hb, hml, hown, hj⟩
  have hl := lv_entry [.ref (aK i)] (n := 1) (Nat.le_of_ble_eq_true rfl)
  rw [lg_entry_eq]
  generalize (lg_sl [.ref (aK i)] ++ List.replicate (1 - (lg_sl [.ref (aK i)]).length) Slot.unset).toArray = ls at hl ⊢
  have hl : lv_has ls 1 [(0, .ref (aK i))] := hl
  have hsz : ls.size = 1 := hl.1
  refine lv_aload_n hx hb dLen.1 rfl (lv_at hl 0 rfl) ?_
  refine vk_getf hx hb (hE.1.1 i hi).2.2.1 hS hown (hj _ (jW_at (i := 30) rfl)) (fun _ h => h) dLen.2.1 ?_
  refine va_tlen hx hb (hE.1.1 i hi).2.2.2 hS rfl dLen.2.2.1 ?_
  refine lv_aload_n hx hb dLen.2.2.2.1 rfl (lv_at hl 0 rfl) ?_
  refine j_back (va_runV (ret := some .byte) (y := yCod) (bytes := cCod) (maxL := 1) (n := 0) (As := []) fix (m_cod (l := l) (B := B) (aK := aK) (aV := aV) hi) (cwV 0 hj (j_memV (jW_at (i := 7) rfl) (jW_at (i := 8) rfl) (jW_at (i := 9) rfl) (jW_at (i := 0) rfl) (jW_at (i := 10) rfl)) rfl rfl rfl (by decide +kernel) (by decide)) ⟨jPre.blind, vk_recv hE.1 hi hS, fun U h1 h2 => ⟨rfl, hE2 U h1 h2⟩⟩ rfl rfl hsz rfl (Nat.le_of_ble_eq_true rfl) dLen.2.2.2.2.1 (by decide)) ?_
  refine lv_ishr hx hb dLen.2.2.2.2.2.1 ?_
  rw [tx_shr i hi]
  exact W.iret hx hb hr (fun t ht hW => ⟨rfl, ht⟩) (fun z hz => by cases hz) dLen.2.2.2.2.2.2
set_option maxHeartbeats 1000000 in
theorem m_lch {i j : Nat} (hi : i < 4) (hj9 : j < txLen i) : Met l yLch (.code yLch cLch 2 (some .char) :: mTbl) (jRm 2 43) (jPre B aK aV [.ref (aV i), .int (Int32.ofNat j)]) (jPost (some (.int (Int32.ofInt (txAt i j))))) 0 0 (fun _ => False) := by
  refine Met.ofW (cc := cLch) (maxL := 2) (ret := some .char) (by decide) rfl ?_
  intro p e s m args below meth c s₁ Bo hml hv
  obtain ⟨rfl, hE⟩ := hv
  have hx := Bo.exec
  have hb := Bo.bytes
  have hr := Bo.returns
  have hlocks := Bo.notSynchronized
  have hts := atoms_spec (ws := .code yLch cLch 2 (some .char) :: mTbl) Bo.pre
  have hj : ∀ w ∈ mTbl, w.before [.ref (aV i), .int (Int32.ofNat j)].toArray s = true := fun w hw => hts w (List.mem_cons_of_mem _ hw)
  have hown : s.vm.findClass jL = some m.cls := findClass_of_methodNamed Bo.named
  have hS : va_S (fun q => B ≤ q) s.heap s.heap [] := va_S.rf
  have hE2 : ∀ U : State, U.heap = s.heap → s.WarmedH U.vm → TxE B aK aV U := fun U h1 h2 => TxE.moved h2.alike (fun q _ => by rw [h1]) hE
  have fix : CallFix p m c cLch 2 s [.ref (aV i), .int (Int32.ofNat j)].toArray mTbl jL := ⟨hx, hb, hml, hown, hj⟩
  have hl := lv_entry [.ref (aV i), .int (Int32.ofNat j)] (n := 2) (Nat.le_of_ble_eq_true rfl)
  rw [lg_entry_eq]
  generalize (lg_sl [.ref (aV i), .int (Int32.ofNat j)] ++ List.replicate (2 - (lg_sl [.ref (aV i), .int (Int32.ofNat j)]).length) Slot.unset).toArray = ls at hl ⊢
  have hl : lv_has ls 2 [(0, .ref (aV i)), (1, .int (Int32.ofNat j))] := hl
  have hsz : ls.size = 2 := hl.1
  obtain ⟨el, hl5⟩ := tx_len i hi
  have hjn : j < txN.getD i 0 := by omega
  have hn0 : ¬ Int32.ofNat j < 0 := by
    have : ∀ j < 5, ¬ Int32.ofNat j < 0 := by decide
    exact this j (by omega)
  have hn1 : Int32.ofNat j < Int32.ofNat (txN.getD i 0) := by
    have : ∀ n < 6, ∀ j < n, Int32.ofNat j < Int32.ofNat n := by decide
    exact this _ (by omega) j hjn
  have hc : (Int32.ofNat j).toNatClampNeg = j := by
    have : ∀ j < 5, (Int32.ofNat j).toNatClampNeg = j := by decide
    exact this j (by omega)
  refine lv_iload_n hx hb dLch.1 rfl (lv_at hl 1 rfl) ?_
  refine lv_aload_n hx hb dLch.2.1 rfl (lv_at hl 0 rfl) ?_
  refine va_tlen hx hb (hE.1.1 i hi).2.2.2 hS rfl dLch.2.2.1 ?_
  refine j_back (va_runS (ret := none) (y := yChk) (bytes := cChk) (maxL := 2) (n := 2) (As := [.int (Int32.ofNat j), .int (Int32.ofNat (txN.getD i 0))]) fix (m_chk (l := l) (B := B) (aK := aK) (aV := aV) hn0 hn1) ⟨callB_of 2 hj (j_memS (jW_at (i := 25) rfl)) rfl rfl rfl (hj _ (jW_at (i := 0) rfl)) (hj _ (jW_at (i := 23) rfl)) (by decide +kernel) (by decide), hj _ (jW_at (i := 24) rfl)⟩ ⟨jPre.blind, fun U h1 h2 => ⟨rfl, hE2 U h1 h2⟩⟩ rfl rfl hsz rfl (Nat.le_of_ble_eq_true rfl) dLch.2.2.2.1 (by decide)) ?_
  refine lv_aload_n hx hb dLch.2.2.2.2.1 rfl (lv_at hl 0 rfl) ?_
  refine lv_iload_n hx hb dLch.2.2.2.2.2.1 rfl (lv_at hl 1 rfl) ?_
  refine va_tb hx hb (hE.1.1 i hi).2.2.2 hS (i := Int32.ofNat j) (fun z => z.elim hn0 (fun z => by rw [hc] at z; omega)) (v := .int ((txB.getD i []).getD j 0)) (by rw [hc]) dLch.2.2.2.2.2.2.1 ?_
  refine lv_sipush (v := 255) hx hb dLch.2.2.2.2.2.2.2.1 (by decide) ?_
  refine lv_iand hx hb dLch.2.2.2.2.2.2.2.2.1 ?_
  refine lv_i2c hx hb dLch.2.2.2.2.2.2.2.2.2.1 (tx_ch i hi j hjn).1 ?_
  exact W.zret hx hb hr (tx_ch i hi j hjn).2 (fun t ht hW => ⟨rfl, ht⟩) (fun z hz => by cases hz) dLch.2.2.2.2.2.2.2.2.2.2
set_option maxHeartbeats 1000000 in
theorem m_chr {i j : Nat} (hi : i < 4) (hj9 : j < txLen i) : Met l yChr (.code yChr cChr 2 (some .char) :: mTbl) (jRm 3 64) (jPre B aK aV [.ref (aK i), .int (Int32.ofNat j)]) (jPost (some (.int (Int32.ofInt (txAt i j))))) 0 0 (fun _ => False) := by
  refine Met.ofW (cc := cChr) (maxL := 2) (ret := some .char) (by decide) rfl ?_
  intro p e s m args below meth c s₁ Bo hml hv
  obtain ⟨rfl, hE⟩ := hv
  have hx := Bo.exec
  have hb := Bo.bytes
  have hr := Bo.returns
  have hlocks := Bo.notSynchronized
  have hts := atoms_spec (ws := .code yChr cChr 2 (some .char) :: mTbl) Bo.pre
  have hj : ∀ w ∈ mTbl, w.before [.ref (aK i), .int (Int32.ofNat j)].toArray s = true := fun w hw => hts w (List.mem_cons_of_mem _ hw)
  have hown : s.vm.findClass jS = some m.cls := findClass_of_methodNamed Bo.named
  have hS : va_S (fun q => B ≤ q) s.heap s.heap [] := va_S.rf
  have hE2 : ∀ U : State, U.heap = s.heap → s.WarmedH U.vm → TxE B aK aV U := fun U h1 h2 => TxE.moved h2.alike (fun q _ => by rw [h1]) hE
  have fix : CallFix p m c cChr 2 s [.ref (aK i), .int (Int32.ofNat j)].toArray mTbl jS := ⟨hx, hb, hml, hown, hj⟩
  have hl := lv_entry [.ref (aK i), .int (Int32.ofNat j)] (n := 2) (Nat.le_of_ble_eq_true rfl)
  rw [lg_entry_eq]
  generalize (lg_sl [.ref (aK i), .int (Int32.ofNat j)] ++ List.replicate (2 - (lg_sl [.ref (aK i), .int (Int32.ofNat j)]).length) Slot.unset).toArray = ls at hl ⊢
  have hl : lv_has ls 2 [(0, .ref (aK i)), (1, .int (Int32.ofNat j))] := hl
  have hsz : ls.size = 2 := hl.1
  obtain ⟨el, hl5⟩ := tx_len i hi
  refine lv_aload_n hx hb dChr.1 rfl (lv_at hl 0 rfl) ?_
  refine j_back (va_runV (ret := some .boolean) (y := yLat) (bytes := cLat) (maxL := 1) (n := 0) (As := []) fix (m_lat (l := l) (B := B) (aK := aK) (aV := aV) hi) (cwV 0 hj (j_memV (jW_at (i := 16) rfl) (jW_at (i := 17) rfl) (jW_at (i := 18) rfl) (jW_at (i := 0) rfl) (jW_at (i := 19) rfl)) rfl rfl rfl (by decide +kernel) (by decide)) ⟨jPre.blind, vk_recv hE.1 hi hS, fun U h1 h2 => ⟨rfl, hE2 U h1 h2⟩⟩ rfl rfl hsz rfl (Nat.le_of_ble_eq_true rfl) dChr.2.1 (by decide)) ?_
  refine lv_if_eq hx hb dChr.2.2.1 (tgt := 16) rfl (fun z => absurd z (by decide)) (fun _ => ?_)
  refine lv_aload_n hx hb dChr.2.2.2.1 rfl (lv_at hl 0 rfl) ?_
  refine vk_getf hx hb (hE.1.1 i hi).2.2.1 hS hown (hj _ (jW_at (i := 30) rfl)) (fun _ h => h) dChr.2.2.2.2.1 ?_
  refine lv_iload_n hx hb dChr.2.2.2.2.2.1 rfl (lv_at hl 1 rfl) ?_
  refine j_back (va_runS (ret := some .char) (y := yLch) (bytes := cLch) (maxL := 2) (n := 2) (As := [.ref (aV i), .int (Int32.ofNat j)]) fix (m_lch (l := l) (B := B) (aK := aK) (aV := aV) hi hj9) ⟨callB_of 2 hj (j_memS (jW_at (i := 22) rfl)) rfl rfl rfl (hj _ (jW_at (i := 1) rfl)) (hj _ (jW_at (i := 20) rfl)) (by decide +kernel) (by decide), hj _ (jW_at (i := 21) rfl)⟩ ⟨jPre.blind, fun U h1 h2 => ⟨rfl, hE2 U h1 h2⟩⟩ rfl rfl hsz rfl (Nat.le_of_ble_eq_true rfl) dChr.2.2.2.2.2.2.1 (by decide)) ?_
  exact W.zret hx hb hr (tx_ch i hi j (by omega)).2 (fun t ht hW => ⟨rfl, ht⟩) (fun z hz => by cases hz) dChr.2.2.2.2.2.2.2
end Jm
