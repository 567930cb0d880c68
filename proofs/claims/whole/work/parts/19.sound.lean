/-! by induction on the fuel -/
/-- a body without a table: a throw leaves it -/
def ExLaw (l : Launch) (D : va_G) (B : Nat) (sa : Nat → Nat) (ca : Nat → ClassId) (sc : Scr) (Z : State → Prop) : Prop :=
  ∀ (y d k : Nat) (hs hs2 : HS), y ∈ codL → ∀ (p : Program) (e : Env) (s : State) (m : MethodId) (args : Array Value) (below : List Frame) (meth : Method) (c : Code), Cx p s m args meth c D B sa ca sc Z y → meth.locks = false → c.exceptionTable.isEmpty = true →
    EndO p l e (rmO d (hs2.2.2.2.1 - hs.2.2.2.1) (hs2.2.2.2.2 - hs.2.2.2.2)) s m args below meth c (xMQ D B sa ca hs2 k (hs2.2.2.2.1 - hs.2.2.2.1) (hs2.2.2.2.2 - hs.2.2.2.2) below args s) D B sa ca y hs.2.2.2.1 hs.2.2.2.2 (.inr k) hs2
section Sound
variable {l : Launch} {D : va_G} {B : Nat} {sa : Nat → Nat} {ca : Nat → ClassId} {sc : Scr} {Z : State → Prop}
theorem Cx.ev {p : Program} {s : State} {m : MethodId} {args : Array Value} {meth : Method} {c : Code} {y : Nat} (X : Cx p s m args meth c D B sa ca sc Z y) : EvO D B sa ca sc Z s := ⟨X.2.2.2.2.2.1, X.2.2.2.2.2.2.1, X.2.2.2.2.2.2.2.2.1, X.2.2.2.2.2.2.2.2.2.1, X.2.2.2.2.2.2.2.2.2.2⟩
theorem rel_low {p : Program} {s : State} {m : MethodId} {args : Array Value} {meth : Method} {c : Code} {y : Nat} {H : Heap} {locs : List Loc} {cells : Nat} {hs : HS} (X : Cx p s m args meth c D B sa ca sc Z y) (hr : Rel D B sa ca s H locs cells hs) : B + hs.2.1 ≤ H.size := by
  rcases Nat.eq_zero_or_pos hs.2.1 with h | h
  · rw [h, Nat.add_zero]
    exact Nat.le_trans X.2.2.2.2.2.2.1 hr.2.1.1
  · have h1 : hs.2.1 - 1 < hs.2.1 := by omega
    have h2 : (B + (hs.2.1 - 1) : Nat) < H.size := (hr.1 _ _ (wsO_get (B := B) (sa := sa) (ca := ca) h1)).lt
    omega
theorem pc_ok {p : Program} {s : State} {m : MethodId} {args : Array Value} {meth : Method} {c : Code} {y : Nat} {H : Heap} {locs : List Loc} {cells : Nat} {hs : HS} {as : List V} (X : Cx p s m args meth c D B sa ca sc Z y) (hZ : ZOk B Z) (hr : Rel D B sa ca s H locs cells hs) (hz : H.size ≤ s.heap.size + cells) :
    ∀ U : State, U.heap = H → s.WarmedH U.vm → PcO D B sa ca sc Z hs as (as.map (mv B sa)).toArray U := by
  intro U hU hW
  refine ⟨rfl, by rw [hU]; exact hr.1, fun q => ?_, EvO.moved hZ X.ev hW (by rw [hU]; exact hr.2.1.1) (fun q hq => ?_)⟩
  · have h1 := hr.2.2 q
    have h2 := rel_low X hr
    rw [hU]
    omega
  · rw [hU]
    exact hr.2.1.2.1 q (Nat.lt_of_lt_of_le hq X.2.2.2.2.2.2.1) (by omega)
/-- behind a call -/
theorem rel_back {s st₀ t : State} {H : Heap} {locs L : List Loc} {cells : Nat} {hs hs3 : HS} (hr : Rel D B sa ca s H locs cells hs) (h0 : st₀.heap = H) (hP : va_P D mCl (wsO B sa ca hs3) t.heap) (hF : va_F (fun q => B ≤ q) st₀ t) (hL : ∀ z ∈ L, B ≤ z.base)
    (hcnt : hs.2.2.2.1 ≤ hs3.2.2.2.1 ∧ hs.2.2.2.2 ≤ hs3.2.2.2.2 ∧ (hs3.2.2.1 = true → hs.2.2.1 = true ∧ hs3.2.1 + hs.2.2.2.1 = hs.2.1 + hs3.2.2.2.1)) : Rel D B sa ca s t.heap (locs ++ L) (cells + (hs3.2.2.2.1 - hs.2.2.2.1)) hs3 := by
  obtain ⟨f1, f2⟩ := hF
  rw [h0] at f1 f2
  refine ⟨hP, ⟨Nat.le_trans hr.2.1.1 f1, fun q h1 h2 => ?_, fun z hz => ?_⟩, fun q => ?_⟩
  · rw [f2 q (Nat.lt_of_lt_of_le h1 hr.2.1.1) h2]
    exact hr.2.1.2.1 q h1 h2
  · rcases List.mem_append.mp hz with hz | hz
    · exact hr.2.1.2.2 z hz
    · exact hL z hz
  · obtain ⟨q1, q2⟩ := hcnt.2.2 q
    have := hr.2.2 q1
    omega
set_option maxHeartbeats 4000000 in
theorem snd_main (hZ : ZOk B Z) (hN : ∀ U, Z U → NstO U) (hTx : TxLaw l D B sa ca sc Z) (hCt : CtLaw l D B sa ca sc Z) (hCc : CcLaw l D B sa ca sc Z) (hCw : CwLaw l D B sa ca sc Z) (hEx : ExLaw l D B sa ca sc Z) : ∀ n, SndAt l D B sa ca sc Z n := by
  intro n
  induction n with
  | zero => intro d y pc lv st hs r hs2 h; cases h
  | succ n ih =>
    intro d y pc lv st hs r hs2 h p e R s m args below meth c Q X hR H locs cells slots ls c0 s0 hr hl hc hz hRc hRs hE
    unfold exec at h
    split at h
    · cases h
    · rename_i pc3 lv3 st3 hs3 h3
      have a2 := exec_cnt _ _ _ _ _ _ _ _ _ h
      have hR2 : 8 ≤ R.frames ∧ 512 ≤ R.locals := by omega
      exact snd_step X hR2 (hTx p e R s m args below meth c Q y X hR2) h3 H locs cells slots ls c0 s0 hr hl hc hz (by omega) (by omega)
        (fun H2 locs2 cells2 slots2 ls2 r2 l2 c2 z2 => ih _ _ _ _ _ _ _ _ h p e R s m args below meth c Q X hR H2 locs2 cells2 slots2 ls2 c0 s0 r2 l2 c2 z2 hRc hRs hE)
    · rename_i y2 as r9 nx h3
      split at h
      · rename_i hd
        obtain ⟨i9, x9, -, -, hx1, hx2, hx3, -, has, -⟩ := stp_call h3
        have hlen : as.length = x9 := by rw [has, List.length_reverse, List.length_take]; omega
        have hcat : catS as = as.length := by
          rw [hlen, has]
          have hrv : ∀ z : List V, catS z.reverse = catS z := by
            intro z
            have := cat_map (B := B) (sa := sa) (st := z.reverse)
            rw [← this, List.map_reverse, List.map_reverse, List.sum_reverse]
            exact cat_map
          rw [hrv]
          exact hx3
        have hn9 : as.length ≤ mMaxL.getD y2 0 := by rw [hlen]; exact hx2
        split at h
        · rename_i v hs3 h4
          have a1 := exec_cnt _ _ _ _ _ _ _ _ _ h4
          have a2 := exec_cnt _ _ _ _ _ _ _ _ _ h
          by_cases hcod : y2 ∈ codL
          · have hy : y2 < 275 := by simpa using mem_all codL_lt hcod
            have hM := met_of ih hcod hn9 hcat h4
            refine W.sized (fun hsz => ?_)
            obtain ⟨rfl, hrun⟩ := call_run (e := e) (below := below) (ls := ls) (locs := locs) (cells := cells) (slots := slots) X hN hZ h3 hcod hM hd hR hr hl.1 (pc_ok X hZ hr hsz) (by omega)
            intro T hT XT
            obtain ⟨v9, st₀, t, T9, L, h0, X9, hL, e1, e2, ⟨hv, hP2, hF⟩, hst⟩ := hrun T hT XT
            have hv2 : v9 = v.map (mv B sa) := by cases hv; rfl
            subst hv2
            have r3 := rel_back hr h0 hP2 hF hL a1
            rw [← e1] at r3
            obtain ⟨t2, b1, b2⟩ := ih _ _ _ _ _ _ _ _ h p e R s m args below meth c Q X hR T9.heap (locs ++ L) _ (slots + (hs3.2.2.2.2 - hs.2.2.2.2)) ls c0 s0 r3 hl (by omega) (by omega) hRc hRs hE T9 rfl X9
            refine ⟨t2, hst t2 ?_, b2⟩
            have e9 : ((v.map (mv B sa)).toList ++ r9.map (mv B sa)) = (v.toList ++ r9).map (mv B sa) := by cases v <;> rfl
            rw [e9]
            exact b1
          · exact hCw n ih p e R s m args below meth c Q y pc lv st hs hs3 y2 nx d as r9 v H locs cells slots ls c0 s0 X h3 hcod hn9 hcat h4 hd hR hr hl hc hz (by omega) (by omega) (fun H2 locs2 cells2 slots2 r2 c2 z2 => ih _ _ _ _ _ _ _ _ h p e R s m args below meth c Q X hR H2 locs2 cells2 slots2 ls c0 s0 r2 hl c2 z2 hRc hRs hE)
        · rename_i k hs3 h4
          have a1 := exec_cnt _ _ _ _ _ _ _ _ _ h4
          split at h
          case isFalse => cases h
          rename_i hisv
          have hle : hs3.2.2.2.1 ≤ hs2.2.2.2.1 ∧ hs3.2.2.2.2 ≤ hs2.2.2.2.2 := by
            split at h
            · have a2 := exec_cnt _ _ _ _ _ _ _ _ _ h
              exact ⟨a2.1, a2.2.1⟩
            · simp only [Option.some.injEq, Prod.mk.injEq] at h
              obtain ⟨-, rfl⟩ := h
              exact ⟨Nat.le_refl _, Nat.le_refl _⟩
          have hcod := isV_cod hisv h3
          · have hM := xmet_of ih (hEx y2 (d - 1) k hs hs3 hcod) hcod hn9 hcat h4
            refine W.sized (fun hsz => ?_)
            refine hCt p e R s m args below meth c Q y pc lv st hs hs3 y2 nx d _ _ k as r9 H locs cells slots ls X h3 hisv hcod hM hd hR hr hl.1 (pc_ok X hZ hr hsz) (by omega) (fun H1 L q ce st₀ t h0 ht hP2 hF hL hce hcv hcl => ?_)
            rw [← ht] at hP2 hce ⊢
            have r3 := rel_back hr h0 hP2 hF hL a1
            cases hh : hnd y pc k with
            | some jp =>
              obtain ⟨j, pc3⟩ := jp
              rw [hh] at h
              exact hCc p e R s m args below meth c Q y pc k j pc3 lv t.heap (locs ++ L) _ _ ls _ q ce X hh hl hce hcv hcl (fun ls2 l2 => ih _ _ _ _ _ _ _ _ h p e R s m args below meth c Q X hR t.heap (locs ++ L) _ _ ls2 c0 s0 r3 l2 (by omega) (by omega) hRc hRs hE)
            | none =>
              rw [hh] at h
              simp only [Option.some.injEq, Prod.mk.injEq] at h
              obtain ⟨rfl, rfl⟩ := h
              exact (hE.2 k rfl).2 t.heap (locs ++ L) _ _ ls pc _ q ce r3 (by omega) (by omega) hce hcv hcl hh
        · cases h
      · cases h
    · rename_i r3 hs3 h3
      simp only [Option.some.injEq, Prod.mk.injEq] at h
      obtain ⟨rfl, rfl⟩ := h
      rcases stp_end h3 with ⟨i, x, nx, hcd, rfl, hi⟩ | ⟨k, nx, hcd, rfl, rfl, hst⟩
      · have hv : ∃ v, r3 = .inl v := by
          rcases hi with ⟨a, -, -, q, -⟩ | ⟨a, -, -, q, -⟩ | ⟨-, -, q, -⟩ <;> exact ⟨_, q⟩
        obtain ⟨v, hv⟩ := hv
        exact hE.1 v hv H locs cells slots ls pc x nx i st hr hc hz hcd hi
      · exact (hE.2 k rfl).1 H locs cells slots ls pc nx st hs hr hl.1 hc hz rfl hcd hst
end Sound
