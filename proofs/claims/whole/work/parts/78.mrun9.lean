/-! runs of the reference: a step -/
/-- what follows, melted along steps -/
def flwF (S : List (List Int)) (x : Int) : Int := S.foldl (fun x l => subT (l.getD 5 (-1)) (l.getD 6 (-1)) x) x
/-- all that a run of hall h stands on (reference) -/
def RIm (h : Int) (σ : St) : Prop := WfM σ ∧ gdB (σ 393) ∧ okS (coR σ h) (rnR σ h) ∧ ∀ r, 0 ≤ r → r < σ 375 h → okRl (coR σ h) (ruR σ h r)
theorem coR_in {σ : St} {h t : Int} (t0 : 0 ≤ t) (t1 : t ≤ 25) : coR σ h t = σ 374 (26 * h + t) := by unfold coR; rw [if_pos ⟨t0, t1⟩]
theorem atsF_mem {σ : St} {h r s i : Int} : ∀ (k : Nat) (j : Int), j ≤ i → i < j + k → atR σ h r s i ∈ atsF σ h r s k j := by
  intro k
  induction k with
  | zero => intro j z1 z2; omega
  | succ k ih =>
    intro j z1 z2
    rw [atsF]
    by_cases z3 : j = i
    · subst z3; exact List.mem_cons_self
    · exact List.mem_cons_of_mem _ (ih (j + 1) (by omega) (by omega))
theorem RIm.at_ {σ : St} {h r : Int} (H : RIm h σ) (h1 : 0 ≤ h) (h2 : h ≤ 4) (r0 : 0 ≤ r) (r1 : r < σ 375 h) : atC σ h r 0 (σ 376 (30 * (10 * h + r))) ∧ atC σ h r 1 (σ 376 (30 * (10 * h + r) + 2)) := by
  obtain ⟨W, _, _, hr⟩ := H
  have wm := W.rm h1 h2
  have wr := W.rul h1 h2 r0 (by omega)
  obtain ⟨_, ka, kb, _⟩ := hr r r0 r1
  refine ⟨fun i i0 i1 => ?_, fun i i0 i1 => ?_⟩
  · have ao := W.ato (s := 0) (i := i) h1 h2 r0 (by omega) (by omega) (by omega) i0 (by omega)
    have := (ka _ (atsF_mem (σ := σ) (h := h) (r := r) (s := 0) (i := i) (σ 376 (30 * (10 * h + r))).toNat 0 i0 (by omega))).2.2.1
    have e : (atR σ h r 0 i).1 = σ 376 (30 * (10 * h + r) + (3 + 4 * (3 * 0 + i))) := rfl
    rw [e, coR_in ao.1.1 ao.1.2] at this
    exact this
  · have ao := W.ato (s := 1) (i := i) h1 h2 r0 (by omega) (by omega) (by omega) i0 (by omega)
    have := (kb _ (atsF_mem (σ := σ) (h := h) (r := r) (s := 1) (i := i) (σ 376 (30 * (10 * h + r) + 2)).toNat 0 i0 (by omega))).2.2.1
    have e : (atR σ h r 1 i).1 = σ 376 (30 * (10 * h + r) + (3 + 4 * (3 * 1 + i))) := rfl
    rw [e, coR_in ao.1.1 ao.1.2] at this
    exact this
theorem Mf.su3 {h i x : Int} {σ : St} (W : WfM σ) (hi : i ≠ 14 ∧ i ≠ 20 ∧ i ≠ 21 ∧ i ≠ 37 ∧ i ≠ 42 ∧ i ≠ 44) (hz : i ≠ 0) : Mf h σ (su σ 373 i x) ∧ rnR (su σ 373 i x) h = rnR σ h := by
  have D : Dt σ (su σ 373 i x) := Dt.dsu3 (by omega)
  exact ⟨Mf.dt W D.1 (RsR.su3 hi) (su_off (fun e => hz e.symm)), D.rn⟩
section M9
variable {sc : Scr} {h r : Int}
set_option maxHeartbeats 2000000 in
theorem s_stepR {σ : St} {d : Nat} {q : List Rw} (hd : 6 ≤ d) (H : RIm h σ) (h1 : 0 ≤ h) (h2 : h ≤ 4) (r0 : 0 ≤ r) (r1 : r < σ 375 h) (hs : σ 383 h ≤ 99) (ho : openL (ruR σ h r) (rsR σ h) = some q) (hq : ∀ (j : Nat) (w : Rw), q[j]? = some w → σ 391 j = w.1) :
    ∃ τ k, Mf h σ τ ∧ (rnR τ h, k) = stepA r (ruR σ h r) q (rnR σ h) ∧ τ 382 = σ 382 ∧ gdB (τ 393) ∧ (k = 0 → ∃ l, (rnR τ h).2.2.2.1 = stR σ h ++ [l] ∧ ∀ v, 0 ≤ v → v ≤ 25 → τ 393 v = subT (l.getD 5 (-1)) (l.getD 6 (-1)) (σ 393 v)) ∧ RnA sc d 243 0 [some (vR 373), some (vI h), some (vI r), none, none, none, none, none] σ (some (vI k)) τ := by
  obtain ⟨W, hf3, hok, hrl⟩ := H
  have wm := W.rm h1 h2
  have wr := W.rul h1 h2 r0 (by omega)
  obtain ⟨hc0, hc1⟩ := RIm.at_ ⟨W, hf3, hok, hrl⟩ h1 h2 r0 r1
  have hr := hrl r r0 r1
  obtain ⟨β, hβ, _⟩ := openL_mem ho
  have eb : bindA (ruR σ h r).2.1 q bd0 = β := hits_bind _ _ _ hβ
  obtain ⟨b1, b2, b3⟩ := bindA_ok hok.1 (ruR σ h r).2.1 bd0 (q, β) hr.2.1 okB_0 hβ
  obtain ⟨g, hg, hgβ, rb⟩ := s_binds (sc := sc) (d := d - 1) (q := q) (β := β) (by omega) W h1 h2 r0 (by omega) hc0 hβ hq
  have D1 : Dt σ (stB σ g) := Dt.dstB
  have M1 : Mf h σ (stB σ g) := Mf.dt W D1.1 (RsR.of (fun c _ _ => stB_ne (by omega)) (fun j _ => by rw [stB_ne (by omega)])) (by rw [stB_ne (by omega)])
  have W1 := D1.wf W
  have rn1 : rnR (stB σ g) h = rnR σ h := D1.rn
  have hlen : (q.length : Int) = σ 376 (30 * (10 * h + r)) := by
    have l1 := (hits_mem _ _ _ hβ).1
    have : ∀ (k : Nat) (i : Int), (atsF σ h r 0 k i).length = k := by
      intro k
      induction k with
      | zero => intro i; rfl
      | succ k ih => intro i; rw [atsF, List.length_cons, ih]
    have l2 : (ruR σ h r).2.1.length = (σ 376 (30 * (10 * h + r))).toNat := this _ _
    dsimp only at l1
    omega
  have e6 : stB σ g 376 = σ 376 := stB_ne (by omega)
  have e91 : stB σ g 391 = σ 391 := stB_ne (by omega)
  have e83 : stB σ g 383 h = σ 383 h := by rw [stB_ne (by omega)]
  have e93 : stB σ g 393 = σ 393 := stB_ne (by omega)
  have e82 : stB σ g 382 = σ 382 := stB_ne (by omega)
  have tl := fun (made a b : Int) => s_tells (sc := sc) (d := d - 1) (h := h) (r := r) (made := made) (a := a) (b := b) (q := q) (σ := stB σ g) (by omega) W1 h1 h2 r0 (by omega) (by rw [e83]; exact hs) (by rw [e6]; exact hlen) (by rw [e91]; exact hq)
  have tv := fun (made a b : Int) => tlS_v (σ := stB σ g) (h := h) (r := r) (made := made) (v0 := numO q[0]?) (v1 := numO q[1]?) (v2 := numO q[2]?) (a := a) (b := b) W1 h1 h2 (by rw [e83]; exact hs)
  have to := fun (made a b : Int) => (tlS_o (σ := stB σ g) (h := h) (r := r) (made := made) (v0 := numO q[0]?) (v1 := numO q[1]?) (v2 := numO q[2]?) (a := a) (b := b)).1
  rw [e83] at tl
  have rn1' : (rsR (stB σ g) h, stB σ g 381 h, naR (stB σ g) h, stR (stB σ g) h, byR (stB σ g) h) = rnR σ h := rn1
  have x1 : rsR (stB σ g) h = rsR σ h := congrArg (fun q : Rn => q.1) rn1'
  have x2 : stB σ g 381 h = σ 381 h := congrArg (fun q : Rn => q.2.1) rn1'
  have x3 : naR (stB σ g) h = naR σ h := congrArg (fun q : Rn => q.2.2.1) rn1'
  have x4 : stR (stB σ g) h = stR σ h := congrArg (fun q : Rn => q.2.2.2.1) rn1'
  have x5 : byR (stB σ g) h = byR σ h := congrArg (fun q : Rn => q.2.2.2.2) rn1'
  simp only [x1, x2, x3, x4, x5] at tv
  have e1z : stB σ g 376 (30 * (10 * h + r) + 1) = σ 376 (30 * (10 * h + r) + 1) := by rw [e6]
  have k1 : (ruR σ h r).1 = σ 376 (30 * (10 * h + r) + 1) := rfl
  unfold stepA
  dsimp only
  rw [k1, eb]
  by_cases k0 : σ 376 (30 * (10 * h + r) + 1) = 0
  · rw [if_pos k0]
    obtain ⟨τ, k, y1, y2, y3, y4, y5⟩ := s_makes (sc := sc) (d := d - 1) (h := h) (r := r) (σ := stB σ g) (q := q) (by omega) W1 h1 h2 r0 (by omega) (by rw [stB_at]; exact hg) (by rw [stB_at, hgβ]; exact b1) (by rw [e6]; exact atC_dt D1 hc1) (by rw [e83]; exact hs) (by rw [e6]; exact hlen) (by rw [e91]; exact hq) (by rw [x1]; exact hok.2.2.2.2.1)
    rw [stB_at, hgβ, rn1, D1.ru] at y2
    refine ⟨τ, k, M1.trans y1, y2, y3.trans e82, by rw [y4 393 (by omega), e93]; exact hf3, fun hk => ?_, fun u Q => ?_⟩
    · subst hk
      have yy : rnR τ h = (makeA r (ruR σ h r) q β (rnR σ h)).1 := congrArg Prod.fst y2
      have y0 : (makeA r (ruR σ h r) q β (rnR σ h)).2 = 0 := (congrArg Prod.snd y2).symm
      rw [yy]
      unfold makeA at y0 ⊢
      split at y0
      · cases y0
      · rename_i β' hβ'
        dsimp only at y0 ⊢
        split at y0
        · cases y0
        · rename_i hnr
          rw [if_neg hnr]
          refine ⟨_, rfl, fun v v0 v1 => ?_⟩
          rw [y4 393 (by omega), e93]
          show _ = subT (-1) (-1) _
          unfold subT
          split
          · rename_i z; exact z
          · rfl
    · simp (disch := first | omega | exact notL_I | exact notL_N | exact notL_R | exact oM | exact catS_le (Nat.le_of_ble_eq_true rfl) | exact Nat.le_of_ble_eq_true rfl | rfl) only [x243_0, x243_1, x243_2, x243_3, x243_6, x243_7, x243_8, x243_9, x243_10, x243_13, x243_14, x243_15, x243_16, x243_19, x243_20, x243_21, x243_22, x243_23, x243_24, x243_25, x243_26, x243_29, x243_32, x243_33, x243_34, x243_35, x243_36, x243_39, x243_40, x243_41, x243_42, x243_43, x243_45, x243_48, x243_51, x243_53, x243_54, x243_55, x243_56, x243_57, x243_59, x243_62, x243_65, x243_67, x243_69, x243_72, x243_75, x243_77, x243_80, x243_83, x243_84, x243_85, x243_86, x243_87, x243_88, x243_90, x243_92, x243_95, x243_98, x243_99, x243_100, x243_102, x243_105, x243_108, x243_110, x243_113, x243_115, x243_118, x243_121, x243_123, x243_126, x243_128, x243_130, x243_133, x243_135, x243_138, x243_140, x243_142, x243_144, x243_146, x243_149, x243_151, x243_154, x243_156, x243_158, x243_159, x243_160, x243_161, x243_162, x243_163, x243_165, x243_167, x243_170, x243_173, x243_174, x243_175, x243_177, x243_179, x243_182, x243_183, x243_184, x243_185, x243_186, x243_187, x243_190, rb u, s_rule, e1z, k0, y5 u, Kc_some, Kc_none, if_pos, if_neg, ↓reduceIte, not_true_eq_false, not_false_eq_true]
  · rw [if_neg k0]
    by_cases k2 : σ 376 (30 * (10 * h + r) + 1) = 1
    · rw [if_pos k2]
      obtain ⟨⟨p1, p2⟩, p3, p4⟩ := hr.2.2.2.2.2 k2
      have eL : (ruR σ h r).2.2.2.1 = σ 376 (30 * (10 * h + r) + 27) := if_pos k2
      have eR : (ruR σ h r).2.2.2.2 = σ 376 (30 * (10 * h + r) + 28) := if_pos k2
      rw [eL] at p1 p2
      rw [eR] at p3 p4
      have ta : isTm (worthB β (σ 376 (30 * (10 * h + r) + 27))) := worth_ok b1 p1 (fun z => b3 _ z (p2 z))
      have tb : isTm (worthB β (σ 376 (30 * (10 * h + r) + 28))) := worth_ok b1 p3 (fun z => b3 _ z (p4 z))
      have pi1 := isPl_in p1
      have pi3 := isPl_in p3
      unfold meltA
      dsimp only
      rw [eL, eR]
      have ea : worthB (stB σ g 389) (σ 376 (30 * (10 * h + r) + 27)) = worthB β (σ 376 (30 * (10 * h + r) + 27)) := by rw [stB_at, ← hgβ, worthB_c p1]
      have eb2 : worthB (stB σ g 389) (σ 376 (30 * (10 * h + r) + 28)) = worthB β (σ 376 (30 * (10 * h + r) + 28)) := by rw [stB_at, ← hgβ, worthB_c p3]
      have e27 : stB σ g 376 (30 * (10 * h + r) + 27) = σ 376 (30 * (10 * h + r) + 27) := by rw [e6]
      have e28 : stB σ g 376 (30 * (10 * h + r) + 28) = σ 376 (30 * (10 * h + r) + 28) := by rw [e6]
      generalize worthB β (σ 376 (30 * (10 * h + r) + 27)) = A at *
      generalize worthB β (σ 376 (30 * (10 * h + r) + 28)) = B at *
      have tA := isTm_in ta
      have tB := isTm_in tb
      by_cases hab : A < 1000 ∧ B < 1000
      · rw [if_pos hab]
        obtain ⟨Mt, vt⟩ := tv 0 A B
        have tlr := tl 0 A B
        have tor := to 0 A B
        generalize tlS (stB σ g) h r 0 (numO q[0]?) (numO q[1]?) (numO q[2]?) A B = τt at Mt vt tlr tor
        obtain ⟨Ms, vs⟩ := Mf.su3 (h := h) (i := 23) (x := σ 383 h) Mt.2.2.2.1 (by omega) (by omega)
        refine ⟨su τt 373 23 (σ 383 h), 2, M1.trans (Mt.trans Ms), ?_, by rw [su_ne (by omega), tor 382 (by omega) (by omega)]; exact e82, by rw [su_ne (by omega), tor 393 (by omega) (by omega), e93]; exact hf3, fun hk => by omega, fun u Q => ?_⟩
        · rw [vs, vt]
          rfl
        · simp (disch := first | omega | exact notL_I | exact notL_N | exact notL_R | exact oM | exact catS_le (Nat.le_of_ble_eq_true rfl) | exact Nat.le_of_ble_eq_true rfl | rfl) only [x243_0, x243_1, x243_2, x243_3, x243_6, x243_7, x243_8, x243_9, x243_10, x243_13, x243_14, x243_15, x243_16, x243_19, x243_20, x243_21, x243_22, x243_23, x243_24, x243_25, x243_26, x243_29, x243_32, x243_33, x243_34, x243_35, x243_36, x243_39, x243_40, x243_41, x243_42, x243_43, x243_45, x243_48, x243_51, x243_53, x243_54, x243_55, x243_56, x243_57, x243_59, x243_62, x243_65, x243_67, x243_69, x243_72, x243_75, x243_77, x243_80, x243_83, x243_84, x243_85, x243_86, x243_87, x243_88, x243_90, x243_92, x243_95, x243_98, x243_99, x243_100, x243_102, x243_105, x243_108, x243_110, x243_113, x243_115, x243_118, x243_121, x243_123, x243_126, x243_128, x243_130, x243_133, x243_135, x243_138, x243_140, x243_142, x243_144, x243_146, x243_149, x243_151, x243_154, x243_156, x243_158, x243_159, x243_160, x243_161, x243_162, x243_163, x243_165, x243_167, x243_170, x243_173, x243_174, x243_175, x243_177, x243_179, x243_182, x243_183, x243_184, x243_185, x243_186, x243_187, x243_190, rb u, s_rule, e1z, k2, e27, e28, s_worth, ea, eb2, tlr u, pM_last, Kc_some, Kc_none, if_pos, if_neg, ↓reduceIte, not_true_eq_false, not_false_eq_true]
      · rw [if_neg hab]
        generalize hw : (if A < B then B else A) = w
        generalize hv : (if B < A then B else A) = v
        have tw : isTm w := by rw [← hw]; split; exact tb; exact ta
        have tvv : isTm v := by rw [← hv]; split; exact tb; exact ta
        obtain ⟨Mt, vt⟩ := tv 0 w v
        have tlr := tl 0 w v
        have tor := to 0 w v
        generalize tlS (stB σ g) h r 0 (numO q[0]?) (numO q[1]?) (numO q[2]?) w v = τt at Mt vt tlr tor
        obtain ⟨Ms, vs⟩ := Mf.su3 (h := h) (i := 23) (x := σ 383 h) Mt.2.2.2.1 (by omega) (by omega)
        have vt' : (rsR τt h, τt 381 h, naR τt h, stR τt h, byR τt h) = _ := vt
        have vs' : (rsR (su τt 373 23 (σ 383 h)) h, su τt 373 23 (σ 383 h) 381 h, naR (su τt 373 23 (σ 383 h)) h, stR (su τt 373 23 (σ 383 h)) h, byR (su τt 373 23 (σ 383 h)) h) = (rsR τt h, τt 381 h, naR τt h, stR τt h, byR τt h) := vs
        have hrs : rsR (su τt 373 23 (σ 383 h)) h = rsR σ h := (congrArg (fun q : Rn => q.1) vs').trans (congrArg (fun q : Rn => q.1) vt')
        have e374 : su τt 373 23 (σ 383 h) 374 = σ 374 := by rw [su_ne (by omega), tor 374 (by omega) (by omega), stB_ne (by omega)]
        obtain ⟨τ, R1, R2, R3, R4, R5, R6, R7⟩ := s_replace (sc := sc) (d := d - 1) (h := h) (a := w) (b := v) (σ := su τt 373 23 (σ 383 h)) (by omega) Ms.2.2.2.1 h1 h2 tw tvv (by rw [su_ne (by omega), tor 393 (by omega) (by omega), e93]; exact hf3) (by
          rw [hrs, e374]
          intro x hx
          obtain ⟨y0, y1, y2, _⟩ := hok.1 x hx
          rw [coR_in y0 y1] at y2
          exact y2)
        have f3 : su τt 373 23 (σ 383 h) 393 = σ 393 := by rw [su_ne (by omega), tor 393 (by omega) (by omega), e93]
        refine ⟨τ, 0, M1.trans (Mt.trans (Ms.trans R1)), ?_, by rw [R3, su_ne (by omega), tor 382 (by omega) (by omega)]; exact e82, ?_, fun _ => ⟨stpL r 0 q w v, ?_, fun x x0 x1 => ?_⟩, fun u Q => ?_⟩
        · rw [R2, hrs]
          have a2 := (congrArg (fun q : Rn => q.2.1) vs').trans (congrArg (fun q : Rn => q.2.1) vt')
          have a3 := (congrArg (fun q : Rn => q.2.2.1) vs').trans (congrArg (fun q : Rn => q.2.2.1) vt')
          have a4 := (congrArg (fun q : Rn => q.2.2.2.1) vs').trans (congrArg (fun q : Rn => q.2.2.2.1) vt')
          have a5 := (congrArg (fun q : Rn => q.2.2.2.2) vs').trans (congrArg (fun q : Rn => q.2.2.2.2) vt')
          dsimp only at a2 a3 a4 a5
          rw [a2, a3, a4, a5]
          rfl
        · intro x x0 x1
          rw [R4 x x0 x1, f3]
          have := isTm_in tvv
          unfold subT
          split
          · omega
          · exact hf3 x x0 x1
        · rw [R2]
          have a4 := (congrArg (fun q : Rn => q.2.2.2.1) vs').trans (congrArg (fun q : Rn => q.2.2.2.1) vt')
          dsimp only at a4 ⊢
          rw [a4]
          rfl
        · rw [R4 x x0 x1, f3]
          rfl
        · have hA : A < 1000 → w = B ∧ v = A := fun z => by rw [← hw, ← hv, if_pos (by omega), if_neg (by omega)]; exact ⟨rfl, rfl⟩
          have hB : B < 1000 → w = A ∧ v = B := fun z => by rw [← hw, ← hv, if_neg (by omega), if_pos (by omega)]; exact ⟨rfl, rfl⟩
          by_cases cA : A < 1000
          · obtain ⟨rfl, rfl⟩ := hA cA
            have hne : ¬ w = v := by omega
            simp (disch := first | omega | exact notL_I | exact notL_N | exact notL_R | exact oM | exact catS_le (Nat.le_of_ble_eq_true rfl) | exact Nat.le_of_ble_eq_true rfl | rfl) only [x243_0, x243_1, x243_2, x243_3, x243_6, x243_7, x243_8, x243_9, x243_10, x243_13, x243_14, x243_15, x243_16, x243_19, x243_20, x243_21, x243_22, x243_23, x243_24, x243_25, x243_26, x243_29, x243_32, x243_33, x243_34, x243_35, x243_36, x243_39, x243_40, x243_41, x243_42, x243_43, x243_45, x243_48, x243_51, x243_53, x243_54, x243_55, x243_56, x243_57, x243_59, x243_62, x243_65, x243_67, x243_69, x243_72, x243_75, x243_77, x243_80, x243_83, x243_84, x243_85, x243_86, x243_87, x243_88, x243_90, x243_92, x243_95, x243_98, x243_99, x243_100, x243_102, x243_105, x243_108, x243_110, x243_113, x243_115, x243_118, x243_121, x243_123, x243_126, x243_128, x243_130, x243_133, x243_135, x243_138, x243_140, x243_142, x243_144, x243_146, x243_149, x243_151, x243_154, x243_156, x243_158, x243_159, x243_160, x243_161, x243_162, x243_163, x243_165, x243_167, x243_170, x243_173, x243_174, x243_175, x243_177, x243_179, x243_182, x243_183, x243_184, x243_185, x243_186, x243_187, x243_190, rb u, s_rule, e1z, k2, e27, e28, s_worth, ea, eb2, tlr u, pM_last, R7 u, Kc_some, Kc_none, if_pos, if_neg, ↓reduceIte, not_true_eq_false, not_false_eq_true]
          · by_cases cB' : B < 1000
            · obtain ⟨rfl, rfl⟩ := hB cB'
              simp (disch := first | omega | exact notL_I | exact notL_N | exact notL_R | exact oM | exact catS_le (Nat.le_of_ble_eq_true rfl) | exact Nat.le_of_ble_eq_true rfl | rfl) only [x243_0, x243_1, x243_2, x243_3, x243_6, x243_7, x243_8, x243_9, x243_10, x243_13, x243_14, x243_15, x243_16, x243_19, x243_20, x243_21, x243_22, x243_23, x243_24, x243_25, x243_26, x243_29, x243_32, x243_33, x243_34, x243_35, x243_36, x243_39, x243_40, x243_41, x243_42, x243_43, x243_45, x243_48, x243_51, x243_53, x243_54, x243_55, x243_56, x243_57, x243_59, x243_62, x243_65, x243_67, x243_69, x243_72, x243_75, x243_77, x243_80, x243_83, x243_84, x243_85, x243_86, x243_87, x243_88, x243_90, x243_92, x243_95, x243_98, x243_99, x243_100, x243_102, x243_105, x243_108, x243_110, x243_113, x243_115, x243_118, x243_121, x243_123, x243_126, x243_128, x243_130, x243_133, x243_135, x243_138, x243_140, x243_142, x243_144, x243_146, x243_149, x243_151, x243_154, x243_156, x243_158, x243_159, x243_160, x243_161, x243_162, x243_163, x243_165, x243_167, x243_170, x243_173, x243_174, x243_175, x243_177, x243_179, x243_182, x243_183, x243_184, x243_185, x243_186, x243_187, x243_190, rb u, s_rule, e1z, k2, e27, e28, s_worth, ea, eb2, tlr u, pM_last, R7 u, Kc_some, Kc_none, if_pos, if_neg, ↓reduceIte, not_true_eq_false, not_false_eq_true]
            · by_cases cAB : B < A
              · have ew : w = A := by rw [← hw, if_neg (by omega)]
                have ev : v = B := by rw [← hv, if_pos cAB]
                subst ew; subst ev
                simp (disch := first | omega | exact notL_I | exact notL_N | exact notL_R | exact oM | exact catS_le (Nat.le_of_ble_eq_true rfl) | exact Nat.le_of_ble_eq_true rfl | rfl) only [x243_0, x243_1, x243_2, x243_3, x243_6, x243_7, x243_8, x243_9, x243_10, x243_13, x243_14, x243_15, x243_16, x243_19, x243_20, x243_21, x243_22, x243_23, x243_24, x243_25, x243_26, x243_29, x243_32, x243_33, x243_34, x243_35, x243_36, x243_39, x243_40, x243_41, x243_42, x243_43, x243_45, x243_48, x243_51, x243_53, x243_54, x243_55, x243_56, x243_57, x243_59, x243_62, x243_65, x243_67, x243_69, x243_72, x243_75, x243_77, x243_80, x243_83, x243_84, x243_85, x243_86, x243_87, x243_88, x243_90, x243_92, x243_95, x243_98, x243_99, x243_100, x243_102, x243_105, x243_108, x243_110, x243_113, x243_115, x243_118, x243_121, x243_123, x243_126, x243_128, x243_130, x243_133, x243_135, x243_138, x243_140, x243_142, x243_144, x243_146, x243_149, x243_151, x243_154, x243_156, x243_158, x243_159, x243_160, x243_161, x243_162, x243_163, x243_165, x243_167, x243_170, x243_173, x243_174, x243_175, x243_177, x243_179, x243_182, x243_183, x243_184, x243_185, x243_186, x243_187, x243_190, rb u, s_rule, e1z, k2, e27, e28, s_worth, ea, eb2, tlr u, pM_last, R7 u, Kc_some, Kc_none, if_pos, if_neg, ↓reduceIte, not_true_eq_false, not_false_eq_true]
              · by_cases cE : A = B
                · have ew : w = B := by rw [← hw]; split <;> omega
                  have ev : v = B := by rw [← hv]; split <;> omega
                  subst cE; subst ew; subst ev
                  simp (disch := first | omega | exact notL_I | exact notL_N | exact notL_R | exact oM | exact catS_le (Nat.le_of_ble_eq_true rfl) | exact Nat.le_of_ble_eq_true rfl | rfl) only [x243_0, x243_1, x243_2, x243_3, x243_6, x243_7, x243_8, x243_9, x243_10, x243_13, x243_14, x243_15, x243_16, x243_19, x243_20, x243_21, x243_22, x243_23, x243_24, x243_25, x243_26, x243_29, x243_32, x243_33, x243_34, x243_35, x243_36, x243_39, x243_40, x243_41, x243_42, x243_43, x243_45, x243_48, x243_51, x243_53, x243_54, x243_55, x243_56, x243_57, x243_59, x243_62, x243_65, x243_67, x243_69, x243_72, x243_75, x243_77, x243_80, x243_83, x243_84, x243_85, x243_86, x243_87, x243_88, x243_90, x243_92, x243_95, x243_98, x243_99, x243_100, x243_102, x243_105, x243_108, x243_110, x243_113, x243_115, x243_118, x243_121, x243_123, x243_126, x243_128, x243_130, x243_133, x243_135, x243_138, x243_140, x243_142, x243_144, x243_146, x243_149, x243_151, x243_154, x243_156, x243_158, x243_159, x243_160, x243_161, x243_162, x243_163, x243_165, x243_167, x243_170, x243_173, x243_174, x243_175, x243_177, x243_179, x243_182, x243_183, x243_184, x243_185, x243_186, x243_187, x243_190, rb u, s_rule, e1z, k2, e27, e28, s_worth, ea, eb2, tlr u, pM_last, R7 u, Kc_some, Kc_none, if_pos, if_neg, ↓reduceIte, not_true_eq_false, not_false_eq_true]
                · have ew : w = B := by rw [← hw, if_pos (by omega)]
                  have ev : v = A := by rw [← hv, if_neg (by omega)]
                  subst ew; subst ev
                  have hne : ¬ w = v := by omega
                  simp (disch := first | omega | exact notL_I | exact notL_N | exact notL_R | exact oM | exact catS_le (Nat.le_of_ble_eq_true rfl) | exact Nat.le_of_ble_eq_true rfl | rfl) only [x243_0, x243_1, x243_2, x243_3, x243_6, x243_7, x243_8, x243_9, x243_10, x243_13, x243_14, x243_15, x243_16, x243_19, x243_20, x243_21, x243_22, x243_23, x243_24, x243_25, x243_26, x243_29, x243_32, x243_33, x243_34, x243_35, x243_36, x243_39, x243_40, x243_41, x243_42, x243_43, x243_45, x243_48, x243_51, x243_53, x243_54, x243_55, x243_56, x243_57, x243_59, x243_62, x243_65, x243_67, x243_69, x243_72, x243_75, x243_77, x243_80, x243_83, x243_84, x243_85, x243_86, x243_87, x243_88, x243_90, x243_92, x243_95, x243_98, x243_99, x243_100, x243_102, x243_105, x243_108, x243_110, x243_113, x243_115, x243_118, x243_121, x243_123, x243_126, x243_128, x243_130, x243_133, x243_135, x243_138, x243_140, x243_142, x243_144, x243_146, x243_149, x243_151, x243_154, x243_156, x243_158, x243_159, x243_160, x243_161, x243_162, x243_163, x243_165, x243_167, x243_170, x243_173, x243_174, x243_175, x243_177, x243_179, x243_182, x243_183, x243_184, x243_185, x243_186, x243_187, x243_190, rb u, s_rule, e1z, k2, e27, e28, s_worth, ea, eb2, tlr u, pM_last, R7 u, Kc_some, Kc_none, if_pos, if_neg, ↓reduceIte, not_true_eq_false, not_false_eq_true]
    · rw [if_neg k2]
      have k3 : σ 376 (30 * (10 * h + r) + 1) = 2 := by omega
      obtain ⟨Mt, vt⟩ := tv 0 (-1) (-1)
      have tlr := tl 0 (-1) (-1)
      have tor := to 0 (-1) (-1)
      generalize tlS (stB σ g) h r 0 (numO q[0]?) (numO q[1]?) (numO q[2]?) (-1) (-1) = τt at Mt vt tlr tor
      obtain ⟨Ms, vs⟩ := Mf.su3 (h := h) (i := 23) (x := σ 383 h) Mt.2.2.2.1 (by omega) (by omega)
      refine ⟨su τt 373 23 (σ 383 h), 2, M1.trans (Mt.trans Ms), ?_, by rw [su_ne (by omega), tor 382 (by omega) (by omega)]; exact e82, by rw [su_ne (by omega), tor 393 (by omega) (by omega), e93]; exact hf3, fun hk => by omega, fun u Q => ?_⟩
      · rw [vs, vt]
        rfl
      · simp (disch := first | omega | exact notL_I | exact notL_N | exact notL_R | exact oM | exact catS_le (Nat.le_of_ble_eq_true rfl) | exact Nat.le_of_ble_eq_true rfl | rfl) only [x243_0, x243_1, x243_2, x243_3, x243_6, x243_7, x243_8, x243_9, x243_10, x243_13, x243_14, x243_15, x243_16, x243_19, x243_20, x243_21, x243_22, x243_23, x243_24, x243_25, x243_26, x243_29, x243_32, x243_33, x243_34, x243_35, x243_36, x243_39, x243_40, x243_41, x243_42, x243_43, x243_45, x243_48, x243_51, x243_53, x243_54, x243_55, x243_56, x243_57, x243_59, x243_62, x243_65, x243_67, x243_69, x243_72, x243_75, x243_77, x243_80, x243_83, x243_84, x243_85, x243_86, x243_87, x243_88, x243_90, x243_92, x243_95, x243_98, x243_99, x243_100, x243_102, x243_105, x243_108, x243_110, x243_113, x243_115, x243_118, x243_121, x243_123, x243_126, x243_128, x243_130, x243_133, x243_135, x243_138, x243_140, x243_142, x243_144, x243_146, x243_149, x243_151, x243_154, x243_156, x243_158, x243_159, x243_160, x243_161, x243_162, x243_163, x243_165, x243_167, x243_170, x243_173, x243_174, x243_175, x243_177, x243_179, x243_182, x243_183, x243_184, x243_185, x243_186, x243_187, x243_190, rb u, s_rule, e1z, k3, tlr u, pM_last, Kc_some, Kc_none, if_pos, if_neg, ↓reduceIte, not_true_eq_false, not_false_eq_true]
end M9
