/-! halls after they were cleared or copied (reference) -/
theorem wp_scp {P : Int → Prop} {σ : St} {a : Nat} {N sp dp n : Int} (h : ∀ i, 0 ≤ i → i < N → P (σ a i)) (h0 : 0 ≤ sp) (h1 : sp + n ≤ N) : ∀ i, 0 ≤ i → i < N → P (scp σ a sp a dp n a i) := by
  intro i i0 i1
  rw [scp_at]
  split
  · exact h _ (by omega) (by omega)
  · exact h i i0 i1
theorem wp_fl {P : Int → Prop} {σ : St} {a : Nat} {N lo hi v : Int} (h : ∀ i, 0 ≤ i → i < N → P (σ a i)) (hv : P v) : ∀ i, 0 ≤ i → i < N → P (fl σ a lo hi v a i) := by
  intro i i0 i1
  rw [fl_at]
  split
  · exact hv
  · exact h i i0 i1
theorem wp_su {P : Int → Prop} {σ : St} {a : Nat} {N j v : Int} (h : ∀ i, 0 ≤ i → i < N → P (σ a i)) (hv : P v) : ∀ i, 0 ≤ i → i < N → P (su σ a j v a i) := by
  intro i i0 i1
  rw [su_at]
  split
  · exact hv
  · exact h i i0 i1
/-- a rule's numbers are what they may be -/
def okU (σ : St) (i : Int) : Prop := (0 ≤ σ 376 (30 * i) ∧ σ 376 (30 * i) ≤ 3) ∧ (0 ≤ σ 376 (30 * i + 1) ∧ σ 376 (30 * i + 1) ≤ 2) ∧ (0 ≤ σ 376 (30 * i + 2) ∧ σ 376 (30 * i + 2) ≤ 3) ∧ isPl (σ 376 (30 * i + 27)) ∧ isPl (σ 376 (30 * i + 28)) ∧
    ∀ j, 0 ≤ j → j < 6 → (0 ≤ σ 376 (30 * i + (3 + 4 * j)) ∧ σ 376 (30 * i + (3 + 4 * j)) ≤ 25) ∧ isPl (σ 376 (30 * i + (3 + 4 * j + 1))) ∧ isPl (σ 376 (30 * i + (3 + 4 * j + 2))) ∧ isPl (σ 376 (30 * i + (3 + 4 * j + 3)))
theorem okU_c {σ τ : St} {i i' : Int} (h : okU σ i) (e : ∀ k, 0 ≤ k → k < 30 → τ 376 (30 * i' + k) = σ 376 (30 * i + k)) : okU τ i' := by
  obtain ⟨a1, a2, a3, a4, a5, a6⟩ := h
  have e0 := e 0 (by omega) (by omega)
  rw [Int.add_zero, Int.add_zero] at e0
  refine ⟨by rw [e0]; exact a1, by rw [e 1 (by omega) (by omega)]; exact a2, by rw [e 2 (by omega) (by omega)]; exact a3, by rw [e 27 (by omega) (by omega)]; exact a4, by rw [e 28 (by omega) (by omega)]; exact a5, fun j j0 j1 => ?_⟩
  rw [e _ (by omega) (by omega), e _ (by omega) (by omega), e _ (by omega) (by omega), e _ (by omega) (by omega)]
  exact a6 j j0 j1
/-- well formed, row by row -/
theorem WfM.mk {σ τ : St} (W : WfM σ) (h4 : ∀ i, 0 ≤ i → i < 130 → 0 ≤ τ 374 i ∧ τ 374 i ≤ 3) (h5 : ∀ i, 0 ≤ i → i < 5 → 0 ≤ τ 375 i ∧ τ 375 i ≤ 10) (h6 : ∀ i, 0 ≤ i → i < 50 → okU τ i) (h7 : ∀ i, 0 ≤ i → i < 1000 → τ 377 i = 0 ∨ τ 377 i = 1) (h8 : ∀ i, 0 ≤ i → i < 1000 → 0 ≤ τ 378 i ∧ τ 378 i ≤ 25) (h9 : ∀ i, 0 ≤ i → i < 3000 → isTm (τ 379 i)) (h0 : ∀ i, 0 ≤ i → i < 1000 → -1 ≤ τ 380 i ∧ τ 380 i ≤ 100)
    (h1 : ∀ i, 0 ≤ i → i < 5 → 0 ≤ τ 381 i ∧ τ 381 i ≤ 200) (h2 : ∀ i, 0 ≤ i → i < 5 → 0 ≤ τ 382 i ∧ τ 382 i ≤ 3) (h3 : ∀ i, 0 ≤ i → i < 5 → 0 ≤ τ 383 i ∧ τ 383 i ≤ 100) (ha : ∀ i, 0 ≤ i → i < 500 → τ 385 i = 0 ∨ τ 385 i = 1) (hb : τ 386 = σ 386) (hc : τ 373 14 = σ 373 14) : WfM τ := ⟨h4, h5, h6, h7, h8, h9, h0, h1, h2, h3, ha, by rw [hb]; exact W.2.2.2.2.2.2.2.2.2.2.2.1, by rw [hc]; exact W.2.2.2.2.2.2.2.2.2.2.2.2⟩
section V2
variable {σ : St}
theorem WfM.p4 (W : WfM σ) : ∀ i, 0 ≤ i → i < 130 → 0 ≤ σ 374 i ∧ σ 374 i ≤ 3 := W.1
theorem WfM.p5 (W : WfM σ) : ∀ i, 0 ≤ i → i < 5 → 0 ≤ σ 375 i ∧ σ 375 i ≤ 10 := W.2.1
theorem WfM.p6 (W : WfM σ) : ∀ i, 0 ≤ i → i < 50 → okU σ i := W.2.2.1
theorem WfM.p7 (W : WfM σ) : ∀ i, 0 ≤ i → i < 1000 → σ 377 i = 0 ∨ σ 377 i = 1 := W.2.2.2.1
theorem WfM.p8 (W : WfM σ) : ∀ i, 0 ≤ i → i < 1000 → 0 ≤ σ 378 i ∧ σ 378 i ≤ 25 := W.2.2.2.2.1
theorem WfM.p9 (W : WfM σ) : ∀ i, 0 ≤ i → i < 3000 → isTm (σ 379 i) := W.2.2.2.2.2.1
theorem WfM.p0 (W : WfM σ) : ∀ i, 0 ≤ i → i < 1000 → -1 ≤ σ 380 i ∧ σ 380 i ≤ 100 := W.2.2.2.2.2.2.1
theorem WfM.p1 (W : WfM σ) : ∀ i, 0 ≤ i → i < 5 → 0 ≤ σ 381 i ∧ σ 381 i ≤ 200 := W.2.2.2.2.2.2.2.1
theorem WfM.p2 (W : WfM σ) : ∀ i, 0 ≤ i → i < 5 → 0 ≤ σ 382 i ∧ σ 382 i ≤ 3 := W.2.2.2.2.2.2.2.2.1
theorem WfM.p3 (W : WfM σ) : ∀ i, 0 ≤ i → i < 5 → 0 ≤ σ 383 i ∧ σ 383 i ≤ 100 := W.2.2.2.2.2.2.2.2.2.1
theorem WfM.pa (W : WfM σ) : ∀ i, 0 ≤ i → i < 500 → σ 385 i = 0 ∨ σ 385 i = 1 := W.2.2.2.2.2.2.2.2.2.2.1
end V2
section V3
variable {σ : St} {f t h g : Int}
/-- what each row is, after -/
theorem emE_r : (∀ c, c ≠ 377 → c ≠ 380 → c ≠ 385 → c ≠ 381 → c ≠ 382 → c ≠ 383 → emE σ h c = σ c) ∧ (∀ j, emE σ h 377 j = if 200 * h ≤ j ∧ j < 200 * h + 200 then 0 else σ 377 j) ∧ (∀ j, emE σ h 380 j = if 200 * h ≤ j ∧ j < 200 * h + 200 then -1 else σ 380 j) ∧ (∀ j, emE σ h 385 j = if 100 * h ≤ j ∧ j < 100 * h + 100 then 0 else σ 385 j) ∧ (∀ j, emE σ h 381 j = if j = h then 0 else σ 381 j) ∧ (∀ j, emE σ h 382 j = if j = h then 0 else σ 382 j) ∧ ∀ j, emE σ h 383 j = if j = h then 0 else σ 383 j := by
  unfold emE
  refine ⟨fun c a b e f g i => ?_, fun j => ?_, fun j => ?_, fun j => ?_, fun j => ?_, fun j => ?_, fun j => ?_⟩
  · rw [su_ne i, su_ne g, su_ne f, fl_ne e, fl_ne b, fl_ne a]
  · rw [su_ne (by omega), su_ne (by omega), su_ne (by omega), fl_ne (by omega), fl_ne (by omega), fl_at]
  · rw [su_ne (by omega), su_ne (by omega), su_ne (by omega), fl_ne (by omega), fl_at, fl_ne (by omega)]
  · rw [su_ne (by omega), su_ne (by omega), su_ne (by omega), fl_at, fl_ne (by omega), fl_ne (by omega)]
  · rw [su_ne (by omega), su_ne (by omega), su_at, fl_ne (by omega), fl_ne (by omega), fl_ne (by omega)]
  · rw [su_ne (by omega), su_at, su_ne (by omega), fl_ne (by omega), fl_ne (by omega), fl_ne (by omega)]
  · rw [su_at, su_ne (by omega), su_ne (by omega), fl_ne (by omega), fl_ne (by omega), fl_ne (by omega)]
theorem emE_wf (W : WfM σ) : WfM (emE σ h) := by
  obtain ⟨e, e7, e0, e5, e1, e2, e3⟩ := emE_r (σ := σ) (h := h)
  refine WfM.mk W ?_ ?_ ?_ ?_ ?_ ?_ ?_ ?_ ?_ ?_ ?_ ?_ ?_
  · rw [e 374 (by omega) (by omega) (by omega) (by omega) (by omega) (by omega)]; exact W.p4
  · rw [e 375 (by omega) (by omega) (by omega) (by omega) (by omega) (by omega)]; exact W.p5
  · intro i i0 i1; exact okU_c (W.p6 i i0 i1) (fun k _ _ => by rw [e 376 (by omega) (by omega) (by omega) (by omega) (by omega) (by omega)])
  · intro i i0 i1; rw [e7]; split; exact Or.inl rfl; exact W.p7 i i0 i1
  · rw [e 378 (by omega) (by omega) (by omega) (by omega) (by omega) (by omega)]; exact W.p8
  · rw [e 379 (by omega) (by omega) (by omega) (by omega) (by omega) (by omega)]; exact W.p9
  · intro i i0 i1; rw [e0]; split; omega; exact W.p0 i i0 i1
  · intro i i0 i1; rw [e1]; split; omega; exact W.p1 i i0 i1
  · intro i i0 i1; rw [e2]; split; omega; exact W.p2 i i0 i1
  · intro i i0 i1; rw [e3]; split; omega; exact W.p3 i i0 i1
  · intro i i0 i1; rw [e5]; split; exact Or.inl rfl; exact W.pa i i0 i1
  · exact e 386 (by omega) (by omega) (by omega) (by omega) (by omega) (by omega)
  · rw [e 373 (by omega) (by omega) (by omega) (by omega) (by omega) (by omega)]
theorem emE_q (hg : g ≠ h) : HQ σ g (emE σ h) g := by
  obtain ⟨e, e7, e0, e5, e1, e2, e3⟩ := emE_r (σ := σ) (h := h)
  refine ⟨HQa.of (fun c a b => e c (by omega) (by omega) (by omega) (by omega) (by omega) (by omega)), ⟨fun n n0 n1 => ⟨?_, ?_⟩, fun n _ _ => ?_, ?_, fun k k0 k1 => ?_⟩, ⟨fun n n0 n1 => ?_, ?_, ?_, fun k _ _ => ?_⟩⟩
  · rw [e7, if_neg (by omega)]
  · rw [e 378 (by omega) (by omega) (by omega) (by omega) (by omega) (by omega)]
  · rw [e 379 (by omega) (by omega) (by omega) (by omega) (by omega) (by omega)]
  · rw [e1, if_neg hg]
  · rw [e5, if_neg (by omega)]
  · rw [e0, if_neg (by omega)]
  · rw [e2, if_neg hg]
  · rw [e3, if_neg hg]
  · rw [e 384 (by omega) (by omega) (by omega) (by omega) (by omega) (by omega)]
theorem emE_a : HQa σ g (emE σ h) g := HQa.of (fun c a b => emE_r.1 c (by omega) (by omega) (by omega) (by omega) (by omega) (by omega))
theorem emE_rest : RsR σ (emE σ h) := RsR.of (fun c _ _ => emE_r.1 c (by omega) (by omega) (by omega) (by omega) (by omega) (by omega)) (fun j _ => by rw [emE_r.1 373 (by omega) (by omega) (by omega) (by omega) (by omega) (by omega)])
theorem emE_hl : (hlR (emE σ h) h).2.2 = (0, [], 0, (fun _ => 0), [], fun _ => -1) := by
  obtain ⟨e, e7, e0, e5, e1, e2, e3⟩ := emE_r (σ := σ) (h := h)
  have e1' : emE σ h 381 h = 0 := by rw [e1, if_pos rfl]
  have e2' : emE σ h 382 h = 0 := by rw [e2, if_pos rfl]
  have e3' : emE σ h 383 h = 0 := by rw [e3, if_pos rfl]
  unfold hlR rnR rsR stR
  rw [e1', e2', e3']
  have a : naR (emE σ h) h = fun _ => 0 := by
    funext k
    unfold naR
    split
    · rw [e5, if_pos (by omega)]
    · rfl
  have b : byR (emE σ h) h = fun _ => -1 := by
    funext k
    unfold byR
    rw [e1', if_neg (by omega)]
  rw [a, b]
  rfl
theorem cpR_r : (∀ c, c ≠ 374 → c ≠ 375 → c ≠ 376 → cpR σ f t c = σ c) ∧ (∀ j, cpR σ f t 374 j = if 26 * t ≤ j ∧ j < 26 * t + 26 then σ 374 (j - 26 * t + 26 * f) else σ 374 j) ∧ (∀ j, cpR σ f t 375 j = if j = t then σ 375 f else σ 375 j) ∧ ∀ j, cpR σ f t 376 j = if 300 * t ≤ j ∧ j < 300 * t + 300 then σ 376 (j - 300 * t + 300 * f) else σ 376 j := by
  unfold cpR
  refine ⟨fun c a b e => ?_, fun j => ?_, fun j => ?_, fun j => ?_⟩
  · rw [scp_ne e, su_ne b, scp_ne a]
  · rw [scp_ne (by omega), su_ne (by omega), scp_at]
  · rw [scp_ne (by omega), su_at, scp_ne (by omega)]
  · rw [scp_at, su_ne (by omega), scp_ne (by omega)]
theorem cpR_a : HQa σ f (cpR σ f t) t := by
  obtain ⟨e, e4, e5, e6⟩ := cpR_r (σ := σ) (f := f) (t := t)
  refine ⟨fun k k0 k1 => ?_, ?_, fun k k0 k1 => ?_⟩
  · rw [e4, if_pos (by omega)]; congr 1; omega
  · rw [e5, if_pos rfl]
  · rw [e6, if_pos (by omega)]; congr 1; omega
theorem cpR_q (hg : g ≠ t) : HQ σ g (cpR σ f t) g := by
  obtain ⟨e, e4, e5, e6⟩ := cpR_r (σ := σ) (f := f) (t := t)
  refine ⟨⟨fun k k0 k1 => ?_, ?_, fun k k0 k1 => ?_⟩, ⟨fun n n0 n1 => ⟨?_, ?_⟩, fun n _ _ => ?_, ?_, fun k k0 k1 => ?_⟩, ⟨fun n n0 n1 => ?_, ?_, ?_, fun k _ _ => ?_⟩⟩
  · rw [e4, if_neg (by omega)]
  · rw [e5, if_neg hg]
  · rw [e6, if_neg (by omega)]
  all_goals rw [e _ (by omega) (by omega) (by omega)]
theorem cpR_wf (W : WfM σ) (f1 : 0 ≤ f) (f2 : f ≤ 4) : WfM (cpR σ f t) := by
  obtain ⟨e, e4, e5, e6⟩ := cpR_r (σ := σ) (f := f) (t := t)
  refine WfM.mk W ?_ ?_ ?_ ?_ ?_ ?_ ?_ ?_ ?_ ?_ ?_ ?_ ?_
  · intro i i0 i1; rw [e4]; split; exact W.p4 _ (by omega) (by omega); exact W.p4 i i0 i1
  · intro i i0 i1; rw [e5]; split; exact W.p5 _ (by omega) (by omega); exact W.p5 i i0 i1
  · intro i i0 i1
    by_cases hi : 10 * t ≤ i ∧ i < 10 * t + 10
    · refine okU_c (W.p6 (i - 10 * t + 10 * f) (by omega) (by omega)) (fun k k0 k1 => ?_)
      rw [e6, if_pos (by omega)]; congr 1; omega
    · refine okU_c (W.p6 i i0 i1) (fun k k0 k1 => ?_)
      rw [e6, if_neg (by omega)]
  · rw [e 377 (by omega) (by omega) (by omega)]; exact W.p7
  · rw [e 378 (by omega) (by omega) (by omega)]; exact W.p8
  · rw [e 379 (by omega) (by omega) (by omega)]; exact W.p9
  · rw [e 380 (by omega) (by omega) (by omega)]; exact W.p0
  · rw [e 381 (by omega) (by omega) (by omega)]; exact W.p1
  · rw [e 382 (by omega) (by omega) (by omega)]; exact W.p2
  · rw [e 383 (by omega) (by omega) (by omega)]; exact W.p3
  · rw [e 385 (by omega) (by omega) (by omega)]; exact W.pa
  · exact e 386 (by omega) (by omega) (by omega)
  · rw [e 373 (by omega) (by omega) (by omega)]
theorem cpR_rest : RsR σ (cpR σ f t) := RsR.of (fun c _ _ => cpR_r.1 c (by omega) (by omega) (by omega)) (fun j _ => by rw [cpR_r.1 373 (by omega) (by omega) (by omega)])
theorem cpH_r : (∀ c, c < 374 ∨ 385 < c → cpH σ f t c = σ c) ∧ (∀ c, 374 ≤ c → c ≤ 376 → cpH σ f t c = cpR σ f t c) ∧ (∀ c, c = 377 ∨ c = 378 ∨ c = 380 → ∀ j, cpH σ f t c j = if 200 * t ≤ j ∧ j < 200 * t + 200 then σ c (j - 200 * t + 200 * f) else σ c j) ∧ (∀ j, cpH σ f t 379 j = if 600 * t ≤ j ∧ j < 600 * t + 600 then σ 379 (j - 600 * t + 600 * f) else σ 379 j) ∧ (∀ j, cpH σ f t 385 j = if 100 * t ≤ j ∧ j < 100 * t + 100 then σ 385 (j - 100 * t + 100 * f) else σ 385 j) ∧ (∀ j, cpH σ f t 384 j = if 1024 * t ≤ j ∧ j < 1024 * t + 1024 then σ 384 (j - 1024 * t + 1024 * f) else σ 384 j) ∧ (∀ c, 381 ≤ c → c ≤ 383 → ∀ j, cpH σ f t c j = if j = t then σ c f else σ c j) := by
  have r := cpR_r (σ := σ) (f := f) (t := t)
  unfold cpH cpS cpN
  refine ⟨fun c hc => ?_, fun c c0 c1 => ?_, ?_, fun j => ?_, fun j => ?_, fun j => ?_, ?_⟩
  · rw [su_ne (by omega), su_ne (by omega), su_ne (by omega), scp_ne (by omega), scp_ne (by omega), scp_ne (by omega), scp_ne (by omega), scp_ne (by omega), scp_ne (by omega), r.1 c (by omega) (by omega) (by omega)]
  · rw [su_ne (by omega), su_ne (by omega), su_ne (by omega), scp_ne (by omega), scp_ne (by omega), scp_ne (by omega), scp_ne (by omega), scp_ne (by omega), scp_ne (by omega)]
  · rintro c (rfl | rfl | rfl) j
    · rw [su_ne (by omega), su_ne (by omega), su_ne (by omega), scp_ne (by omega), scp_ne (by omega), scp_ne (by omega), scp_ne (by omega), scp_ne (by omega), scp_at, r.1 _ (by omega) (by omega) (by omega)]
    · rw [su_ne (by omega), su_ne (by omega), su_ne (by omega), scp_ne (by omega), scp_ne (by omega), scp_ne (by omega), scp_ne (by omega), scp_at, scp_ne (by omega), r.1 _ (by omega) (by omega) (by omega)]
    · rw [su_ne (by omega), su_ne (by omega), su_ne (by omega), scp_ne (by omega), scp_ne (by omega), scp_ne (by omega), scp_at, scp_ne (by omega), scp_ne (by omega), r.1 _ (by omega) (by omega) (by omega)]
  · rw [su_ne (by omega), su_ne (by omega), su_ne (by omega), scp_ne (by omega), scp_ne (by omega), scp_at, scp_ne (by omega), scp_ne (by omega), scp_ne (by omega), r.1 _ (by omega) (by omega) (by omega)]
  · rw [su_ne (by omega), su_ne (by omega), su_ne (by omega), scp_ne (by omega), scp_at, scp_ne (by omega), scp_ne (by omega), scp_ne (by omega), scp_ne (by omega), r.1 _ (by omega) (by omega) (by omega)]
  · rw [su_ne (by omega), su_ne (by omega), su_ne (by omega), scp_at, scp_ne (by omega), scp_ne (by omega), scp_ne (by omega), scp_ne (by omega), scp_ne (by omega), r.1 _ (by omega) (by omega) (by omega)]
  · intro c c0 c1 j
    have q : scp (scp (scp (scp (scp (scp (cpR σ f t) 377 (200 * f) 377 (200 * t) 200) 378 (200 * f) 378 (200 * t) 200) 380 (200 * f) 380 (200 * t) 200) 379 (600 * f) 379 (600 * t) 600) 385 (100 * f) 385 (100 * t) 100) 384 (1024 * f) 384 (1024 * t) 1024 c = σ c := by
      rw [scp_ne (by omega), scp_ne (by omega), scp_ne (by omega), scp_ne (by omega), scp_ne (by omega), scp_ne (by omega), r.1 c (by omega) (by omega) (by omega)]
    rcases (show c = 381 ∨ c = 382 ∨ c = 383 by omega) with rfl | rfl | rfl
    · rw [su_ne (by omega), su_ne (by omega), su_at, q]
    · rw [su_ne (by omega), su_at, su_ne (by omega), q]
    · rw [su_at, su_ne (by omega), su_ne (by omega), q]
theorem cpH_c : HQ σ f (cpH σ f t) t := by
  obtain ⟨e, ea, e7, e9, e5, e4, e1⟩ := cpH_r (σ := σ) (f := f) (t := t)
  have a := cpR_a (σ := σ) (f := f) (t := t)
  refine ⟨⟨fun k k0 k1 => by rw [ea 374 (by omega) (by omega)]; exact a.1 k k0 k1, by rw [ea 375 (by omega) (by omega)]; exact a.2.1, fun k k0 k1 => by rw [ea 376 (by omega) (by omega)]; exact a.2.2 k k0 k1⟩, ⟨fun n n0 n1 => ⟨?_, ?_⟩, fun n _ _ => ?_, ?_, fun k k0 k1 => ?_⟩, ⟨fun n n0 n1 => ?_, ?_, ?_, fun k _ _ => ?_⟩⟩
  · rw [e7 _ (by omega), if_pos (by omega)]; congr 1; omega
  · rw [e7 _ (by omega), if_pos (by omega)]; congr 1; omega
  · rw [e9, if_pos (by omega)]; congr 1; omega
  · rw [e1 _ (by omega) (by omega), if_pos rfl]
  · rw [e5, if_pos (by omega)]; congr 1; omega
  · rw [e7 _ (by omega), if_pos (by omega)]; congr 1; omega
  · rw [e1 _ (by omega) (by omega), if_pos rfl]
  · rw [e1 _ (by omega) (by omega), if_pos rfl]
  · rw [e4, if_pos (by omega)]; congr 1; omega
theorem cpH_q (hg : g ≠ t) : HQ σ g (cpH σ f t) g := by
  obtain ⟨e, ea, e7, e9, e5, e4, e1⟩ := cpH_r (σ := σ) (f := f) (t := t)
  have a := (cpR_q (σ := σ) (f := f) hg).1
  refine ⟨⟨fun k k0 k1 => by rw [ea 374 (by omega) (by omega)]; exact a.1 k k0 k1, by rw [ea 375 (by omega) (by omega)]; exact a.2.1, fun k k0 k1 => by rw [ea 376 (by omega) (by omega)]; exact a.2.2 k k0 k1⟩, ⟨fun n n0 n1 => ⟨?_, ?_⟩, fun n _ _ => ?_, ?_, fun k k0 k1 => ?_⟩, ⟨fun n n0 n1 => ?_, ?_, ?_, fun k _ _ => ?_⟩⟩
  · rw [e7 _ (by omega), if_neg (by omega)]
  · rw [e7 _ (by omega), if_neg (by omega)]
  · rw [e9, if_neg (by omega)]
  · rw [e1 _ (by omega) (by omega), if_neg hg]
  · rw [e5, if_neg (by omega)]
  · rw [e7 _ (by omega), if_neg (by omega)]
  · rw [e1 _ (by omega) (by omega), if_neg hg]
  · rw [e1 _ (by omega) (by omega), if_neg hg]
  · rw [e4, if_neg (by omega)]
theorem cpH_wf (W : WfM σ) (f1 : 0 ≤ f) (f2 : f ≤ 4) : WfM (cpH σ f t) := by
  obtain ⟨e, ea, e7, e9, e5, e4, e1⟩ := cpH_r (σ := σ) (f := f) (t := t)
  have R := cpR_wf (t := t) W f1 f2
  refine WfM.mk W ?_ ?_ ?_ ?_ ?_ ?_ ?_ ?_ ?_ ?_ ?_ ?_ ?_
  · rw [ea 374 (by omega) (by omega)]; exact R.p4
  · rw [ea 375 (by omega) (by omega)]; exact R.p5
  · intro i i0 i1; exact okU_c (R.p6 i i0 i1) (fun k _ _ => by rw [ea 376 (by omega) (by omega)])
  · intro i i0 i1; rw [e7 _ (by omega)]; split; exact W.p7 _ (by omega) (by omega); exact W.p7 i i0 i1
  · intro i i0 i1; rw [e7 _ (by omega)]; split; exact W.p8 _ (by omega) (by omega); exact W.p8 i i0 i1
  · intro i i0 i1; rw [e9]; split; exact W.p9 _ (by omega) (by omega); exact W.p9 i i0 i1
  · intro i i0 i1; rw [e7 _ (by omega)]; split; exact W.p0 _ (by omega) (by omega); exact W.p0 i i0 i1
  · intro i i0 i1; rw [e1 _ (by omega) (by omega)]; split; exact W.p1 _ (by omega) (by omega); exact W.p1 i i0 i1
  · intro i i0 i1; rw [e1 _ (by omega) (by omega)]; split; exact W.p2 _ (by omega) (by omega); exact W.p2 i i0 i1
  · intro i i0 i1; rw [e1 _ (by omega) (by omega)]; split; exact W.p3 _ (by omega) (by omega); exact W.p3 i i0 i1
  · intro i i0 i1; rw [e5]; split; exact W.pa _ (by omega) (by omega); exact W.pa i i0 i1
  · exact e 386 (by omega)
  · rw [e 373 (by omega)]
theorem cpH_rest : RsR σ (cpH σ f t) := RsR.of (fun c _ _ => cpH_r.1 c (by omega)) (fun j _ => by rw [cpH_r.1 373 (by omega)])
end V3
