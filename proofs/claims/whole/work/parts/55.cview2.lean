/-! halls of the class after they were cleared or copied; logs, atoms -/
/-- only what lies from b on, n of them, changes -/
def FrB (b n : Nat) (σ τ : St) : Prop := ∀ c, c < b ∨ b + n ≤ c → τ c = σ c
theorem FrB.refl {b n : Nat} {σ : St} : FrB b n σ σ := fun _ _ => rfl
theorem FrB.trans {b n : Nat} {σ τ ρ : St} (h1 : FrB b n σ τ) (h2 : FrB b n τ ρ) : FrB b n σ ρ := fun c h => (h2 c h).trans (h1 c h)
theorem FrB.sub {b n b' n' : Nat} {σ τ : St} (h : FrB b' n' σ τ) (h1 : b ≤ b') (h2 : b' + n' ≤ b + n) : FrB b n σ τ := fun c hc => h c (by omega)
theorem FrR.b {r : Nat} {σ τ : St} (h : FrR r σ τ) : FrB r 5 σ τ := fun c hc => h c (by omega)
section C55
variable {σ τ : St} {a b q r l : Nat}
theorem rsC_c (h : ∀ c, r ≤ c → c ≤ r + 3 → τ c = σ c) : rsC τ r = rsC σ r := by
  unfold rsC
  rw [h r (by omega) (by omega)]
  apply rcF_ext
  intro i _ _
  unfold rwC
  rw [h (r + 1) (by omega) (by omega), h (r + 2) (by omega) (by omega), h (r + 3) (by omega) (by omega)]
theorem WfRo.c (W : WfRo σ r) (h : ∀ c, r ≤ c → c ≤ r + 4 → τ c = σ c) : WfRo τ r := by
  unfold WfRo
  rw [h r (by omega) (by omega), h (r + 1) (by omega) (by omega), h (r + 2) (by omega) (by omega), h (r + 3) (by omega) (by omega), h (r + 4) (by omega) (by omega)]
  exact W
theorem ruC_c (h : ∀ c, a ≤ c → c ≤ a + 6 → τ c = σ c) : ruC τ a = ruC σ a := by
  unfold ruC
  rw [h a (by omega) (by omega), asC_c (by rw [h _ (by omega) (by omega)]) (h _ (by omega) (by omega)) (h _ (by omega) (by omega)), asC_c (a := a + 4) (by rw [h _ (by omega) (by omega)]) (h _ (by omega) (by omega)) (h _ (by omega) (by omega))]
theorem WfRu.c (W : WfRu σ a) (h : ∀ c, a ≤ c → c ≤ a + 6 → τ c = σ c) : WfRu τ a := by
  obtain ⟨w0, w3, w4, wa, wb⟩ := W
  refine ⟨by rw [h a (by omega) (by omega)]; exact w0, by rw [h a (by omega) (by omega)]; exact w3, by rw [h a (by omega) (by omega)]; exact w4, wa.c (by rw [h _ (by omega) (by omega)]) (h _ (by omega) (by omega)) (h _ (by omega) (by omega)), wb.c (by rw [h _ (by omega) (by omega)]) (h _ (by omega) (by omega)) (h _ (by omega) (by omega))⟩
theorem WfLo.c (W : WfLo σ l) (h : ∀ c, l ≤ c → c ≤ l + 2 → τ c = σ c) : WfLo τ l := by
  unfold WfLo
  rw [h l (by omega) (by omega), h (l + 1) (by omega) (by omega), h (l + 2) (by omega) (by omega)]
  exact W
theorem skF_c (h : τ (l + 1) = σ (l + 1)) : ∀ (k : Nat) (i : Int), skF τ l k i = skF σ l k i := by
  intro k
  induction k with
  | zero => intro i; rfl
  | succ k ih => intro i; rw [skF, skF, ih, h]
theorem stC_c (h : ∀ c, l ≤ c → c ≤ l + 1 → τ c = σ c) : stC τ l = stC σ l := by
  unfold stC
  rw [h l (by omega) (by omega), skF_c (h _ (by omega) (by omega))]
theorem rkF_c {b' : Nat} : ∀ (k i : Nat), (∀ j, i ≤ j → j < i + k → ruC τ (b' + 14 + 7 * j) = ruC σ (b + 14 + 7 * j)) → rkF τ b' k i = rkF σ b k i := by
  intro k
  induction k with
  | zero => intro i _; rfl
  | succ k ih => intro i H; rw [rkF, rkF, H i (by omega) (by omega), ih (i + 1) (fun j j0 j1 => H j (by omega) (by omega))]
theorem hlC_c (h : ∀ c, b ≤ c → c < b + 84 → τ c = σ c) (hb : σ b 1 ≤ 10) : hlC τ b = hlC σ b := by
  unfold hlC rnC coC rlC naC byC
  rw [h (b + 1) (by omega) (by omega), h b (by omega) (by omega), h (b + 8) (by omega) (by omega), rsC_c (r := b + 3) (fun c c0 c1 => h c (by omega) (by omega)), h (b + 3) (by omega) (by omega), h (b + 3 + 4) (by omega) (by omega), stC_c (l := b + 8) (fun c c0 c1 => h c (by omega) (by omega)), h (b + 8 + 2) (by omega) (by omega)]
  rw [rkF_c (σ := σ) (τ := τ) (b := b) _ _ (fun j j0 j1 => ruC_c (fun c c0 c1 => h c (by omega) (by omega)))]
theorem WfHa.c (W : WfHa σ b) (h : ∀ c, b ≤ c → c < b + 84 → τ c = σ c) : WfHa τ b := by
  obtain ⟨w0, w1, w2, w3, w4, w5, w6⟩ := W
  refine ⟨by rw [h b (by omega) (by omega)]; exact w0, by rw [h b (by omega) (by omega)]; exact w1, by rw [h (b + 1) (by omega) (by omega)]; exact w2, w3.c (fun c c0 c1 => h c (by omega) (by omega)), w4.c (fun c c0 c1 => h c (by omega) (by omega)), w5.c (by rw [h _ (by omega) (by omega)]) (h _ (by omega) (by omega)) (h _ (by omega) (by omega)), fun k hk => (w6 k hk).c (fun c c0 c1 => h c (by omega) (by omega))⟩
/-- rules copied one by one -/
theorem cpUF_fr (h : apt q b 84) : ∀ k, k ≤ 10 → FrB (b + 14) 70 σ (cpUF σ q b k) := by
  unfold apt at h
  intro k
  induction k with
  | zero => intro _; exact FrB.refl
  | succ k ih =>
    intro hk
    refine (ih (by omega)).trans (fun c hc => ?_)
    show cpRu _ _ _ c = _
    exact cpRu_r (by unfold apt; omega) c (by omega)
theorem cpUF_v (h : apt q b 84) (W : ∀ k : Nat, k ≤ 9 → WfRu σ (q + 14 + 7 * k)) : ∀ k, k ≤ 10 → ∀ j, j < k → WfRu (cpUF σ q b k) (b + 14 + 7 * j) ∧ ruC (cpUF σ q b k) (b + 14 + 7 * j) = ruC σ (q + 14 + 7 * j) := by
  have h' := h
  unfold apt at h'
  intro k
  induction k with
  | zero => intro _ j hj; omega
  | succ k ih =>
    intro hk j hj
    have F := cpUF_fr (σ := σ) h k (by omega)
    have A : apt (q + 14 + 7 * k) (b + 14 + 7 * k) 7 := by unfold apt; omega
    show WfRu (cpRu (cpUF σ q b k) _ _) _ ∧ ruC (cpRu (cpUF σ q b k) _ _) _ = _
    by_cases hjk : j = k
    · subst hjk
      obtain ⟨v1, v2⟩ := cpRu_v (σ := cpUF σ q b j) A ((W j (by omega)).c (fun c c0 c1 => F c (by omega)))
      exact ⟨v1, v2.trans (ruC_c (fun c c0 c1 => F c (by omega)))⟩
    · obtain ⟨v1, v2⟩ := ih (by omega) j (by omega)
      have R := cpRu_r (σ := cpUF σ q b k) A
      exact ⟨v1.c (fun c c0 c1 => R c (by omega)), (ruC_c (fun c c0 c1 => R c (by omega))).trans v2⟩
theorem cpHa_v (h : apt q b 84) (W : WfHa σ q) (Wp : WfAt σ (b + 11)) : FrB b 84 σ (cpHa σ q b) ∧ WfHa (cpHa σ q b) b ∧ hlC (cpHa σ q b) b = hlC σ q ∧ cpHa σ q b b 0 = σ q 0 := by
  have h' := h
  unfold apt at h'
  obtain ⟨w0, w1, w2, w3, w4, w5, w6⟩ := W
  generalize hσ1 : scp (su (su σ b 0 (σ q 0)) b 1 (σ q 1)) (q + 1) 0 (b + 1) 0 26 = σ1
  have f1 : FrB b 2 σ σ1 := fun c hc => by rw [← hσ1, scp_ne (by omega), su_ne (by omega), su_ne (by omega)]
  have b0 : σ1 b 0 = σ q 0 := by rw [← hσ1, scp_ne (by omega), su_off (by omega), su_eq]
  have b1 : σ1 b 1 = σ q 1 := by rw [← hσ1, scp_ne (by omega), su_eq]
  have bc : ∀ t, 0 ≤ t → t < 26 → σ1 (b + 1) t = σ (q + 1) t := by
    intro t t0 t1
    rw [← hσ1, scp_at, if_pos (by omega), su_ne (by omega), su_ne (by omega)]
    congr 1
    omega
  have f2 := cpUF_fr (σ := σ1) h 10 (by omega)
  have v2 := cpUF_v (σ := σ1) h (fun k hk => (w6 k hk).c (fun c c0 c1 => f1 c (by omega))) 10 (by omega)
  generalize hσ2 : cpUF σ1 q b 10 = σ2 at f2 v2
  have A3 : apt (q + 3) (b + 3) 5 := by unfold apt; omega
  have f3 := (cpRo_r (σ := σ2) A3).1.b
  obtain ⟨x1, x2, x3, x4, x5⟩ := cpRo_v (σ := σ2) A3 (w3.c (fun c c0 c1 => by rw [f2 c (by omega), f1 c (by omega)]))
  generalize hσ3 : cpRo σ2 (q + 3) (b + 3) = σ3 at f3 x1 x2 x3 x4 x5
  have A4 : apt (q + 8) (b + 8) 3 := by unfold apt; omega
  have f4 := (cpLo_r (σ := σ3) A4).1
  obtain ⟨y1, y2, y3, y4⟩ := cpLo_v (σ := σ3) A4 (w4.c (fun c c0 c1 => by rw [f3 c (by omega), f2 c (by omega), f1 c (by omega)]))
  have e : cpHa σ q b = cpLo σ3 (q + 8) (b + 8) := by
    unfold cpHa
    rw [hσ1, hσ2, hσ3]
  rw [e]
  generalize cpLo σ3 (q + 8) (b + 8) = τ at *
  have q3 : ∀ c, q ≤ c → c < q + 84 → σ3 c = σ c := fun c c0 c1 => by rw [f3 c (by omega), f2 c (by omega), f1 c (by omega)]
  have q2 : ∀ c, q ≤ c → c < q + 84 → σ2 c = σ c := fun c c0 c1 => by rw [f2 c (by omega), f1 c (by omega)]
  have eb : ∀ c, c = b ∨ c = b + 1 → τ c = σ1 c := fun c hc => by rw [f4 c (by omega), f3 c (by omega), f2 c (by omega)]
  have er : ∀ c, b + 3 ≤ c → c ≤ b + 7 → τ c = σ3 c := fun c c0 c1 => f4 c (by omega)
  have eu : ∀ c, b + 14 ≤ c → c < b + 84 → τ c = σ2 c := fun c c0 c1 => by rw [f4 c (by omega), f3 c (by omega)]
  have ep : ∀ c, b + 11 ≤ c → c ≤ b + 13 → τ c = σ c := fun c c0 c1 => by rw [f4 c (by omega), f3 c (by omega), f2 c (by omega), f1 c (by omega)]
  refine ⟨fun c hc => by rw [f4 c (by omega), f3 c (by omega), f2 c (by omega), f1 c (by omega)], ⟨?_, ?_, ?_, ?_, y1, ?_, fun k hk => ?_⟩, ?_, ?_⟩
  · rw [eb b (Or.inl rfl), b0]; exact w0
  · rw [eb b (Or.inl rfl), b1]; exact w1
  · intro t t0 t1; rw [eb (b + 1) (Or.inr rfl), bc t t0 t1]; exact w2 t t0 t1
  · exact x1.c (fun c c0 c1 => er c (by omega) (by omega))
  · exact Wp.c (by rw [ep _ (by omega) (by omega)]) (ep _ (by omega) (by omega)) (ep _ (by omega) (by omega))
  · exact (v2 k (by omega)).1.c (fun c c0 c1 => eu c (by omega) (by omega))
  · unfold hlC rnC rlC
    have ec : coC τ b = coC σ q := by
      funext t
      unfold coC
      by_cases ht : 0 ≤ t ∧ t ≤ 25
      · rw [if_pos ht, if_pos ht, eb (b + 1) (Or.inr rfl), bc t ht.1 (by omega)]
      · rw [if_neg ht, if_neg ht]
    have el : rkF τ b (σ q 1).toNat 0 = rkF σ q (σ q 1).toNat 0 := by
      apply rkF_c
      intro j j0 j1
      rw [ruC_c (fun c c0 c1 => eu c (by omega) (by omega)), (v2 j (by omega)).2, ruC_c (fun c c0 c1 => f1 c (by omega))]
    have en : naC τ (b + 3) = naC σ (q + 3) := by
      have : naC τ (b + 3) = naC σ3 (b + 3) := by
        unfold naC
        rw [er (b + 3 + 4) (by omega) (by omega)]
      rw [this, x5]
      unfold naC
      rw [q2 (q + 3 + 4) (by omega) (by omega)]
    have es : byC τ (b + 8) = byC σ (q + 8) := by
      rw [y4]
      unfold byC
      rw [q3 (q + 8 + 2) (by omega) (by omega)]
    rw [ec, eb b (Or.inl rfl), b1, el, y2, q3 (q + 8) (by omega) (by omega), rsC_c (r := b + 3) (fun c c0 c1 => er c (by omega) (by omega)), x2, rsC_c (r := q + 3) (fun c c0 c1 => q2 c (by omega) (by omega)), er (b + 3) (by omega) (by omega), x4, q2 (q + 3) (by omega) (by omega), en, y3, stC_c (l := q + 8) (fun c c0 c1 => q3 c (by omega) (by omega)), es]
  · rw [eb b (Or.inl rfl), b0]
theorem clR_v (W : WfRo σ r) : FrR r σ (clR σ r) ∧ WfRo (clR σ r) r ∧ rsC (clR σ r) r = [] ∧ clR σ r r 1 = 0 ∧ naC (clR σ r) r = fun _ => 0 := by
  obtain ⟨w0, w1, w2, w3, w4⟩ := W
  have e0 : clR σ r r 0 = 0 := by unfold clR; rw [fl_ne (by omega), su_off (by omega), su_eq]
  have e1 : clR σ r r 1 = 0 := by unfold clR; rw [fl_ne (by omega), su_eq]
  have e : ∀ c, c ≠ r → c ≠ r + 4 → clR σ r c = σ c := fun c h1 h2 => by unfold clR; rw [fl_ne h2, su_ne h1, su_ne h1]
  have e4 : ∀ k, 0 ≤ k → k < 100 → clR σ r (r + 4) k = 0 := fun k k0 k1 => by unfold clR; rw [fl_at, if_pos ⟨k0, k1⟩]
  refine ⟨fun c hc => e c (by omega) (by omega), ⟨by rw [e0]; omega, by rw [e1]; omega, fun p p0 p1 => ?_, fun i i0 i1 => ?_, fun k k0 k1 => Or.inl (e4 k k0 k1)⟩, ?_, e1, ?_⟩
  · rw [e _ (by omega) (by omega), e _ (by omega) (by omega)]; exact w2 p p0 p1
  · rw [e _ (by omega) (by omega)]; exact w3 i i0 i1
  · unfold rsC; rw [e0]; rfl
  · funext k
    unfold naC
    split
    · exact e4 k (by omega) (by omega)
    · rfl
theorem clL_v (W : WfLo σ l) : FrB l 3 σ (clL σ l) ∧ WfLo (clL σ l) l ∧ clL σ l l 0 = 0 ∧ clL σ l l 1 = 0 ∧ stC (clL σ l) l = [] ∧ byC (clL σ l) l = fun _ => -1 := by
  obtain ⟨w0, w1, w2, w3⟩ := W
  have e0 : clL σ l l 0 = 0 := by unfold clL; rw [fl_ne (by omega), su_off (by omega), su_eq]
  have e1 : clL σ l l 1 = 0 := by unfold clL; rw [fl_ne (by omega), su_eq]
  have e : ∀ c, c ≠ l → c ≠ l + 2 → clL σ l c = σ c := fun c h1 h2 => by unfold clL; rw [fl_ne h2, su_ne h1, su_ne h1]
  have e4 : ∀ k, 0 ≤ k → k < 200 → clL σ l (l + 2) k = -1 := fun k k0 k1 => by unfold clL; rw [fl_at, if_pos ⟨k0, k1⟩]
  refine ⟨fun c hc => e c (by omega) (by omega), ⟨by rw [e0]; omega, by rw [e1]; omega, fun i i0 i1 => ?_, fun k k0 k1 => by rw [e4 k k0 k1]; omega⟩, e0, e1, ?_, ?_⟩
  · rw [e _ (by omega) (by omega)]; exact w2 i i0 i1
  · unfold stC; rw [e1]; rfl
  · funext k
    unfold byC
    split
    · exact e4 k (by omega) (by omega)
    · rfl
theorem clH_v (W : WfHa σ b) : FrB b 84 σ (clH σ b) ∧ WfHa (clH σ b) b ∧ hlC (clH σ b) b = ((fun _ => 0), [], 0, [], 0, (fun _ => 0), [], fun _ => -1) ∧ clH σ b b 0 = 0 ∧ ∀ c, b + 11 ≤ c → clH σ b c = σ c := by
  obtain ⟨w0, w1, w2, w3, w4, w5, w6⟩ := W
  generalize hσ1 : fl (su (su σ b 0 0) b 1 0) (b + 1) 0 26 0 = σ1
  have f1 : FrB b 2 σ σ1 := fun c hc => by rw [← hσ1, fl_ne (by omega), su_ne (by omega), su_ne (by omega)]
  have b0 : σ1 b 0 = 0 := by rw [← hσ1, fl_ne (by omega), su_off (by omega), su_eq]
  have b1 : σ1 b 1 = 0 := by rw [← hσ1, fl_ne (by omega), su_eq]
  have bc : ∀ t, 0 ≤ t → t < 26 → σ1 (b + 1) t = 0 := fun t t0 t1 => by rw [← hσ1, fl_at, if_pos ⟨t0, t1⟩]
  obtain ⟨r1, r2, r3, r4, r5⟩ := clR_v (w3.c (fun c c0 c1 => f1 c (by omega)))
  generalize hσ2 : clR σ1 (b + 3) = σ2 at r1 r2 r3 r4 r5
  obtain ⟨l1, l2, l3, l4, l5, l6⟩ := clL_v (σ := σ2) (l := b + 8) (w4.c (fun c c0 c1 => by rw [r1 c (by omega), f1 c (by omega)]))
  have e : clH σ b = clL σ2 (b + 8) := by unfold clH; rw [hσ1, hσ2]
  rw [e]
  generalize clL σ2 (b + 8) = τ at *
  have eb : ∀ c, c = b ∨ c = b + 1 → τ c = σ1 c := fun c hc => by rw [l1 c (by omega), r1 c (by omega)]
  have er : ∀ c, b + 3 ≤ c → c ≤ b + 7 → τ c = σ2 c := fun c c0 c1 => l1 c (by omega)
  have eo : ∀ c, b + 11 ≤ c → τ c = σ c := fun c c0 => by rw [l1 c (by omega), r1 c (by omega), f1 c (by omega)]
  refine ⟨fun c hc => by rw [l1 c (by omega), r1 c (by omega), f1 c (by omega)], ⟨?_, ?_, ?_, ?_, l2, ?_, fun k hk => ?_⟩, ?_, ?_, eo⟩
  · rw [eb b (Or.inl rfl), b0]; omega
  · rw [eb b (Or.inl rfl), b1]; omega
  · intro t t0 t1; rw [eb (b + 1) (Or.inr rfl), bc t t0 t1]; omega
  · exact r2.c (fun c c0 c1 => er c (by omega) (by omega))
  · exact w5.c (by rw [eo _ (by omega)]) (eo _ (by omega)) (eo _ (by omega))
  · exact (w6 k hk).c (fun c c0 c1 => eo c (by omega))
  · unfold hlC rnC rlC
    have ec : coC τ b = fun _ => 0 := by
      funext t
      unfold coC
      split
      · rw [eb (b + 1) (Or.inr rfl), bc t (by omega) (by omega)]
      · rfl
    have en : naC τ (b + 3) = fun _ => 0 := by
      have : naC τ (b + 3) = naC σ2 (b + 3) := by
        unfold naC
        rw [er (b + 3 + 4) (by omega) (by omega)]
      rw [this, r5]
    rw [ec, eb b (Or.inl rfl), b1, l3, rsC_c (r := b + 3) (fun c c0 c1 => er c (by omega) (by omega)), r3, er (b + 3) (by omega) (by omega), r4, en, l5, l6]
    rfl
  · rw [eb b (Or.inl rfl), b0]
theorem adA_v {t x y z : Int} (W : WfAt σ a) (h : σ a 0 < 3) (ht : 0 ≤ t ∧ t ≤ 25) (hx : -1 ≤ x ∧ x ≤ 2025) (hy : -1 ≤ y ∧ y ≤ 2025) (hz : -1 ≤ z ∧ z ≤ 2025) : FrB a 3 σ (adA σ a t x y z) ∧ WfAt (adA σ a t x y z) a ∧ asC (adA σ a t x y z) a = asC σ a ++ [(t, x, y, z)] ∧ adA σ a t x y z a 0 = σ a 0 + 1 := by
  obtain ⟨w0, w1, w2⟩ := W
  have e0 : adA σ a t x y z a 0 = σ a 0 + 1 := by unfold adA; rw [su_eq]
  have e1 : ∀ j, adA σ a t x y z (a + 1) j = if j = σ a 0 then t else σ (a + 1) j := fun j => by
    unfold adA
    rw [su_ne (by omega), su_ne (by omega), su_ne (by omega), su_ne (by omega), su_at]
  have e2 : ∀ j, adA σ a t x y z (a + 2) j = if j = σ a 0 * 3 + 2 then z else if j = σ a 0 * 3 + 1 then y else if j = σ a 0 * 3 then x else σ (a + 2) j := fun j => by
    unfold adA
    rw [su_ne (by omega), su_at, su_at, su_at, su_ne (by omega)]
  refine ⟨fun c hc => ?_, ⟨by rw [e0]; omega, fun i i0 i1 => ?_, fun i i0 i1 => ?_⟩, ?_, e0⟩
  · unfold adA
    rw [su_ne (by omega), su_ne (by omega), su_ne (by omega), su_ne (by omega), su_ne (by omega)]
  · rw [e1]; split; exact ht; exact w1 i i0 i1
  · rw [e2]; split; exact hz; split; exact hy; split; exact hx; exact w2 i i0 i1
  · unfold asC
    rw [e0, show (σ a 0 + 1).toNat = (σ a 0).toNat + 1 by omega, akF_snoc]
    congr 1
    · apply akF_ext
      intro i i0 i1
      unfold atK
      rw [e1, if_neg (by omega), e2, if_neg (by omega), if_neg (by omega), if_neg (by omega), e2, if_neg (by omega), if_neg (by omega), if_neg (by omega), e2, if_neg (by omega), if_neg (by omega), if_neg (by omega)]
    · rw [show (0 : Int) + ((σ a 0).toNat : Int) = σ a 0 by omega]
      unfold atK
      rw [e1, if_pos rfl, e2, if_neg (by omega), if_neg (by omega), if_pos rfl, e2, if_neg (by omega), if_pos rfl, e2, if_pos rfl]
end C55
