/-! the class reads: a hall's pieces -/
def HtC (σ : St) (b : Nat) (T : Tx) : Prop := hlC σ b = HxT T ∧ WfHa σ b ∧ σ b 0 = tabF T.1 26 0
def TxS (T : Tx) : Prop := (∀ t, 0 ≤ T.1 t ∧ T.1 t ≤ 3) ∧ (0 ≤ tabF T.1 26 0 ∧ tabF T.1 26 0 ≤ 6) ∧ T.2.2.2.1 = (T.2.2.1.length : Int)
section H8
variable {σ τ : St} {b : Nat}
theorem HtC.c {T : Tx} (H : HtC σ b T) (h : ∀ c, b ≤ c → c < b + 84 → τ c = σ c) : HtC τ b T := ⟨(hlC_c h H.2.1.2.1.2).trans H.1, H.2.1.c h, by rw [h b (by omega) (by omega)]; exact H.2.2⟩
theorem hl_of (h1 : τ b 1 = σ b 1) (hc : ∀ c, b + 3 ≤ c → c < b + 84 → τ c = σ c) (hb : σ b 1 ≤ 10) : (hlC τ b).2 = (hlC σ b).2 := by
  unfold hlC rnC rlC naC byC
  dsimp only
  rw [h1, hc (b + 8) (by omega) (by omega), rsC_c (r := b + 3) (fun c c0 c1 => hc c (by omega) (by omega)), hc (b + 3) (by omega) (by omega), hc (b + 3 + 4) (by omega) (by omega), stC_c (l := b + 8) (fun c c0 c1 => hc c (by omega) (by omega)), hc (b + 8 + 2) (by omega) (by omega)]
  rw [rkF_c (σ := σ) (τ := τ) (b := b) _ _ (fun j j0 j1 => ruC_c (fun c c0 c1 => hc c (by omega) (by omega)))]
theorem tab_bup1 {C : Int → Int} {t v : Int} (ht : C t = 0) (hv : 0 < v) : ∀ (k : Nat) (i : Int), i ≤ t → t < i + k → tabF (bup C t v) k i = tabF C k i + 1 := by
  intro k
  induction k with
  | zero => intro i a b; omega
  | succ k ih =>
    intro i a b
    rw [tabF, tabF]
    by_cases e : i = t
    · subst e
      have := (tab_bup (C := C) (t := i) (v := v) ht k (i + 1)).2 (by omega)
      have eb : bup C i v i = v := by unfold bup; rw [if_pos rfl]
      rw [this, eb, ht, if_pos hv, if_neg (by omega)]
      omega
    · have eb : bup C t v i = C i := by unfold bup; rw [if_neg e]
      rw [eb, ih (i + 1) (by omega) (by omega)]
      omega
/-- a table more -/
theorem ht_tab {T : Tx} {t m : Int} (H : HtC σ b T) (S : TxS T) (t0 : 0 ≤ t) (t1 : t ≤ 25) (hz : T.1 t = 0) (m1 : 1 ≤ m) (m3 : m ≤ 3) (h6 : tabF T.1 26 0 ≠ 6) : HtC (su (su σ (b + 1) t m) b 0 (σ b 0 + 1)) b (bup T.1 t m, T.2) ∧ TxS (bup T.1 t m, T.2) ∧ FrB b 84 σ (su (su σ (b + 1) t m) b 0 (σ b 0 + 1)) := by
  obtain ⟨h1, h2, h3⟩ := H
  obtain ⟨s1, s2, s3⟩ := S
  have et := tab_bup1 (C := T.1) (t := t) (v := m) hz (by omega) 26 0 (by omega) (by omega)
  have g1 : ∀ j, su (su σ (b + 1) t m) b 0 (σ b 0 + 1) (b + 1) j = if j = t then m else σ (b + 1) j := fun j => by rw [su_ne (by omega), su_at]
  have gn : ∀ c, b + 2 ≤ c → su (su σ (b + 1) t m) b 0 (σ b 0 + 1) c = σ c := fun c hc => by rw [su_ne (by omega), su_ne (by omega)]
  have gb1 : su (su σ (b + 1) t m) b 0 (σ b 0 + 1) b 1 = σ b 1 := by rw [su_off (by omega), su_ne (by omega)]
  have gb0 : su (su σ (b + 1) t m) b 0 (σ b 0 + 1) b 0 = σ b 0 + 1 := su_eq
  have fr : FrB b 84 σ (su (su σ (b + 1) t m) b 0 (σ b 0 + 1)) := fun c hc => by rw [su_ne (by omega), su_ne (by omega)]
  generalize su (su σ (b + 1) t m) b 0 (σ b 0 + 1) = X at *
  have hC : coC σ b = T.1 := congrArg (fun x : Hl => x.1) h1
  have hX : coC X b = bup T.1 t m := by
    funext j
    rw [← hC]
    unfold coC bup
    dsimp only
    by_cases hj : 0 ≤ j ∧ j ≤ 25
    · rw [if_pos hj, g1, if_pos hj]
    · rw [if_neg hj, if_neg hj, if_neg (by omega)]
  have h2' := hl_of (σ := σ) (τ := X) (b := b) gb1 (fun c a e => gn c (by omega)) h2.2.1.2
  obtain ⟨w0, w1, w2, w3, w4, w5, w6⟩ := h2
  refine ⟨⟨?_, ⟨by rw [gb0]; omega, by rw [gb1]; exact w1, fun j j0 j1 => ?_, w3.c (fun c c0 c1 => gn c (by omega)), w4.c (fun c c0 c1 => gn c (by omega)), w5.c (by rw [gn _ (by omega)]) (gn _ (by omega)) (gn _ (by omega)), fun k hk => (w6 k hk).c (fun c c0 c1 => gn c (by omega))⟩, by rw [gb0, et, h3]⟩, ⟨fun j => ?_, by rw [et]; omega, s3⟩, fr⟩
  · have : hlC X b = (coC X b, (hlC X b).2) := rfl
    rw [this, hX, h2', h1]
    rfl
  · rw [g1]
    split
    · omega
    · exact w2 j j0 j1
  · show 0 ≤ bup T.1 t m j ∧ bup T.1 t m j ≤ 3
    unfold bup
    split
    · omega
    · exact s1 j
/-- a row more -/
theorem ht_row {T : Tx} {g : At} (H : HtC σ b T) (S : TxS T) (ht : 0 ≤ g.1 ∧ g.1 ≤ 25) (hx : -1 ≤ g.2.1 ∧ g.2.1 ≤ 1099) (hy : -1 ≤ g.2.2.1 ∧ g.2.2.1 ≤ 1099) (hz : -1 ≤ g.2.2.2 ∧ g.2.2.2 ≤ 1099) (h4 : T.2.2.1.length ≠ 40) :
    (σ (b + 3) 0 + 1 ≤ 40 ∧ σ (b + 3) 1 + 1 ≤ 200) ∧ HtC (adS σ (b + 3) g.1 g.2.1 g.2.2.1 g.2.2.2) b (T.1, T.2.1, T.2.2.1 ++ [(T.2.2.2.1, g)], T.2.2.2.1 + 1, mkU T.2.2.2.2 g) ∧ TxS (T.1, T.2.1, T.2.2.1 ++ [(T.2.2.2.1, g)], T.2.2.2.1 + 1, mkU T.2.2.2.2 g) ∧ FrB b 84 σ (adS σ (b + 3) g.1 g.2.1 g.2.2.1 g.2.2.2) := by
  obtain ⟨h1, h2, h3⟩ := H
  obtain ⟨s1, s2, s3⟩ := S
  obtain ⟨w0, w1, w2, w3, w4, w5, w6⟩ := h2
  have e1 : rsC σ (b + 3) = T.2.2.1 := congrArg (fun x : Hl => x.2.2.2.1) h1
  have e2 : σ (b + 3) 1 = T.2.2.2.1 := congrArg (fun x : Hl => x.2.2.2.2.1) h1
  have e3 : naC σ (b + 3) = T.2.2.2.2 := congrArg (fun x : Hl => x.2.2.2.2.2.1) h1
  have el := rsC_len (σ := σ) (r := b + 3) w3.1.1
  rw [e1] at el
  have w31 := w3.1
  have hr : σ (b + 3) 0 + 1 ≤ 40 ∧ σ (b + 3) 1 + 1 ≤ 200 := by
    constructor
    · omega
    · rw [e2, s3]; omega
  have aw := adS_wf (t := g.1) (x := g.2.1) (y := g.2.2.1) (z := g.2.2.2) w3 hr ht hx hy hz
  have ar := adS_rs (t := g.1) (x := g.2.1) (y := g.2.2.1) (z := g.2.2.2) w3
  have an := adS_na (σ := σ) (r := b + 3) (t := g.1) hx hy hz
  obtain ⟨fr, f0, -, -, -, -⟩ := adS_r (σ := σ) (r := b + 3) (t := g.1) (x := g.2.1) (y := g.2.2.1) (z := g.2.2.2)
  have f1 := f0 1
  rw [if_pos rfl] at f1
  generalize adS σ (b + 3) g.1 g.2.1 g.2.2.1 g.2.2.2 = X at *
  have frb := fr.b
  have ne : ∀ c, c < b + 3 ∨ b + 8 ≤ c → X c = σ c := fun c hc => frb c (by omega)
  refine ⟨hr, ⟨?_, ⟨by rw [ne b (by omega)]; exact w0, by rw [ne b (by omega)]; exact w1, by rw [ne (b + 1) (by omega)]; exact w2, aw, w4.c (fun c c0 c1 => ne c (by omega)), w5.c (by rw [ne _ (by omega)]) (ne _ (by omega)) (ne _ (by omega)), fun k hk => (w6 k hk).c (fun c c0 c1 => ne c (by omega))⟩, by rw [ne b (by omega)]; exact h3⟩, ⟨s1, s2, ?_⟩, fun c hc => ne c (by omega)⟩
  · have q1 : coC X b = coC σ b := coC_eq (ne (b + 1) (by omega))
    have q2 : rlC X b = rlC σ b := by
      unfold rlC
      rw [ne b (by omega)]
      exact rkF_c _ _ (fun j j0 j1 => ruC_c (fun c c0 c1 => ne c (by omega)))
    have q3 : stC X (b + 8) = stC σ (b + 8) := stC_c (l := b + 8) (fun c c0 c1 => ne c (by omega))
    have q4 : byC X (b + 8) = byC σ (b + 8) := by unfold byC; rw [ne (b + 8 + 2) (by omega)]
    have hh : hlC X b = (coC σ b, rlC σ b, σ (b + 8) 0, T.2.2.1 ++ [(T.2.2.2.1, g)], T.2.2.2.1 + 1, mkU T.2.2.2.2 g, stC σ (b + 8), byC σ (b + 8)) := by
      unfold hlC rnC
      rw [q1, q2, q3, q4, ar, an, f1, e1, e2, e3, ne (b + 8) (by omega)]
    rw [hh]
    have c1 : coC σ b = T.1 := congrArg (fun x : Hl => x.1) h1
    have c2 : rlC σ b = T.2.1 := congrArg (fun x : Hl => x.2.1) h1
    have c3 : σ (b + 8) 0 = 0 := congrArg (fun x : Hl => x.2.2.1) h1
    have c4 : stC σ (b + 8) = [] := congrArg (fun x : Hl => x.2.2.2.2.2.2.1) h1
    have c5 : byC σ (b + 8) = fun _ => -1 := congrArg (fun x : Hl => x.2.2.2.2.2.2.2) h1
    rw [c1, c2, c3, c4, c5]
    rfl
  · show T.2.2.2.1 + 1 = ((T.2.2.1 ++ [(T.2.2.2.1, g)]).length : Int)
    rw [List.length_append, List.length_singleton, s3]
    rfl
theorem rkF_snoc : ∀ (k i : Nat), rkF σ b (k + 1) i = rkF σ b k i ++ [ruC σ (b + 14 + 7 * (i + k))] := by
  intro k
  induction k with
  | zero => intro i; rfl
  | succ k ih =>
    intro i
    rw [rkF, ih (i + 1), rkF, show i + 1 + k = i + (k + 1) by omega]
    rfl
/-- a rule's place in a hall -/
theorem ha_ru {k : Nat} (W : WfHa σ b) (hk : k ≤ 9) (F : FzB (b + 14 + 7 * k) 7 σ τ) (fb : far b 84) (w : WfRu τ (b + 14 + 7 * k)) : WfHa τ b ∧ ∀ c, b ≤ c → c < b + 84 → (c < b + 14 + 7 * k ∨ b + 14 + 7 * k + 7 ≤ c) → τ c = σ c := by
  unfold far at fb
  have ne : ∀ c, b ≤ c → c < b + 84 → (c < b + 14 + 7 * k ∨ b + 14 + 7 * k + 7 ≤ c) → τ c = σ c := fun c a e h => F.1 c (by omega) (by omega) (by omega) h
  obtain ⟨w0, w1, w2, w3, w4, w5, w6⟩ := W
  refine ⟨⟨by rw [ne b (by omega) (by omega) (by omega)]; exact w0, by rw [ne b (by omega) (by omega) (by omega)]; exact w1, by rw [ne (b + 1) (by omega) (by omega) (by omega)]; exact w2, w3.c (fun c c0 c1 => ne c (by omega) (by omega) (by omega)), w4.c (fun c c0 c1 => ne c (by omega) (by omega) (by omega)), w5.c (by rw [ne _ (by omega) (by omega) (by omega)]) (ne _ (by omega) (by omega) (by omega)) (ne _ (by omega) (by omega) (by omega)), fun j hj => ?_⟩, ne⟩
  by_cases e : j = k
  · subst e
    exact w
  · exact (w6 j hj).c (fun c c0 c1 => ne c (by omega) (by omega) (by omega))
/-- a rule more -/
theorem ht_ru {T : Tx} {k : Nat} (H : HtC σ b T) (hk : k ≤ 9) (hn : σ b 1 = (k : Int)) (F : FzB (b + 14 + 7 * k) 7 σ τ) (fb : far b 84) (w : WfRu τ (b + 14 + 7 * k)) : HtC (su τ b 1 (k + 1)) b (T.1, T.2.1 ++ [ruC τ (b + 14 + 7 * k)], T.2.2) ∧ FrB b 84 τ (su τ b 1 (k + 1)) := by
  obtain ⟨h1, h2, h3⟩ := H
  obtain ⟨v1, v2⟩ := ha_ru h2 hk F fb w
  have ne : ∀ c, b < c → su τ b 1 (k + 1) c = τ c := fun c hc => su_ne (by omega)
  have g0 : su τ b 1 (k + 1) b 0 = τ b 0 := su_off (by omega)
  have g1 : su τ b 1 (k + 1) b 1 = k + 1 := su_eq
  have fr : FrB b 84 τ (su τ b 1 (k + 1)) := fun c hc => su_ne (by omega)
  generalize su τ b 1 ((k : Int) + 1) = X at *
  obtain ⟨w0, w1, w2, w3, w4, w5, w6⟩ := v1
  refine ⟨⟨?_, ⟨by rw [g0]; exact w0, by rw [g1]; omega, by rw [ne (b + 1) (by omega)]; exact w2, w3.c (fun c c0 c1 => ne c (by omega)), w4.c (fun c c0 c1 => ne c (by omega)), w5.c (by rw [ne _ (by omega)]) (ne _ (by omega)) (ne _ (by omega)), fun j hj => (w6 j hj).c (fun c c0 c1 => ne c (by omega))⟩, by rw [g0, v2 b (by omega) (by omega) (by omega)]; exact h3⟩, fr⟩
  have xs : ∀ c, b < c → c < b + 84 → (c < b + 14 + 7 * k ∨ b + 14 + 7 * k + 7 ≤ c) → X c = σ c := fun c a e h => (ne c a).trans (v2 c (by omega) e h)
  have q1 : coC X b = coC σ b := coC_eq (xs (b + 1) (by omega) (by omega) (by omega))
  have q2 : rlC X b = rlC σ b ++ [ruC τ (b + 14 + 7 * k)] := by
    unfold rlC
    rw [g1, hn, show ((k : Int) + 1).toNat = k + 1 by omega, Int.toNat_natCast, rkF_snoc, Nat.zero_add, ruC_c (σ := τ) (a := b + 14 + 7 * k) (fun c c0 c1 => ne c (by omega))]
    congr 1
    exact rkF_c _ _ (fun j j0 j1 => ruC_c (fun c c0 c1 => xs c (by omega) (by omega) (by omega)))
  have q3 : rnC X b = rnC σ b := by
    unfold rnC naC byC
    rw [rsC_c (r := b + 3) (fun c c0 c1 => xs c (by omega) (by omega) (by omega)), xs (b + 3) (by omega) (by omega) (by omega), xs (b + 3 + 4) (by omega) (by omega) (by omega), stC_c (l := b + 8) (fun c c0 c1 => xs c (by omega) (by omega) (by omega)), xs (b + 8 + 2) (by omega) (by omega) (by omega)]
  have hh : hlC X b = (coC σ b, rlC σ b ++ [ruC τ (b + 14 + 7 * k)], σ (b + 8) 0, rnC σ b) := by
    unfold hlC
    rw [q1, q2, q3, xs (b + 8) (by omega) (by omega) (by omega)]
  rw [hh]
  have c1 : coC σ b = T.1 := congrArg (fun x : Hl => x.1) h1
  have c2 : rlC σ b = T.2.1 := congrArg (fun x : Hl => x.2.1) h1
  have c3 : σ (b + 8) 0 = 0 := congrArg (fun x : Hl => x.2.2.1) h1
  have c4 : rnC σ b = (HxT T).2.2.2 := congrArg (fun x : Hl => x.2.2.2) h1
  rw [c1, c2, c3, c4]
  rfl
end H8
