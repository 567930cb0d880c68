/-! what both keep between calls -/
/-- three halls; the tape; the fault; the latest lead; the answers -/
abbrev AS : Type := (Int → Hl) × (Int × (Int → Int)) × Fa × (Int → Int) × (Int × List Int)
def okH (H : Hl) : Prop := (∀ t, 0 ≤ H.1 t ∧ H.1 t ≤ 3) ∧ (∀ t, ¬ (0 ≤ t ∧ t ≤ 25) → H.1 t = 0) ∧ (0 ≤ tabF H.1 26 0 ∧ tabF H.1 26 0 ≤ 6) ∧ (∀ r ∈ H.2.1, okRl H.1 r) ∧ H.2.1.length ≤ 10 ∧ okS H.1 H.2.2.2 ∧ (0 ≤ H.2.2.1 ∧ H.2.2.1 ≤ 3)
def okAS (A : AS) : Prop := (∀ h, 0 ≤ h → h ≤ 2 → okH (A.1 h)) ∧ (0 ≤ A.2.1.1 ∧ A.2.1.1 ≤ 1000) ∧ (∀ k, 0 ≤ k → k ≤ 999 → 0 ≤ A.2.1.2 k ∧ A.2.1.2 k ≤ 255) ∧ True ∧ True ∧ (0 ≤ A.2.2.2.2.1 ∧ A.2.2.2.2.1 ≤ 3) ∧ (A.2.2.2.2.2.length ≤ 1600 ∧ ∀ c ∈ A.2.2.2.2.2, 0 ≤ c ∧ c < 1000000)
def VC (A : AS) (σ : St) : Prop := (∀ h, 0 ≤ h → h ≤ 2 → hlC σ (hpb h) = A.1 h ∧ WfHa σ (hpb h) ∧ σ (hpb h) 0 = tabF (A.1 h).1 26 0) ∧ (WfHa σ 2 ∧ WfRu σ 94) ∧ (σ 0 3 = A.2.1.1 ∧ σ 86 = A.2.1.2) ∧ (σ 87 0 = A.2.2.1.1 ∧ σ 87 1 = A.2.2.1.2) ∧ (∀ k, 0 ≤ k → k ≤ 99 → σ 108 k = A.2.2.2.1 k) ∧ σ 119 1 = A.2.2.2.2.1 ∧ CdI A.2.2.2.2.2 σ
def VR (A : AS) (σ : St) : Prop := (∀ h, 0 ≤ h → h ≤ 2 → hlR σ h = A.1 h) ∧ (WfM σ ∧ gdB (σ 393)) ∧ (σ 373 14 = A.2.1.1 ∧ σ 386 = A.2.1.2) ∧ (σ 373 20 = A.2.2.1.1 ∧ σ 373 21 = A.2.2.1.2) ∧ (inR (σ 373 37) ∧ ∀ k, 0 ≤ k → k ≤ 99 → (if σ 373 37 = 1 then σ 396 k else -1) = A.2.2.2.1 k) ∧ σ 373 44 = A.2.2.2.2.1 ∧ σ 373 42 = (A.2.2.2.2.2.length : Int) ∧ fnV (σ 398) A.2.2.2.2.2
def VV (A : AS) (σ : St) : Prop := VC A σ ∧ VR A σ ∧ okAS A
def stH (A : AS) (h : Int) (H : Hl) : AS := (fun g => if g = h then H else A.1 g, A.2)
theorem stH_eq {A : AS} {h : Int} {H : Hl} : (stH A h H).1 h = H := by unfold stH; dsimp only; rw [if_pos rfl]
theorem stH_ne {A : AS} {h g : Int} {H : Hl} (e : g ≠ h) : (stH A h H).1 g = A.1 g := by unfold stH; dsimp only; rw [if_neg e]
theorem stH_id {A : AS} {h : Int} : stH A h (A.1 h) = A := by
  unfold stH
  have : (fun g => if g = h then A.1 h else A.1 g) = A.1 := by
    funext g
    split
    · rename_i e; rw [e]
    · rfl
  rw [this]
theorem okAS.st {A : AS} {h : Int} {H : Hl} (o : okAS A) (k : okH H) : okAS (stH A h H) := by
  refine ⟨fun g g0 g2 => ?_, o.2⟩
  by_cases e : g = h
  · rw [e, stH_eq]; exact k
  · rw [stH_ne e]; exact o.1 g g0 g2
theorem VC.c {A : AS} {σ τ : St} (V : VC A σ) (h : ∀ c, c < 373 → τ c = σ c) : VC A τ := by
  obtain ⟨v1, v2, v3, v4, v5, v6, v7⟩ := V
  refine ⟨fun g g0 g2 => ?_, ⟨v2.1.c (fun c a b => h c (by omega)), v2.2.c (fun c a b => h c (by omega))⟩, by rw [h 0 (by omega), h 86 (by omega)]; exact v3, by rw [h 87 (by omega)]; exact v4, fun k k0 k1 => by rw [h 108 (by omega)]; exact v5 k k0 k1, by rw [h 119 (by omega)]; exact v6, v7.c (by rw [h 119 (by omega)]) (h 120 (by omega))⟩
  obtain ⟨a1, a2, a3⟩ := v1 g g0 g2
  have r := hpb_r g2
  exact ⟨(hlC_c (fun c x y => h c (by omega)) a2.2.1.2).trans a1, a2.c (fun c x y => h c (by omega)), by rw [h _ (by omega)]; exact a3⟩
theorem VR.c {A : AS} {σ τ : St} (V : VR A σ) (h : ∀ c, 373 < c → c ≤ 398 → τ c = σ c) (h3 : ∀ j, j = 14 ∨ j = 20 ∨ j = 21 ∨ j = 37 ∨ j = 42 ∨ j = 44 → τ 373 j = σ 373 j) : VR A τ := by
  obtain ⟨v1, ⟨v2, v2'⟩, v3, v4, v5, v6, v7, v8⟩ := V
  have D : Dt σ τ := ⟨fun c a b => h c (by omega) (by omega), h3 14 (by omega)⟩
  refine ⟨fun g g0 g2 => (D.hl v2 g0 (by omega)).trans (v1 g g0 g2), ⟨D.wf v2, by rw [h 393 (by omega) (by omega)]; exact v2'⟩, by rw [h3 14 (by omega), h 386 (by omega) (by omega)]; exact v3, by rw [h3 20 (by omega), h3 21 (by omega)]; exact v4, by rw [h3 37 (by omega), h 396 (by omega) (by omega)]; exact v5, by rw [h3 44 (by omega)]; exact v6, by rw [h3 42 (by omega)]; exact v7, by rw [h 398 (by omega) (by omega)]; exact v8⟩
theorem VR.th {A : AS} {σ : St} {x : Int} (V : VR A σ) : VR A (su σ 373 0 x) := V.c (fun c hc _ => su_ne (by omega)) (fun j hj => su_off (by omega))
/-- one hall of the class has changed -/
theorem VC.h {A : AS} {σ τ : St} {h : Int} {H : Hl} (V : VC A σ) (h0 : 0 ≤ h) (h2 : h ≤ 2) (K : KpC (hpb h) σ τ) (w : WfHa τ (hpb h)) (e : hlC τ (hpb h) = H) (ec : τ (hpb h) 0 = tabF H.1 26 0) : VC (stH A h H) τ := by
  obtain ⟨v1, v2, v3, v4, v5, v6, v7⟩ := V
  obtain ⟨k1, k2, k3, k4, k5⟩ := K
  have r := hpb_r h2
  refine ⟨fun g g0 g2 => ?_, ⟨k4 v2.1, k5 v2.2⟩, by rw [k1 0 (by omega) (by omega), k1 86 (by omega) (by omega)]; exact v3, by rw [k2, k3]; exact v4, fun k k0 k9 => by rw [k1 108 (by omega) (by omega)]; exact v5 k k0 k9, by rw [k1 119 (by omega) (by omega)]; exact v6, v7.c (by rw [k1 119 (by omega) (by omega)]) (k1 120 (by omega) (by omega))⟩
  by_cases hg : g = h
  · subst hg
    rw [stH_eq]
    exact ⟨e, w, ec⟩
  · rw [stH_ne hg]
    obtain ⟨a1, a2, a3⟩ := v1 g g0 g2
    have ne : ∀ c, hpb g ≤ c → c < hpb g + 84 → τ c = σ c := fun c x y => k1 c (by unfold hpb at x; omega) (by unfold hpb at *; omega)
    exact ⟨(hlC_c ne a2.2.1.2).trans a1, a2.c ne, by rw [ne _ (by omega) (by omega)]; exact a3⟩
/-- one hall of the reference has changed -/
theorem VR.h {A : AS} {σ τ : St} {h : Int} {H : Hl} (V : VR A σ) (K : KpR h σ τ) (e : hlR τ h = H) : VR (stH A h H) τ := by
  obtain ⟨v1, ⟨v2, v2'⟩, v3, v4, v5, v6, v7, v8⟩ := V
  obtain ⟨⟨r1, r2, r3, r4, r5, r6, r7, r8, r9, r10⟩, k2, k3, k4⟩ := K
  refine ⟨fun g g0 g2 => ?_, ⟨k3, k4 v2'⟩, by rw [r4, r1]; exact v3, by rw [r5, r6]; exact v4, by rw [r7, r2]; exact v5, by rw [r9]; exact v6, by rw [r8]; exact v7, by rw [r3]; exact v8⟩
  by_cases hg : g = h
  · subst hg
    rw [stH_eq]
    exact e
  · rw [stH_ne hg]
    exact ((k2 g g0 g2 hg).hl v2 g0 (by omega)).trans (v1 g g0 g2)
/-- both, after a call: what it gave, or what was thrown -/
def Lk (sc : Scr) (d yc : Nat) (lc : LV) (yr : Nat) (lr : LV) (σ : St) : Prop := ∃ (A : AS) (τ ρ : St) (r : Int ⊕ Nat) (v : Int), VV A ρ ∧ (yc = 16 ∨ yc = 17 ∨ inR v) ∧
  (match r with
    | .inl w => w = v ∧ ρ 373 0 = 0 ∧ RnA sc d yc 0 lc σ (some (vI w)) τ
    | .inr k => (k = 1 ∧ 20 ≤ yc ∨ k = 2 ∧ yc = 173) ∧ ρ 373 0 = (k : Int) ∧ ∀ (u : Bool × Nat × Nat × Int) (Q : Rs → HS → Prop), Ex sc d yc 0 lc [] (wH σ u) Q ↔ Q (.inr k) (wH τ (thU u))) ∧ RnA sc d yr 0 lr τ (some (vI v)) ρ
/-- both gave the same -/
theorem Lk.ok {sc : Scr} {d yc yr : Nat} {lc lr : LV} {σ τ ρ : St} {A : AS} {v : Int} (hv : inR v) (ha : okAS A) (hc : VC A τ) (hr : VR A ρ) (fr : ∀ c, c < 373 → ρ c = τ c) (h0 : ρ 373 0 = 0) (r1 : RnA sc d yc 0 lc σ (some (vI v)) τ) (r2 : RnA sc d yr 0 lr τ (some (vI v)) ρ) : Lk sc d yc lc yr lr σ := ⟨A, τ, ρ, .inl v, v, ⟨hc.c fr, hr, ha⟩, Or.inr (Or.inr hv), ⟨rfl, h0, r1⟩, r2⟩
/-- nothing but thrown -/
theorem Lk.no {sc : Scr} {d yc yr : Nat} {lc lr : LV} {σ : St} {A : AS} {k : Nat} (V : VV A σ) (hk : k = 1 ∧ 20 ≤ yc ∨ k = 2 ∧ yc = 173) (r1 : ∀ (u : Bool × Nat × Nat × Int) (Q : Rs → HS → Prop), Ex sc d yc 0 lc [] (wH σ u) Q ↔ Q (.inr k) (wH σ (thU u))) (r2 : RnA sc d yr 0 lr σ (some (vI 0)) (su σ 373 0 k)) : Lk sc d yc lc yr lr σ := ⟨A, σ, su σ 373 0 k, .inr k, 0, ⟨V.1.c (fun c hc => su_ne (by omega)), V.2.1.th, V.2.2⟩, Or.inr (Or.inr ⟨by decide, by decide⟩), ⟨hk, su_eq, r1⟩, r2⟩
/-- nothing has changed -/
theorem Lk.eq {sc : Scr} {d yc yr : Nat} {lc lr : LV} {σ : St} {A : AS} {v : Int} (V : VV A σ) (hv : inR v) (r1 : RnA sc d yc 0 lc σ (some (vI v)) σ) (r2 : RnA sc d yr 0 lr σ (some (vI v)) (su σ 373 0 0)) : Lk sc d yc lc yr lr σ := Lk.ok hv V.2.2 V.1 V.2.1.th (fun c hc => su_ne (by omega)) su_eq r1 r2
theorem Lk.eq' {sc : Scr} {d yc yr : Nat} {lc lr : LV} {σ : St} {A : AS} {v : Int} (V : VV A σ) (hy : yc = 16 ∨ yc = 17) (r1 : RnA sc d yc 0 lc σ (some (vI v)) σ) (r2 : RnA sc d yr 0 lr σ (some (vI v)) (su σ 373 0 0)) : Lk sc d yc lc yr lr σ := ⟨A, σ, su σ 373 0 0, .inl v, v, ⟨V.1.c (fun c hc => su_ne (by omega)), V.2.1.th, V.2.2⟩, hy.elim Or.inl (fun z => Or.inr (Or.inl z)), ⟨rfl, su_eq, r1⟩, r2⟩
/-- tape and fault of the class have changed -/
theorem VC.tf {A : AS} {σ τ : St} {T : Int × (Int → Int)} {e : Fa} (V : VC A σ) (h : ∀ c, c = 108 ∨ 119 ≤ c → τ c = σ c) (w2 : WfHa τ 2) (w9 : WfRu τ 94) (t1 : τ 0 3 = T.1) (t2 : τ 86 = T.2) (e1 : τ 87 0 = e.1) (e2 : τ 87 1 = e.2) : VC (A.1, T, e, A.2.2.2) τ := by
  obtain ⟨v1, v2, v3, v4, v5, v6, v7⟩ := V
  refine ⟨fun g g0 g2 => ?_, ⟨w2, w9⟩, ⟨t1, t2⟩, ⟨e1, e2⟩, fun k k0 k1 => by rw [h 108 (by omega)]; exact v5 k k0 k1, by rw [h 119 (by omega)]; exact v6, v7.c (by rw [h 119 (by omega)]) (h 120 (by omega))⟩
  obtain ⟨a1, a2, a3⟩ := v1 g g0 g2
  have r := hpb_r g2
  have ne : ∀ c, hpb g ≤ c → c < hpb g + 84 → τ c = σ c := fun c x y => h c (by omega)
  exact ⟨(hlC_c ne a2.2.1.2).trans a1, a2.c ne, by rw [ne _ (by omega) (by omega)]; exact a3⟩
theorem WfM.tp {σ τ : St} (w : WfM σ) (D : ∀ c, 374 ≤ c → c ≤ 385 → τ c = σ c) (h1 : 0 ≤ τ 373 14 ∧ τ 373 14 ≤ 1000) (h2 : ∀ i, 0 ≤ i → i < 1000 → 0 ≤ τ 386 i ∧ τ 386 i ≤ 255) : WfM τ := by
  unfold WfM at *
  rw [D 374 (by omega) (by omega), D 375 (by omega) (by omega), D 376 (by omega) (by omega), D 377 (by omega) (by omega), D 378 (by omega) (by omega), D 379 (by omega) (by omega), D 380 (by omega) (by omega), D 381 (by omega) (by omega), D 382 (by omega) (by omega), D 383 (by omega) (by omega), D 385 (by omega) (by omega)]
  exact ⟨w.1, w.2.1, w.2.2.1, w.2.2.2.1, w.2.2.2.2.1, w.2.2.2.2.2.1, w.2.2.2.2.2.2.1, w.2.2.2.2.2.2.2.1, w.2.2.2.2.2.2.2.2.1, w.2.2.2.2.2.2.2.2.2.1, w.2.2.2.2.2.2.2.2.2.2.1, h2, h1⟩
/-- tape and fault of the reference have changed -/
theorem VR.tf {A : AS} {σ τ : St} {T : Int × (Int → Int)} {e : Fa} (V : VR A σ) (h : ∀ c, 374 ≤ c → c ≤ 385 ∨ c = 393 ∨ c = 396 ∨ c = 398 → τ c = σ c) (h3 : ∀ j, j = 37 ∨ j = 42 ∨ j = 44 → τ 373 j = σ 373 j) (T1 : 0 ≤ T.1 ∧ T.1 ≤ 1000) (T2 : ∀ k, 0 ≤ k → k ≤ 999 → 0 ≤ T.2 k ∧ T.2 k ≤ 255) (t1 : τ 373 14 = T.1) (t2 : τ 386 = T.2) (e1 : τ 373 20 = e.1) (e2 : τ 373 21 = e.2) : VR (A.1, T, e, A.2.2.2) τ := by
  obtain ⟨v1, ⟨v2, v2'⟩, v3, v4, v5, v6, v7, v8⟩ := V
  refine ⟨fun g g0 g2 => ((HQ.of (fun c a b => h c a (by omega))).hl v2 g0 (by omega)).trans (v1 g g0 g2), ⟨v2.tp (fun c a b => h c a (by omega)) (by rw [t1]; exact T1) (fun i i0 i1 => by rw [t2]; exact T2 i i0 (by omega)), by rw [h 393 (by omega) (by omega)]; exact v2'⟩, ⟨t1, t2⟩, ⟨e1, e2⟩, by rw [h3 37 (by omega), h 396 (by omega) (by omega)]; exact v5, by rw [h3 44 (by omega)]; exact v6, by rw [h3 42 (by omega)]; exact v7, by rw [h 398 (by omega) (by omega)]; exact v8⟩
