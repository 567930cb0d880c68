/-! a hall of the reference as one thing -/
def coR (σ : St) (h : Int) : Int → Int := fun t => if 0 ≤ t ∧ t ≤ 25 then σ 374 (26 * h + t) else 0
def naR (σ : St) (h : Int) : Int → Int := fun k => if 0 ≤ k ∧ k ≤ 99 then σ 385 (100 * h + k) else 0
def byR (σ : St) (h : Int) : Int → Int := fun n => if 0 ≤ n ∧ n < σ 381 h then σ 380 (200 * h + n) else -1
def stF (σ : St) (h : Int) : Nat → Int → List (List Int)
  | 0, _ => []
  | k + 1, i => [σ 384 (8 * (128 * h + i)), σ 384 (8 * (128 * h + i) + 1), σ 384 (8 * (128 * h + i) + 2), σ 384 (8 * (128 * h + i) + 3), σ 384 (8 * (128 * h + i) + 4), σ 384 (8 * (128 * h + i) + 5), σ 384 (8 * (128 * h + i) + 6)] :: stF σ h k (i + 1)
def stR (σ : St) (h : Int) : List (List Int) := stF σ h (σ 383 h).toNat 0
def rlF (σ : St) (h : Int) : Nat → Int → List Ru
  | 0, _ => []
  | k + 1, r => ruR σ h r :: rlF σ h k (r + 1)
def rlR (σ : St) (h : Int) : List Ru := rlF σ h (σ 375 h).toNat 0
def rnR (σ : St) (h : Int) : Rn := (rsR σ h, σ 381 h, naR σ h, stR σ h, byR σ h)
abbrev Hl : Type := (Int → Int) × List Ru × Int × Rn
def hlR (σ : St) (h : Int) : Hl := (coR σ h, rlR σ h, σ 382 h, rnR σ h)
/-- columns and rules of hall g' are those of hall g -/
def HQa (σ : St) (g : Int) (τ : St) (g' : Int) : Prop := (∀ t, 0 ≤ t → t < 26 → τ 374 (26 * g' + t) = σ 374 (26 * g + t)) ∧ τ 375 g' = σ 375 g ∧ ∀ k, 0 ≤ k → k < 300 → τ 376 (300 * g' + k) = σ 376 (300 * g + k)
/-- and rows, names -/
def HQb (σ : St) (g : Int) (τ : St) (g' : Int) : Prop := (∀ n, 0 ≤ n → n < 200 → τ 377 (200 * g' + n) = σ 377 (200 * g + n) ∧ τ 378 (200 * g' + n) = σ 378 (200 * g + n)) ∧ (∀ n, 0 ≤ n → n < 600 → τ 379 (600 * g' + n) = σ 379 (600 * g + n)) ∧ τ 381 g' = σ 381 g ∧ ∀ k, 0 ≤ k → k < 100 → τ 385 (100 * g' + k) = σ 385 (100 * g + k)
/-- and what the run left -/
def HQc (σ : St) (g : Int) (τ : St) (g' : Int) : Prop := (∀ n, 0 ≤ n → n < 200 → τ 380 (200 * g' + n) = σ 380 (200 * g + n)) ∧ τ 382 g' = σ 382 g ∧ τ 383 g' = σ 383 g ∧ ∀ k, 0 ≤ k → k < 1024 → τ 384 (1024 * g' + k) = σ 384 (1024 * g + k)
def HQ (σ : St) (g : Int) (τ : St) (g' : Int) : Prop := HQa σ g τ g' ∧ HQb σ g τ g' ∧ HQc σ g τ g'
section Hq
variable {σ τ ρ : St} {g g' g2 : Int}
theorem HQa.trans (h1 : HQa σ g τ g') (h2 : HQa τ g' ρ g2) : HQa σ g ρ g2 := ⟨fun t a b => (h2.1 t a b).trans (h1.1 t a b), h2.2.1.trans h1.2.1, fun t a b => (h2.2.2 t a b).trans (h1.2.2 t a b)⟩
theorem HQb.trans (h1 : HQb σ g τ g') (h2 : HQb τ g' ρ g2) : HQb σ g ρ g2 := ⟨fun t a b => ⟨(h2.1 t a b).1.trans (h1.1 t a b).1, (h2.1 t a b).2.trans (h1.1 t a b).2⟩, fun t a b => (h2.2.1 t a b).trans (h1.2.1 t a b), h2.2.2.1.trans h1.2.2.1, fun t a b => (h2.2.2.2 t a b).trans (h1.2.2.2 t a b)⟩
theorem HQc.trans (h1 : HQc σ g τ g') (h2 : HQc τ g' ρ g2) : HQc σ g ρ g2 := ⟨fun t a b => (h2.1 t a b).trans (h1.1 t a b), h2.2.1.trans h1.2.1, h2.2.2.1.trans h1.2.2.1, fun t a b => (h2.2.2.2 t a b).trans (h1.2.2.2 t a b)⟩
theorem HQ.trans (h1 : HQ σ g τ g') (h2 : HQ τ g' ρ g2) : HQ σ g ρ g2 := ⟨h1.1.trans h2.1, h1.2.1.trans h2.2.1, h1.2.2.trans h2.2.2⟩
theorem HQ.refl : HQ σ g σ g := ⟨⟨fun _ _ _ => rfl, rfl, fun _ _ _ => rfl⟩, ⟨fun _ _ _ => ⟨rfl, rfl⟩, fun _ _ _ => rfl, rfl, fun _ _ _ => rfl⟩, ⟨fun _ _ _ => rfl, rfl, rfl, fun _ _ _ => rfl⟩⟩
theorem HQ.of (h : ∀ c, 374 ≤ c → c ≤ 385 → τ c = σ c) : HQ σ g τ g := by
  refine ⟨⟨fun _ _ _ => ?_, ?_, fun _ _ _ => ?_⟩, ⟨fun _ _ _ => ⟨?_, ?_⟩, fun _ _ _ => ?_, ?_, fun _ _ _ => ?_⟩, ⟨fun _ _ _ => ?_, ?_, ?_, fun _ _ _ => ?_⟩⟩ <;> rw [h _ (by omega) (by omega)]
theorem HQa.of (h : ∀ c, 374 ≤ c → c ≤ 376 → τ c = σ c) : HQa σ g τ g := by
  refine ⟨fun _ _ _ => ?_, ?_, fun _ _ _ => ?_⟩ <;> rw [h _ (by omega) (by omega)]
theorem HQa.co (H : HQa σ g τ g') : coR τ g' = coR σ g := by
  funext t
  unfold coR
  by_cases ht : 0 ≤ t ∧ t ≤ 25
  · rw [if_pos ht, if_pos ht, H.1 t ht.1 (by omega)]
  · rw [if_neg ht, if_neg ht]
theorem HQa.r (H : HQa σ g τ g') {r f : Int} (r1 : 0 ≤ r) (r2 : r ≤ 9) (f1 : 0 ≤ f) (f2 : f ≤ 29) : τ 376 (30 * (10 * g' + r) + f) = σ 376 (30 * (10 * g + r) + f) := by
  have := H.2.2 (30 * r + f) (by omega) (by omega)
  rw [show 30 * (10 * g' + r) + f = 300 * g' + (30 * r + f) by omega, show 30 * (10 * g + r) + f = 300 * g + (30 * r + f) by omega]
  exact this
theorem HQa.at_ (H : HQa σ g τ g') (W : WfM σ) {r s i : Int} (h1 : 0 ≤ g) (h2 : g ≤ 4) (r1 : 0 ≤ r) (r2 : r ≤ 9) (s1 : 0 ≤ s) (s2 : s ≤ 1) (i1 : 0 ≤ i) (i2 : i ≤ 2) : atR τ g' r s i = atR σ g r s i := by
  have w := (W.ato h1 h2 r1 r2 s1 s2 i1 i2).1
  unfold atR
  rw [H.r r1 r2 (by omega) (by omega), H.r r1 r2 (by omega) (by omega), H.r r1 r2 (by omega) (by omega), H.r r1 r2 (by omega) (by omega), H.1 _ w.1 (by omega)]
theorem HQa.ats (H : HQa σ g τ g') (W : WfM σ) {r s : Int} (h1 : 0 ≤ g) (h2 : g ≤ 4) (r1 : 0 ≤ r) (r2 : r ≤ 9) (s1 : 0 ≤ s) (s2 : s ≤ 1) : ∀ (k : Nat) (i : Int), 0 ≤ i → i + k ≤ 3 → atsF τ g' r s k i = atsF σ g r s k i := by
  intro k
  induction k with
  | zero => intro i _ _; rfl
  | succ k ih =>
    intro i i0 ik
    rw [atsF, atsF, H.at_ W h1 h2 r1 r2 s1 s2 i0 (by omega), ih (i + 1) (by omega) (by omega)]
theorem HQa.ru (H : HQa σ g τ g') (W : WfM σ) {r : Int} (h1 : 0 ≤ g) (h2 : g ≤ 4) (r1 : 0 ≤ r) (r2 : r ≤ 9) : ruR τ g' r = ruR σ g r := by
  have w := W.rul h1 h2 r1 r2
  have e0 := H.r (r := r) (f := 0) r1 r2 (by omega) (by omega)
  rw [Int.add_zero, Int.add_zero] at e0
  unfold ruR
  rw [e0, H.r r1 r2 (by omega) (by omega), H.r r1 r2 (by omega) (by omega), H.r r1 r2 (by omega) (by omega), H.r r1 r2 (by omega) (by omega), H.ats W h1 h2 r1 r2 (by omega) (by omega) _ _ (by omega) (by omega), H.ats W h1 h2 r1 r2 (by omega) (by omega) _ _ (by omega) (by omega)]
theorem HQa.rl (H : HQa σ g τ g') (W : WfM σ) (h1 : 0 ≤ g) (h2 : g ≤ 4) : rlR τ g' = rlR σ g := by
  have w := W.rm h1 h2
  have : ∀ (k : Nat) (r : Int), 0 ≤ r → r + k ≤ 10 → rlF τ g' k r = rlF σ g k r := by
    intro k
    induction k with
    | zero => intro r _ _; rfl
    | succ k ih =>
      intro r r0 rk
      rw [rlF, rlF, H.ru W h1 h2 r0 (by omega), ih (r + 1) (by omega) (by omega)]
  unfold rlR
  rw [H.2.1]
  exact this _ 0 (by omega) (by omega)
theorem HQb.rw_ (H : HQb σ g τ g') (A : HQa σ g τ g') (W : WfM σ) (h1 : 0 ≤ g) (h2 : g ≤ 4) {n : Int} (n0 : 0 ≤ n) (n1 : n ≤ 199) : rwR τ g' n = rwR σ g n := by
  have w := W.tab (n := n) h1 h2 n0 n1
  have e : ∀ c, 0 ≤ c → c ≤ 2 → τ 379 (3 * (200 * g' + n) + c) = σ 379 (3 * (200 * g + n) + c) := fun c c0 c1 => by
    have := H.2.1 (3 * n + c) (by omega) (by omega)
    rw [show 3 * (200 * g' + n) + c = 600 * g' + (3 * n + c) by omega, show 3 * (200 * g + n) + c = 600 * g + (3 * n + c) by omega]
    exact this
  have e0 := e 0 (by omega) (by omega)
  rw [Int.add_zero, Int.add_zero] at e0
  unfold rwR
  rw [(H.1 n n0 (by omega)).2, A.1 _ w.1 (by omega), e0, e 1 (by omega) (by omega), e 2 (by omega) (by omega)]
theorem HQb.rs (H : HQb σ g τ g') (A : HQa σ g τ g') (W : WfM σ) (h1 : 0 ≤ g) (h2 : g ≤ 4) : rsR τ g' = rsR σ g := by
  have w := W.nxt h1 h2
  have : ∀ (k : Nat) (n : Int), 0 ≤ n → n + k ≤ 200 → rsF τ g' k n = rsF σ g k n := by
    intro k
    induction k with
    | zero => intro r _ _; rfl
    | succ k ih =>
      intro n n0 nk
      rw [rsF, rsF, (H.1 n n0 (by omega)).1, H.rw_ A W h1 h2 n0 (by omega), ih (n + 1) (by omega) (by omega)]
  unfold rsR
  rw [H.2.2.1]
  exact this _ 0 (by omega) (by omega)
theorem HQb.na (H : HQb σ g τ g') : naR τ g' = naR σ g := by
  funext k
  unfold naR
  by_cases ht : 0 ≤ k ∧ k ≤ 99
  · rw [if_pos ht, if_pos ht, H.2.2.2 k ht.1 (by omega)]
  · rw [if_neg ht, if_neg ht]
theorem HQc.st (H : HQc σ g τ g') (W : WfM σ) (h1 : 0 ≤ g) (h2 : g ≤ 4) : stR τ g' = stR σ g := by
  have w := W.stp h1 h2
  have e : ∀ i c, 0 ≤ i → i ≤ 127 → 0 ≤ c → c ≤ 7 → τ 384 (8 * (128 * g' + i) + c) = σ 384 (8 * (128 * g + i) + c) := fun i c i0 i1 c0 c1 => by
    have := H.2.2.2 (8 * i + c) (by omega) (by omega)
    rw [show 8 * (128 * g' + i) + c = 1024 * g' + (8 * i + c) by omega, show 8 * (128 * g + i) + c = 1024 * g + (8 * i + c) by omega]
    exact this
  have : ∀ (k : Nat) (n : Int), 0 ≤ n → n + k ≤ 100 → stF τ g' k n = stF σ g k n := by
    intro k
    induction k with
    | zero => intro r _ _; rfl
    | succ k ih =>
      intro n n0 nk
      have e0 := e n 0 n0 (by omega) (by omega) (by omega)
      rw [Int.add_zero, Int.add_zero] at e0
      rw [stF, stF, e0, e n 1 n0 (by omega) (by omega) (by omega), e n 2 n0 (by omega) (by omega) (by omega), e n 3 n0 (by omega) (by omega) (by omega), e n 4 n0 (by omega) (by omega) (by omega), e n 5 n0 (by omega) (by omega) (by omega), e n 6 n0 (by omega) (by omega) (by omega), ih (n + 1) (by omega) (by omega)]
  unfold stR
  rw [H.2.2.1]
  exact this _ 0 (by omega) (by omega)
theorem HQc.by_ (H : HQc σ g τ g') (B : HQb σ g τ g') (W : WfM σ) (h1 : 0 ≤ g) (h2 : g ≤ 4) : byR τ g' = byR σ g := by
  have w := W.nxt h1 h2
  funext n
  unfold byR
  rw [B.2.2.1]
  by_cases hn : 0 ≤ n ∧ n < σ 381 g
  · rw [if_pos hn, if_pos hn, H.1 n hn.1 (by omega)]
  · rw [if_neg hn, if_neg hn]
theorem HQ.hl (H : HQ σ g τ g') (W : WfM σ) (h1 : 0 ≤ g) (h2 : g ≤ 4) : hlR τ g' = hlR σ g := by
  unfold hlR rnR
  rw [H.1.co, H.1.rl W h1 h2, H.2.2.2.1, H.2.1.rs H.1 W h1 h2, H.2.1.2.2.1, H.2.1.na, H.2.2.st W h1 h2, H.2.2.by_ H.2.1 W h1 h2]
end Hq
/-- what lies beside the halls: tape, faults, the latest lead, the answers -/
def RsR (σ τ : St) : Prop := τ 386 = σ 386 ∧ τ 396 = σ 396 ∧ τ 398 = σ 398 ∧ τ 373 14 = σ 373 14 ∧ τ 373 20 = σ 373 20 ∧ τ 373 21 = σ 373 21 ∧ τ 373 37 = σ 373 37 ∧ τ 373 42 = σ 373 42 ∧ τ 373 44 = σ 373 44 ∧ ∀ c, c < 373 → τ c = σ c
theorem RsR.refl {σ : St} : RsR σ σ := ⟨rfl, rfl, rfl, rfl, rfl, rfl, rfl, rfl, rfl, fun _ _ => rfl⟩
theorem RsR.trans {σ τ ρ : St} (h1 : RsR σ τ) (h2 : RsR τ ρ) : RsR σ ρ := ⟨h2.1.trans h1.1, h2.2.1.trans h1.2.1, h2.2.2.1.trans h1.2.2.1, h2.2.2.2.1.trans h1.2.2.2.1, h2.2.2.2.2.1.trans h1.2.2.2.2.1, h2.2.2.2.2.2.1.trans h1.2.2.2.2.2.1, h2.2.2.2.2.2.2.1.trans h1.2.2.2.2.2.2.1, h2.2.2.2.2.2.2.2.1.trans h1.2.2.2.2.2.2.2.1, h2.2.2.2.2.2.2.2.2.1.trans h1.2.2.2.2.2.2.2.2.1, fun c h => (h2.2.2.2.2.2.2.2.2.2 c h).trans (h1.2.2.2.2.2.2.2.2.2 c h)⟩
theorem RsR.of {σ τ : St} (h : ∀ c, c ≠ 373 → (c ≤ 373 ∨ c = 386 ∨ c = 396 ∨ c = 398) → τ c = σ c) (h3 : ∀ j, j = 14 ∨ j = 20 ∨ j = 21 ∨ j = 37 ∨ j = 42 ∨ j = 44 → τ 373 j = σ 373 j) : RsR σ τ := ⟨h 386 (by omega) (by omega), h 396 (by omega) (by omega), h 398 (by omega) (by omega), h3 14 (by omega), h3 20 (by omega), h3 21 (by omega), h3 37 (by omega), h3 42 (by omega), h3 44 (by omega), fun c hc => h c (by omega) (by omega)⟩
theorem RsR.su_ {σ : St} {a : Nat} {i x : Int} (h : 373 < a ∧ a ≠ 386 ∧ a ≠ 396 ∧ a ≠ 398) : RsR σ (su σ a i x) := RsR.of (fun c _ _ => su_ne (by omega)) (fun j _ => by rw [su_ne (by omega)])
theorem RsR.su3 {σ : St} {i x : Int} (h : i ≠ 14 ∧ i ≠ 20 ∧ i ≠ 21 ∧ i ≠ 37 ∧ i ≠ 42 ∧ i ≠ 44) : RsR σ (su σ 373 i x) := RsR.of (fun c a _ => su_ne (by omega)) (fun j _ => su_off (by omega))
theorem RsR.scp_ {σ : St} {a b : Nat} {i x n : Int} (h : 373 < a ∧ a ≠ 386 ∧ a ≠ 396 ∧ a ≠ 398) : RsR σ (scp σ b i a x n) := RsR.of (fun c _ _ => scp_ne (by omega)) (fun j _ => by rw [scp_ne (by omega)])
theorem RsR.fl_ {σ : St} {a : Nat} {i x n : Int} (h : 373 < a ∧ a ≠ 386 ∧ a ≠ 396 ∧ a ≠ 398) : RsR σ (fl σ a i x n) := RsR.of (fun c _ _ => fl_ne (by omega)) (fun j _ => by rw [fl_ne (by omega)])
