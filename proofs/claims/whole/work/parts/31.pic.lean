/-! THE PICTURE: rows, atoms, rules, hits, as lists. A row: number, table, three terms (none beyond the columns: -1). An atom: table, three places. -/
abbrev At : Type := Int × Int × Int × Int
abbrev Rw : Type := Int × At
abbrev Ru : Type := Int × List At × List At × Int × Int
abbrev Bd : Type := Int → Int
def bup (β : Bd) (v x : Int) : Bd := fun w => if w = v then x else β w
def bd0 : Bd := fun _ => -1
def worthB (β : Bd) (p : Int) : Int := if 2000 ≤ p then β (p - 2000) else p
def fit1 (β : Bd) (p t : Int) : Option Bd := if 2000 ≤ p ∧ β (p - 2000) = -1 then some (bup β (p - 2000) t) else if worthB β p = t then some β else none
def fitA (β : Bd) (a w : At) : Option Bd := if a.1 = w.1 then (fit1 β a.2.1 w.2.1).bind fun β => (fit1 β a.2.2.1 w.2.2.1).bind fun β => fit1 β a.2.2.2 w.2.2.2 else none
def hitsL (L : List Rw) : List At → Bd → List (List Rw × Bd)
  | [], β => [([], β)]
  | a :: as, β => L.flatMap fun w => match fitA β a w.2 with
    | none => []
    | some β' => (hitsL L as β').map fun q => (w :: q.1, q.2)
def standsL (L : List Rw) : List At → Bd → Bool
  | [], _ => true
  | a :: as, β => L.any fun w => match fitA β a w.2 with
    | none => false
    | some β' => standsL L as β'
def fulfL (r : Ru) (L : List Rw) (β : Bd) : Bool := if r.1 = 0 then standsL L r.2.2.1 β else if r.1 = 1 then decide (worthB β r.2.2.2.1 = worthB β r.2.2.2.2) else false
def topF (t : Int) (w : Rw) : Int := if t < w.1 then w.1 else t
def topL (q : List Rw) : Int := q.foldl topF 0
def openF (r : Ru) (L : List Rw) (best : Option (List Rw)) (q : List Rw × Bd) : Option (List Rw) :=
  if fulfL r L q.2 = true then best else match best with
    | none => some q.1
    | some b => if topL b ≤ topL q.1 then best else some q.1
def openL (r : Ru) (L : List Rw) : Option (List Rw) := (hitsL L r.2.1 bd0).foldl (openF r L) none
def findL (L : List Rw) (q : At) : Option Rw := L.find? fun w => decide (w.2 = q)
def numO (o : Option Rw) : Int := match o with
  | none => -1
  | some w => w.1
/-- terms beyond the columns do not count -/
def nrm (m x y z : Int) : Int × Int × Int := (x, if 2 ≤ m then y else -1, if 3 ≤ m then z else -1)
/-- what can stand in a row; what can stand in an atom -/
def isTm (t : Int) : Prop := (0 ≤ t ∧ t ≤ 99) ∨ (1000 ≤ t ∧ t ≤ 1099)
def isPl (t : Int) : Prop := (0 ≤ t ∧ t ≤ 99) ∨ (2000 ≤ t ∧ t ≤ 2025)
/-- the reference's rows of a hall -/
def rwR (σ : St) (h n : Int) : Rw := (n, σ 378 (200 * h + n), nrm (σ 374 (26 * h + σ 378 (200 * h + n))) (σ 379 (3 * (200 * h + n))) (σ 379 (3 * (200 * h + n) + 1)) (σ 379 (3 * (200 * h + n) + 2)))
def rsF (σ : St) (h : Int) : Nat → Int → List Rw
  | 0, _ => []
  | k + 1, n => if σ 377 (200 * h + n) = 1 then rwR σ h n :: rsF σ h k (n + 1) else rsF σ h k (n + 1)
def rsR (σ : St) (h : Int) : List Rw := rsF σ h (σ 381 h).toNat 0
/-- the reference's atoms and rules of a hall -/
def atR (σ : St) (h r s i : Int) : At := (σ 376 (30 * (10 * h + r) + (3 + 4 * (3 * s + i))), nrm (σ 374 (26 * h + σ 376 (30 * (10 * h + r) + (3 + 4 * (3 * s + i))))) (σ 376 (30 * (10 * h + r) + (3 + 4 * (3 * s + i) + 1))) (σ 376 (30 * (10 * h + r) + (3 + 4 * (3 * s + i) + 2))) (σ 376 (30 * (10 * h + r) + (3 + 4 * (3 * s + i) + 3))))
def atsF (σ : St) (h r s : Int) : Nat → Int → List At
  | 0, _ => []
  | k + 1, i => atR σ h r s i :: atsF σ h r s k (i + 1)
def ruR (σ : St) (h r : Int) : Ru := (σ 376 (30 * (10 * h + r) + 1), atsF σ h r 0 (σ 376 (30 * (10 * h + r))).toNat 0, atsF σ h r 1 (σ 376 (30 * (10 * h + r) + 2)).toNat 0, (if σ 376 (30 * (10 * h + r) + 1) = 1 then σ 376 (30 * (10 * h + r) + 27) else -1), if σ 376 (30 * (10 * h + r) + 1) = 1 then σ 376 (30 * (10 * h + r) + 28) else -1)
/-- the reference's rows of numbers hold what they may -/
def WfM (σ : St) : Prop :=
  (∀ i, 0 ≤ i → i < 130 → 0 ≤ σ 374 i ∧ σ 374 i ≤ 3) ∧ (∀ i, 0 ≤ i → i < 5 → 0 ≤ σ 375 i ∧ σ 375 i ≤ 10) ∧
  (∀ i, 0 ≤ i → i < 50 → (0 ≤ σ 376 (30 * i) ∧ σ 376 (30 * i) ≤ 3) ∧ (0 ≤ σ 376 (30 * i + 1) ∧ σ 376 (30 * i + 1) ≤ 2) ∧ (0 ≤ σ 376 (30 * i + 2) ∧ σ 376 (30 * i + 2) ≤ 3) ∧ isPl (σ 376 (30 * i + 27)) ∧ isPl (σ 376 (30 * i + 28)) ∧
    ∀ j, 0 ≤ j → j < 6 → (0 ≤ σ 376 (30 * i + (3 + 4 * j)) ∧ σ 376 (30 * i + (3 + 4 * j)) ≤ 25) ∧ isPl (σ 376 (30 * i + (3 + 4 * j + 1))) ∧ isPl (σ 376 (30 * i + (3 + 4 * j + 2))) ∧ isPl (σ 376 (30 * i + (3 + 4 * j + 3)))) ∧
  (∀ i, 0 ≤ i → i < 1000 → σ 377 i = 0 ∨ σ 377 i = 1) ∧ (∀ i, 0 ≤ i → i < 1000 → 0 ≤ σ 378 i ∧ σ 378 i ≤ 25) ∧ (∀ i, 0 ≤ i → i < 3000 → isTm (σ 379 i)) ∧
  (∀ i, 0 ≤ i → i < 1000 → -1 ≤ σ 380 i ∧ σ 380 i ≤ 100) ∧ (∀ i, 0 ≤ i → i < 5 → 0 ≤ σ 381 i ∧ σ 381 i ≤ 200) ∧ (∀ i, 0 ≤ i → i < 5 → 0 ≤ σ 382 i ∧ σ 382 i ≤ 3) ∧ (∀ i, 0 ≤ i → i < 5 → 0 ≤ σ 383 i ∧ σ 383 i ≤ 100) ∧
  (∀ i, 0 ≤ i → i < 500 → σ 385 i = 0 ∨ σ 385 i = 1) ∧ (∀ i, 0 ≤ i → i < 1000 → 0 ≤ σ 386 i ∧ σ 386 i ≤ 255) ∧ (0 ≤ σ 373 14 ∧ σ 373 14 ≤ 1000)
section Wf
variable {σ : St}
theorem WfM.col (W : WfM σ) {h t : Int} (h1 : 0 ≤ h) (h2 : h ≤ 4) (t1 : 0 ≤ t) (t2 : t ≤ 25) : 0 ≤ σ 374 (26 * h + t) ∧ σ 374 (26 * h + t) ≤ 3 := W.1 _ (by omega) (by omega)
theorem WfM.rm (W : WfM σ) {h : Int} (h1 : 0 ≤ h) (h2 : h ≤ 4) : 0 ≤ σ 375 h ∧ σ 375 h ≤ 10 := W.2.1 _ (by omega) (by omega)
theorem WfM.rul (W : WfM σ) {h r : Int} (h1 : 0 ≤ h) (h2 : h ≤ 4) (r1 : 0 ≤ r) (r2 : r ≤ 9) : (0 ≤ σ 376 (30 * (10 * h + r)) ∧ σ 376 (30 * (10 * h + r)) ≤ 3) ∧ (0 ≤ σ 376 (30 * (10 * h + r) + 1) ∧ σ 376 (30 * (10 * h + r) + 1) ≤ 2) ∧ (0 ≤ σ 376 (30 * (10 * h + r) + 2) ∧ σ 376 (30 * (10 * h + r) + 2) ≤ 3) ∧ isPl (σ 376 (30 * (10 * h + r) + 27)) ∧ isPl (σ 376 (30 * (10 * h + r) + 28)) := by
  obtain ⟨a, b, c, e, f, -⟩ := W.2.2.1 (10 * h + r) (by omega) (by omega)
  exact ⟨a, b, c, e, f⟩
theorem WfM.ato (W : WfM σ) {h r s i : Int} (h1 : 0 ≤ h) (h2 : h ≤ 4) (r1 : 0 ≤ r) (r2 : r ≤ 9) (s1 : 0 ≤ s) (s2 : s ≤ 1) (i1 : 0 ≤ i) (i2 : i ≤ 2) : (0 ≤ σ 376 (30 * (10 * h + r) + (3 + 4 * (3 * s + i))) ∧ σ 376 (30 * (10 * h + r) + (3 + 4 * (3 * s + i))) ≤ 25) ∧ isPl (σ 376 (30 * (10 * h + r) + (3 + 4 * (3 * s + i) + 1))) ∧ isPl (σ 376 (30 * (10 * h + r) + (3 + 4 * (3 * s + i) + 2))) ∧ isPl (σ 376 (30 * (10 * h + r) + (3 + 4 * (3 * s + i) + 3))) := (W.2.2.1 (10 * h + r) (by omega) (by omega)).2.2.2.2.2 (3 * s + i) (by omega) (by omega)
theorem WfM.thr (W : WfM σ) {h n : Int} (h1 : 0 ≤ h) (h2 : h ≤ 4) (n1 : 0 ≤ n) (n2 : n ≤ 199) : σ 377 (200 * h + n) = 0 ∨ σ 377 (200 * h + n) = 1 := W.2.2.2.1 _ (by omega) (by omega)
theorem WfM.tab (W : WfM σ) {h n : Int} (h1 : 0 ≤ h) (h2 : h ≤ 4) (n1 : 0 ≤ n) (n2 : n ≤ 199) : 0 ≤ σ 378 (200 * h + n) ∧ σ 378 (200 * h + n) ≤ 25 := W.2.2.2.2.1 _ (by omega) (by omega)
theorem WfM.ter (W : WfM σ) {h n c : Int} (h1 : 0 ≤ h) (h2 : h ≤ 4) (n1 : 0 ≤ n) (n2 : n ≤ 199) (c1 : 0 ≤ c) (c2 : c ≤ 2) : isTm (σ 379 (3 * (200 * h + n) + c)) := W.2.2.2.2.2.1 _ (by omega) (by omega)
theorem WfM.by_ (W : WfM σ) {h n : Int} (h1 : 0 ≤ h) (h2 : h ≤ 4) (n1 : 0 ≤ n) (n2 : n ≤ 199) : -1 ≤ σ 380 (200 * h + n) ∧ σ 380 (200 * h + n) ≤ 100 := W.2.2.2.2.2.2.1 _ (by omega) (by omega)
theorem WfM.nxt (W : WfM σ) {h : Int} (h1 : 0 ≤ h) (h2 : h ≤ 4) : 0 ≤ σ 381 h ∧ σ 381 h ≤ 200 := W.2.2.2.2.2.2.2.1 _ (by omega) (by omega)
theorem WfM.sta (W : WfM σ) {h : Int} (h1 : 0 ≤ h) (h2 : h ≤ 4) : 0 ≤ σ 382 h ∧ σ 382 h ≤ 3 := W.2.2.2.2.2.2.2.2.1 _ (by omega) (by omega)
theorem WfM.stp (W : WfM σ) {h : Int} (h1 : 0 ≤ h) (h2 : h ≤ 4) : 0 ≤ σ 383 h ∧ σ 383 h ≤ 100 := W.2.2.2.2.2.2.2.2.2.1 _ (by omega) (by omega)
theorem WfM.nam (W : WfM σ) {h k : Int} (h1 : 0 ≤ h) (h2 : h ≤ 4) (n1 : 0 ≤ k) (n2 : k ≤ 99) : σ 385 (100 * h + k) = 0 ∨ σ 385 (100 * h + k) = 1 := W.2.2.2.2.2.2.2.2.2.2.1 _ (by omega) (by omega)
theorem WfM.tap (W : WfM σ) {k : Int} (n1 : 0 ≤ k) (n2 : k ≤ 999) : 0 ≤ σ 386 k ∧ σ 386 k ≤ 255 := W.2.2.2.2.2.2.2.2.2.2.2.1 _ (by omega) (by omega)
theorem WfM.tpd (W : WfM σ) : 0 ≤ σ 373 14 ∧ σ 373 14 ≤ 1000 := W.2.2.2.2.2.2.2.2.2.2.2.2
theorem isTm_in {t : Int} (h : isTm t) : 0 ≤ t ∧ t ≤ 1099 := by unfold isTm at h; omega
theorem isPl_in {t : Int} (h : isPl t) : 0 ≤ t ∧ t ≤ 2025 := by unfold isPl at h; omega
end Wf
