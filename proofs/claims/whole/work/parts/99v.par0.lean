/-! reading goes on: tokens behind tokens -/
def nxM (n : Int) (nx : Int → Ps) : Prop := ∀ p, 0 ≤ p → p ≤ n → p ≤ (nx p).2.1 ∧ (nx p).2.1 ≤ (nx p).2.2 ∧ (nx p).2.2 ≤ n ∧ ((nx p).1 ≠ 0 → (nx p).2.1 < (nx p).2.2)
def tkP (n : Int) (s : Ps) : Prop := 0 ≤ s.2.1 ∧ s.2.1 ≤ s.2.2 ∧ s.2.2 ≤ n ∧ (s.1 ≠ 0 → s.2.1 < s.2.2)
section M0
variable {n : Int} {nx : Int → Ps}
theorem nx_m (hn : nxM n nx) {s : Ps} (h : tkP n s) : tkP n (nx s.2.2) ∧ s.2.1 ≤ (nx s.2.2).2.1 ∧ s.2.2 ≤ (nx s.2.2).2.1 := by
  have h1 := h.1
  have h2 := h.2.1
  have h3 := h.2.2.1
  have e := hn s.2.2 (by omega) h3
  exact ⟨⟨by omega, e.2.1, e.2.2.1, e.2.2.2⟩, by omega, e.1⟩
theorem need_m (hn : nxM n nx) {c : Int} {s s' : Ps} (h : tkP n s) (e : needP nx c s = .inr s') : tkP n s' ∧ s.2.1 ≤ s'.2.1 := by
  unfold needP at e
  split at e
  · cases e
    exact ⟨(nx_m hn h).1, (nx_m hn h).2.1⟩
  · cases e
theorem and_i {α β : Type} {x : Fa ⊕ α} {f : α → Fa ⊕ β} {b : β} (e : andP x f = .inr b) : ∃ a, x = .inr a ∧ f a = .inr b := by
  cases x with
  | inl z => cases e
  | inr a => exact ⟨a, rfl, e⟩
theorem cells_m (hn : nxM n nx) {m : Int} {row : Bool} : ∀ (f : Nat) (k : Int) (acc : List Int) (s : Ps) (q : List Int × Ps), tkP n s → cellsP nx m row f k acc s = .inr q → tkP n q.2 ∧ s.2.1 ≤ q.2.2.1 := by
  intro f
  induction f with
  | zero => intro k acc s q _ e; cases e
  | succ f ih =>
    intro k acc s q h e
    rw [cellsP] at e
    have cE : ∀ (k : Int) (acc : List Int) (s1 : Ps), tkP n s1 → s.2.1 ≤ s1.2.1 → cellE nx m k acc s1 (cellsP nx m row f k acc) = .inr q → tkP n q.2 ∧ s.2.1 ≤ q.2.2.1 := by
      intro k acc s1 h1 h2 e1
      unfold cellE at e1
      split at e1
      · have a := nx_m hn h1
        have b := ih _ _ _ _ a.1 e1
        exact ⟨b.1, by omega⟩
      · split at e1
        · split at e1
          · cases e1
          · cases e1
            have a := nx_m hn h1
            exact ⟨a.1, by show s.2.1 ≤ (nx s1.2.2).2.1; omega⟩
        · cases e1
    have a := nx_m hn h
    have b := nx_m hn a.1
    by_cases c1 : isNm s ∨ (if row = true then s.1 = 563 else isVr s)
    · rw [if_pos c1] at e
      by_cases c2 : k = m
      · rw [if_pos c2] at e
        cases e
      · rw [if_neg c2] at e
        by_cases c3 : s.1 = 563
        · rw [if_pos c3] at e
          by_cases c4 : isNm (nx s.2.2)
          · rw [if_pos c4] at e
            exact cE _ _ _ b.1 (by omega) e
          · rw [if_neg c4] at e
            cases e
        · rw [if_neg c3] at e
          exact cE _ _ _ a.1 (by omega) e
    · rw [if_neg c1] at e
      cases e
theorem sev_m (hn : nxM n nx) {m : Int} {row : Bool} {s : Ps} {q : List Int × Ps} (h : tkP n s) (e : sevP nx m row s = .inr q) : tkP n q.2 ∧ s.2.1 ≤ q.2.2.1 := by
  unfold sevP at e
  obtain ⟨s1, e1, e2⟩ := and_i e
  have a := need_m hn h e1
  have b := cells_m hn _ _ _ _ _ a.1 e2
  exact ⟨b.1, by omega⟩
theorem atm_m (hn : nxM n nx) {C : Int → Int} {most : Int} : ∀ (f : Nat) (k : Int) (acc : List At) (s : Ps) (q : List At × Ps), tkP n s → atmP nx C most f k acc s = .inr q → tkP n q.2 ∧ s.2.1 ≤ q.2.2.1 := by
  intro f
  induction f with
  | zero => intro k acc s q _ e; cases e
  | succ f ih =>
    intro k acc s q h e
    rw [atmP] at e
    obtain ⟨t, _, e2⟩ := and_i e
    split at e2
    · cases e2
    · obtain ⟨r, e3, e4⟩ := and_i e2
      have a := nx_m hn h
      have b := sev_m hn a.1 e3
      split at e4
      · have c := nx_m hn b.1
        have g := ih _ _ _ _ c.1 e4
        exact ⟨g.1, by omega⟩
      · cases e4
        exact ⟨b.1, by show s.2.1 ≤ r.2.2.1; omega⟩
theorem side_m (hn : nxM n nx) {as : List At} {s : Ps} {q : Int × Ps} (h : tkP n s) (e : sideP nx as s = .inr q) : tkP n q.2 ∧ s.2.1 ≤ q.2.2.1 := by
  have a := nx_m hn h
  unfold sideP at e
  split at e
  · cases e
    exact ⟨a.1, a.2.1⟩
  · split at e
    · split at e
      · cases e
        exact ⟨a.1, a.2.1⟩
      · cases e
    · cases e
theorem rul_m (hn : nxM n nx) {C : Int → Int} {s : Ps} {q : Ru × Ps} (h : tkP n s) (e : rulP nx C s = .inr q) : tkP n q.2 ∧ s.2.1 ≤ q.2.2.1 := by
  unfold rulP at e
  obtain ⟨r, e1, e2⟩ := and_i e
  have a := atm_m hn _ _ _ _ _ h e1
  have b := nx_m hn a.1
  split at e2
  · split at e2
    · obtain ⟨s2, e3, e4⟩ := and_i e2
      have c := nx_m hn b.1
      have g := need_m hn c.1 e3
      cases e4
      exact ⟨g.1, by show s.2.1 ≤ s2.2.1; omega⟩
    · split at e2
      · obtain ⟨r2, e3, e4⟩ := and_i e2
        obtain ⟨s2, e5, e6⟩ := and_i e4
        have c := atm_m hn _ _ _ _ _ b.1 e3
        have g := need_m hn c.1 e5
        cases e6
        exact ⟨g.1, by show s.2.1 ≤ s2.2.1; omega⟩
      · obtain ⟨l, e3, e4⟩ := and_i e2
        obtain ⟨s2, e5, e6⟩ := and_i e4
        obtain ⟨l2, e7, e8⟩ := and_i e6
        obtain ⟨s3, e9, e10⟩ := and_i e8
        have c := side_m hn b.1 e3
        have g := need_m hn c.1 e5
        have i := side_m hn g.1 e7
        have j := need_m hn i.1 e9
        cases e10
        exact ⟨j.1, by show s.2.1 ≤ s3.2.1; omega⟩
  · cases e2
theorem tbl_m (hn : nxM n nx) {T : Tx} {s : Ps} {q : Tx × Ps} (h : tkP n s) (e : tblP nx T s = .inr q) : tkP n q.2 ∧ s.2.1 ≤ q.2.2.1 := by
  unfold tblP at e
  have a := nx_m hn h
  split at e
  · split at e
    · cases e
    · split at e
      · cases e
      · split at e
        · split at e
          · obtain ⟨s2, e5, e6⟩ := and_i e
            have b := nx_m hn a.1
            have c := need_m hn b.1 e5
            cases e6
            exact ⟨c.1, by show s.2.1 ≤ s2.2.1; omega⟩
          · cases e
        · cases e
  · cases e
theorem row_m (hn : nxM n nx) {T : Tx} {s : Ps} {q : Tx × Ps} (h : tkP n s) (e : rowP nx T s = .inr q) : tkP n q.2 ∧ s.2.1 ≤ q.2.2.1 := by
  unfold rowP at e
  obtain ⟨t, _, e1⟩ := and_i e
  obtain ⟨r, e2, e3⟩ := and_i e1
  have a := nx_m hn h
  have b := sev_m hn a.1 e2
  split at e3
  · split at e3
    · cases e3
    · obtain ⟨s2, e5, e6⟩ := and_i e3
      have c := need_m hn b.1 e5
      cases e6
      exact ⟨c.1, by show s.2.1 ≤ s2.2.1; omega⟩
  · obtain ⟨s2, e5, e6⟩ := and_i e3
    have c := need_m hn b.1 e5
    cases e6
    exact ⟨c.1, by show s.2.1 ≤ s2.2.1; omega⟩
end M0
theorem nxM_T {f : Int → Int} {n : Int} : nxM n (nxT f n) := fun p p0 p1 => by
  have e := tok_e (f := f) p0 p1
  exact ⟨e.1, e.2.2.1, e.2.2.2.1, e.2.2.2.2.2⟩
/-- one piece of a text -/
def pieP (nx : Int → Ps) (T : Tx) (s : Ps) : Fa ⊕ (Tx × Ps) := if s.1 = 2 then tblP nx T (nx s.2.2) else if s.1 = 3 then rowP nx T (nx s.2.2)
      else if s.1 = 4 then (if T.2.1.length = 10 then .inl (4, s.2.1) else andP (rulP nx T.1 (nx s.2.2)) fun q => .inr ((T.1, T.2.1 ++ [q.1], T.2.2), q.2))
      else .inl (1, s.2.1)
theorem txt_pie {nx : Int → Ps} {f : Nat} {T : Tx} {s : Ps} : txtP nx (f + 1) T s = if s.1 = 0 then .inr T else andP (pieP nx T s) fun q => txtP nx f q.1 q.2 := by
  rw [txtP]
  rfl
theorem pie_m {n : Int} {nx : Int → Ps} (hn : nxM n nx) {T : Tx} {s : Ps} {q : Tx × Ps} (h : tkP n s) (h0 : s.1 ≠ 0) (e : pieP nx T s = .inr q) : tkP n q.2 ∧ s.2.1 < q.2.2.1 := by
  have a := nx_m hn h
  have hs := h.2.2.2 h0
  unfold pieP at e
  split at e
  · have b := tbl_m hn a.1 e
    exact ⟨b.1, by omega⟩
  · split at e
    · have b := row_m hn a.1 e
      exact ⟨b.1, by omega⟩
    · split at e
      · split at e
        · cases e
        · obtain ⟨r, e5, e6⟩ := and_i e
          have c := rul_m hn a.1 e5
          cases e6
          exact ⟨c.1, by show s.2.1 < r.2.2.1; omega⟩
      · cases e
