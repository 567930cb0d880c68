/-! faults are from 1 to 5 -/
def fl5 {α : Type} (x : Fa ⊕ α) : Prop := ∀ e, x = .inl e → 1 ≤ e.1 ∧ e.1 ≤ 5
theorem fl_r {α : Type} {a : α} : fl5 (.inr a : Fa ⊕ α) := fun e h => by cases h
theorem fl_k {α : Type} {k p : Int} (h : 1 ≤ k ∧ k ≤ 5) : fl5 (.inl (k, p) : Fa ⊕ α) := fun e he => by
  have : (k, p) = e := Sum.inl.inj he
  rw [← this]
  exact h
theorem fl_if {α : Type} {c : Prop} [Decidable c] {a b : Fa ⊕ α} (h1 : fl5 a) (h2 : fl5 b) : fl5 (if c then a else b) := by
  split
  · exact h1
  · exact h2
theorem fl_and {α β : Type} {x : Fa ⊕ α} {f : α → Fa ⊕ β} (h1 : fl5 x) (h2 : ∀ a, fl5 (f a)) : fl5 (andP x f) := by
  cases x with
  | inl e => intro e' he; exact h1 e' (by have : e = e' := Sum.inl.inj he; rw [this])
  | inr a => exact h2 a
section F5
variable {nx : Int → Ps}
theorem fl_need {c : Int} {s : Ps} : fl5 (needP nx c s) := by
  unfold needP
  exact fl_if fl_r (fl_k (by decide))
theorem fl_cellE {m n : Int} {acc : List Int} {s : Ps} {go : Ps → Fa ⊕ (List Int × Ps)} (h : ∀ s, fl5 (go s)) : fl5 (cellE nx m n acc s go) := by
  unfold cellE
  exact fl_if (h _) (fl_if (fl_if (fl_k (by decide)) fl_r) (fl_k (by decide)))
theorem fl_cells {m : Int} {row : Bool} : ∀ (k : Nat) (n : Int) (acc : List Int) (s : Ps), fl5 (cellsP nx m row k n acc s) := by
  intro k
  induction k with
  | zero => intro n acc s; rw [cellsP]; exact fl_k (by decide)
  | succ k ih =>
    intro n acc s
    rw [cellsP]
    exact fl_if (fl_if (fl_k (by decide)) (fl_if (fl_if (fl_cellE (ih _ _)) (fl_k (by decide))) (fl_cellE (ih _ _)))) (fl_k (by decide))
theorem fl_sev {m : Int} {row : Bool} {s : Ps} : fl5 (sevP nx m row s) := by
  unfold sevP
  exact fl_and fl_need (fun a => fl_cells _ _ _ _)
theorem fl_tab {C : Int → Int} {s : Ps} : fl5 (tabP C s) := by
  unfold tabP
  exact fl_if (fl_if fl_r (fl_k (by decide))) (fl_k (by decide))
theorem fl_atm {C : Int → Int} {most : Int} : ∀ (k : Nat) (n : Int) (acc : List At) (s : Ps), fl5 (atmP nx C most k n acc s) := by
  intro k
  induction k with
  | zero => intro n acc s; rw [atmP]; exact fl_k (by decide)
  | succ k ih =>
    intro n acc s
    rw [atmP]
    exact fl_and fl_tab (fun t => fl_if (fl_k (by decide)) (fl_and fl_sev (fun q => fl_if (ih _ _ _) fl_r)))
theorem fl_side {as : List At} {s : Ps} : fl5 (sideP nx as s) := by
  unfold sideP
  exact fl_if fl_r (fl_if (fl_if fl_r (fl_k (by decide))) (fl_k (by decide)))
theorem fl_rul {C : Int → Int} {s : Ps} : fl5 (rulP nx C s) := by
  unfold rulP
  exact fl_and (fl_atm _ _ _ _) (fun q => fl_if (fl_if (fl_and fl_need (fun _ => fl_r)) (fl_if (fl_and (fl_atm _ _ _ _) (fun _ => fl_and fl_need (fun _ => fl_r))) (fl_and fl_side (fun _ => fl_and fl_need (fun _ => fl_and fl_side (fun _ => fl_and fl_need (fun _ => fl_r))))))) (fl_k (by decide)))
theorem fl_tbl {T : Tx} {s : Ps} : fl5 (tblP nx T s) := by
  unfold tblP
  exact fl_if (fl_if (fl_k (by decide)) (fl_if (fl_k (by decide)) (fl_if (fl_if (fl_and fl_need (fun _ => fl_r)) (fl_k (by decide))) (fl_k (by decide))))) (fl_k (by decide))
theorem fl_row {T : Tx} {s : Ps} : fl5 (rowP nx T s) := by
  unfold rowP
  exact fl_and fl_tab (fun _ => fl_and fl_sev (fun _ => fl_if (fl_if (fl_k (by decide)) (fl_and fl_need (fun _ => fl_r))) (fl_and fl_need (fun _ => fl_r))))
theorem fl_txt : ∀ (k : Nat) (T : Tx) (s : Ps), fl5 (txtP nx k T s) := by
  intro k
  induction k with
  | zero => intro T s; rw [txtP]; exact fl_r
  | succ k ih =>
    intro T s
    rw [txtP]
    exact fl_if fl_r (fl_and (fl_if fl_tbl (fl_if fl_row (fl_if (fl_if (fl_k (by decide)) (fl_and fl_rul (fun _ => fl_r))) (fl_k (by decide))))) (fun q => ih _ _))
theorem fl_ask {as : List At} : ∀ (k : Nat) (n : Int) (acc : List Int) (s : Ps), fl5 (askP nx as k n acc s) := by
  intro k
  induction k with
  | zero => intro n acc s; rw [askP]; exact fl_k (by decide)
  | succ k ih =>
    intro n acc s
    rw [askP]
    exact fl_if (fl_if (fl_k (by decide)) (fl_if (fl_if (ih _ _ _) fl_r) (fl_k (by decide)))) (fl_k (by decide))
theorem fl_qst {C : Int → Int} {s : Ps} : fl5 (qstP nx C s) := by
  unfold qstP
  exact fl_and (fl_atm _ _ _ _) (fun _ => fl_if (fl_and (fl_ask _ _ _ _) (fun _ => fl_and fl_need (fun _ => fl_if fl_r (fl_k (by decide))))) (fl_k (by decide)))
theorem fl_tld {C : Int → Int} {s : Ps} : fl5 (tldP nx C s) := by
  unfold tldP
  exact fl_if (fl_and fl_rul (fun _ => fl_if fl_r (fl_k (by decide)))) (fl_k (by decide))
end F5
