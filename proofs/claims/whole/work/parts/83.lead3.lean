/-! leads of the class: the search -/
def tgF (wo : Int) : List Rw → Int → List Rw
  | [], _ => []
  | w :: l, p => if p = wo then tgF wo l (p + 1) else w :: tgF wo l (p + 1)
def tgC (wo : Int) (σ : St) (r : Nat) (p : Int) : List Rw := tgF wo (rcF σ r (σ r 0 - p).toNat p) p
theorem tg_none {C1 C2 : Int → Int} {T S : List Rw} {w : Rw} {β : Bd} {im : List Int} {fs : List Fl} {k : Nat} {wo t : Int} (ht : w.2.1 = t) : ∀ (l : List Rw) (p : Int), 0 ≤ p → nxF t wo l p = -1 → contF C1 C2 T ((w, β, tgF wo l p, S, im) :: fs) k = contF C1 C2 T fs k := by
  intro l
  induction l with
  | nil => intro p _ _; rw [tgF]; exact cont_pop
  | cons v l ih =>
    intro p p0 h
    rw [nxF] at h
    rw [tgF]
    split at h
    · omega
    · rename_i hn
      split
      · exact ih (p + 1) (by omega) h
      · rename_i hp
        rw [cont_skip (fun z => hn ⟨hp, by rw [z]; exact ht⟩)]
        exact ih (p + 1) (by omega) h
theorem tg_some {σ : St} {r : Nat} {C1 C2 : Int → Int} {T S : List Rw} {w : Rw} {β : Bd} {im : List Int} {fs : List Fl} {k : Nat} {wo t : Int} (ht : w.2.1 = t) : ∀ (m : Nat) (p p' : Int), 0 ≤ p → nxF t wo (rcF σ r m p) p = p' → p' ≠ -1 → p ≤ p' ∧ p' < p + m ∧ p' ≠ wo ∧ (rwC σ r p').2.1 = t ∧ contF C1 C2 T ((w, β, tgF wo (rcF σ r m p) p, S, im) :: fs) k = contF C1 C2 T ((w, β, rwC σ r p' :: tgF wo (rcF σ r (p + m - (p' + 1)).toNat (p' + 1)) (p' + 1), S, im) :: fs) k := by
  intro m
  induction m with
  | zero => intro p p' _ h hp; exact absurd h.symm hp
  | succ m ih =>
    intro p p' p0 h hp
    rw [rcF, nxF] at h
    rw [rcF, tgF]
    split at h
    · rename_i hc
      subst h
      rw [if_neg hc.1]
      refine ⟨Int.le_refl _, by omega, hc.1, hc.2, ?_⟩
      rw [show (p + ((m + 1 : Nat) : Int) - (p + 1)).toNat = m by omega]
    · rename_i hn
      obtain ⟨a1, a2, a3, a4, a5⟩ := ih (p + 1) p' (by omega) h hp
      refine ⟨by omega, by omega, a3, a4, ?_⟩
      rw [show p + 1 + (m : Int) - (p' + 1) = p + ((m + 1 : Nat) : Int) - (p' + 1) by omega] at a5
      split
      · exact a5
      · rename_i hpw
        rw [cont_skip (fun z => hn ⟨hpw, by rw [z]; exact ht⟩)]
        exact a5
/-- levels of a search for a lead -/
def LvL (e : Nat) (C1 C2 : Int → Int) (L1 : List Rw) (r2 : Nat) (wo : Int) (σ : St) : Nat → List Fl → Prop
  | _, [] => True
  | N, (w, β, q, S, im) :: fs => L1[fs.length]? = some w ∧ S = L1.drop (fs.length + 1) ∧ -1 ≤ σ (e + 3) fs.length ∧ σ (e + 3) fs.length < σ r2 0 ∧ q = (if C2 w.2.1 = C1 w.2.1 then tgC wo σ r2 (σ (e + 3) fs.length + 1) else []) ∧ im.length = fs.length ∧ (∀ (i : Nat) (m : Int), im[i]? = some m → 0 ≤ σ (e + 3) i ∧ σ (e + 3) i < σ r2 0 ∧ (rwC σ r2 (σ (e + 3) i)).1 = m) ∧ ∃ k : Nat, k ≤ N ∧ σ (e + 4) fs.length = (k : Int) ∧ bL e σ k = β ∧ LvL e C1 C2 L1 r2 wo σ k fs
theorem LvL.mono {e : Nat} {C1 C2 : Int → Int} {L1 : List Rw} {r2 : Nat} {wo : Int} {σ τ : St} (hr : ∀ c, r2 ≤ c → c ≤ r2 + 3 → τ c = σ c) : ∀ (fs : List Fl) (N N' : Nat), LvL e C1 C2 L1 r2 wo σ N fs → N ≤ N' → (∀ k, k ≤ N → bL e τ k = bL e σ k) → (∀ j : Nat, j < fs.length → τ (e + 3) j = σ (e + 3) j ∧ τ (e + 4) j = σ (e + 4) j) → LvL e C1 C2 L1 r2 wo τ N' fs := by
  have ew : ∀ p, rwC τ r2 p = rwC σ r2 p := fun p => by unfold rwC; rw [hr (r2 + 1) (by omega) (by omega), hr (r2 + 2) (by omega) (by omega), hr (r2 + 3) (by omega) (by omega)]
  have et : ∀ p, tgC wo τ r2 p = tgC wo σ r2 p := fun p => by
    unfold tgC
    rw [hr r2 (by omega) (by omega), rcF_ext (σ := σ) (τ := τ) (r := r2) (r' := r2) _ _ (fun i _ _ => ew i)]
  intro fs
  induction fs with
  | nil => intro N N' _ _ _ _; trivial
  | cons f fs ih =>
    intro N N' H hN hb hc
    obtain ⟨w, β, q, S, im⟩ := f
    obtain ⟨h1, h2, h3, h4, h5, h6, h7, k, k1, k2, k3, k4⟩ := H
    have c0 := hc fs.length (by rw [List.length_cons]; omega)
    refine ⟨h1, h2, by rw [c0.1]; exact h3, by rw [c0.1, hr r2 (by omega) (by omega)]; exact h4, by rw [c0.1, et]; exact h5, h6, fun i m hi => ?_, k, by omega, by rw [c0.2]; exact k2, by rw [hb k k1]; exact k3, ih k k k4 (Nat.le_refl _) (fun i hi => hb i (by omega)) (fun j hj => hc j (by rw [List.length_cons]; omega))⟩
    have hi1 := (List.getElem?_eq_some_iff.mp hi).1
    rw [(hc i (by rw [List.length_cons]; omega)).1, ew, hr r2 (by omega) (by omega)]
    exact h7 i m hi
/-- only the lead changes -/
def FlG (e : Nat) (σ τ : St) : Prop := (∀ c, c < e ∨ e + 4 < c → τ c = σ c) ∧ ∀ j, j ≠ 2 → τ e j = σ e j
theorem FlG.refl {e : Nat} {σ : St} : FlG e σ σ := ⟨fun _ _ => rfl, fun _ _ => rfl⟩
theorem FlG.trans {e : Nat} {σ τ ρ : St} (h1 : FlG e σ τ) (h2 : FlG e τ ρ) : FlG e σ ρ := ⟨fun c a => (h2.1 c a).trans (h1.1 c a), fun j a => (h2.2 j a).trans (h1.2 j a)⟩
theorem FlF.g {e : Nat} {σ τ : St} (h : FlF e σ τ) : FlG e σ τ := ⟨fun c a => h.1 c (by omega) (by omega) (by omega), h.2⟩
theorem FlG.su3 {e : Nat} {σ : St} {i x : Int} : FlG e σ (su σ (e + 3) i x) := ⟨fun c a => su_ne (by omega), fun j _ => by rw [su_ne (by omega)]⟩
theorem FlG.su4 {e : Nat} {σ : St} {i x : Int} : FlG e σ (su σ (e + 4) i x) := ⟨fun c a => su_ne (by omega), fun j _ => by rw [su_ne (by omega)]⟩
theorem TrL.c {e n : Nat} {σ τ : St} (T : TrL e σ n) (h1 : τ e 2 = σ e 2) (h2 : τ (e + 1) = σ (e + 1)) (h3 : τ (e + 2) = σ (e + 2)) : TrL e τ n := by
  unfold TrL
  rw [h1, h2, h3]
  exact T
theorem bL_c {e : Nat} {σ τ : St} (h2 : τ (e + 1) = σ (e + 1)) (h3 : τ (e + 2) = σ (e + 2)) (k : Nat) : bL e τ k = bL e σ k := by
  unfold bL
  rw [h2, h3]
