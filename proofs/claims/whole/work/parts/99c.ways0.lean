/-! ways, as functions of lists -/
abbrev Wy : Type := (Int → Int) × Bool × Bool
def raiF (b v : Int) (s : Wy) : Wy := if v ≤ s.1 b then s else (bup s.1 b v, true, s.2.2 || decide (18 ≤ v))
def fwC (r : Ru) (v k : Int) (b : At) (s : Wy) (c : Nat) : Wy := if plN b c = v then raiF (3 * b.1 + c) k s else if 2000 ≤ plN b c ∧ mentL r.2.1 (plN b c) = false then raiF (3 * b.1 + c) (k + 1) s else s
def fwA (r : Ru) (v k : Int) (s : Wy) (b : At) : Wy := [0, 1, 2].foldl (fwC r v k b) s
def fwF (r : Ru) (v k : Int) (s : Wy) : Wy := r.2.2.1.foldl (fwA r v k) s
def frC (r : Ru) (a : At) (s : Wy) (c : Nat) : Wy := if 2000 ≤ plN a c ∧ mentL r.2.2.1 (plN a c) = true then fwF r (plN a c) (s.1 (3 * a.1 + c)) s else s
def frA (r : Ru) (s : Wy) (a : At) : Wy := [0, 1, 2].foldl (frC r a) s
def frRu (r : Ru) (s : Wy) : Wy := r.2.1.foldl (frA r) s
def rnG (s : Wy) (r : Ru) : Wy := if r.1 = 0 then frRu r s else s
def rnF (rs : List Ru) (s : Wy) : Wy := rs.foldl rnG s
def msF (rs : List Ru) : Nat → Wy → Wy
  | 0, s => s
  | n + 1, s => if s.2.1 = true ∧ s.2.2 = false then msF rs n (rnF rs (s.1, false, false)) else s
/-- nothing raised: nothing changed -/
theorem fold_q {α : Type} {f : Wy → α → Wy} : ∀ (L : List α) (s : Wy), (∀ x ∈ L, ∀ s, (f s x).2.1 = false → f s x = s) → (L.foldl f s).2.1 = false → L.foldl f s = s ∧ ∀ x ∈ L, f s x = s := by
  intro L
  induction L with
  | nil => intro s _ _; exact ⟨rfl, fun x hx => by cases hx⟩
  | cons y L ih =>
    intro s H h
    rw [List.foldl_cons] at h ⊢
    obtain ⟨a, b⟩ := ih (f s y) (fun x hx => H x (List.mem_cons_of_mem _ hx)) h
    rw [a] at h
    have c := H y List.mem_cons_self s h
    rw [a, c]
    refine ⟨rfl, fun x hx => ?_⟩
    rcases List.mem_cons.mp hx with rfl | hx
    · exact c
    · have := b x hx
      rw [c] at this
      exact this
theorem rai_q {b v : Int} {s : Wy} (h : (raiF b v s).2.1 = false) : raiF b v s = s ∧ v ≤ s.1 b := by
  unfold raiF at h ⊢
  split at h
  · rename_i c
    rw [if_pos c]
    exact ⟨rfl, c⟩
  · cases h
theorem fwC_q {r : Ru} {v k : Int} {b : At} {c : Nat} {s : Wy} (h : (fwC r v k b s c).2.1 = false) : fwC r v k b s c = s := by
  unfold fwC at h ⊢
  split at h
  · rename_i e
    rw [if_pos e]
    exact (rai_q h).1
  · rename_i e
    rw [if_neg e]
    split at h
    · rename_i e2
      rw [if_pos e2]
      exact (rai_q h).1
    · rename_i e2
      rw [if_neg e2]
theorem fwA_q {r : Ru} {v k : Int} {b : At} {s : Wy} (h : (fwA r v k s b).2.1 = false) : fwA r v k s b = s ∧ ∀ c, c < 3 → fwC r v k b s c = s := by
  obtain ⟨x, y⟩ := fold_q [0, 1, 2] s (fun c _ s h => fwC_q h) h
  exact ⟨x, fun c hc => y c (by rcases (show c = 0 ∨ c = 1 ∨ c = 2 by omega) with rfl | rfl | rfl <;> simp)⟩
theorem fwF_q {r : Ru} {v k : Int} {s : Wy} (h : (fwF r v k s).2.1 = false) : fwF r v k s = s ∧ ∀ b ∈ r.2.2.1, fwA r v k s b = s := fold_q _ s (fun b _ s h => (fwA_q h).1) h
theorem frC_q {r : Ru} {a : At} {c : Nat} {s : Wy} (h : (frC r a s c).2.1 = false) : frC r a s c = s := by
  unfold frC at h ⊢
  split at h
  · rename_i e
    rw [if_pos e]
    exact (fwF_q h).1
  · rename_i e
    rw [if_neg e]
theorem frA_q {r : Ru} {a : At} {s : Wy} (h : (frA r s a).2.1 = false) : frA r s a = s ∧ ∀ c, c < 3 → frC r a s c = s := by
  obtain ⟨x, y⟩ := fold_q [0, 1, 2] s (fun c _ s h => frC_q h) h
  exact ⟨x, fun c hc => y c (by rcases (show c = 0 ∨ c = 1 ∨ c = 2 by omega) with rfl | rfl | rfl <;> simp)⟩
theorem frRu_q {r : Ru} {s : Wy} (h : (frRu r s).2.1 = false) : frRu r s = s ∧ ∀ a ∈ r.2.1, frA r s a = s := fold_q _ s (fun b _ s h => (frA_q h).1) h
theorem rnG_q {r : Ru} {s : Wy} (h : (rnG s r).2.1 = false) : rnG s r = s := by
  unfold rnG at h ⊢
  split at h
  · rename_i e
    rw [if_pos e]
    exact (frRu_q h).1
  · rename_i e
    rw [if_neg e]
/-- a round that raised nothing: closed -/
theorem rn_clo {rs : List Ru} {s : Wy} (h : (rnF rs s).2.1 = false) : rnF rs s = s ∧ Clo (EgR rs) s.1 := by
  obtain ⟨x, y⟩ := fold_q rs s (fun r _ s h => rnG_q h) h
  refine ⟨x, ?_⟩
  have hs : s.2.1 = false := by
    have : rnF rs s = s := x
    rw [this] at h
    exact h
  rintro p q k ⟨r, hr, h0, a, ha, c, hc, rfl, hv, hm, b, hb, e, he, rfl, hk⟩
  have y1 := y r hr
  unfold rnG at y1
  rw [if_pos h0] at y1
  have y2 := (frRu_q (by rw [y1]; exact hs)).2 a ha
  have y3 := (frA_q (by rw [y2]; exact hs)).2 c hc
  unfold frC at y3
  rw [if_pos ⟨hv, hm⟩] at y3
  have y4 := (fwF_q (by rw [y3]; exact hs)).2 b hb
  have y5 := (fwA_q (by rw [y4]; exact hs)).2 e he
  have y6 := y5
  unfold fwC at y6
  rcases hk with ⟨k1, rfl⟩ | ⟨k1, k2, rfl⟩
  · rw [if_pos k1] at y6
    have := (rai_q (by rw [y6]; exact hs)).2
    omega
  · by_cases k3 : plN b e = plN a c
    · rw [k3] at k2
      exfalso
      have : mentL r.2.1 (plN a c) = true := by
        unfold mentL
        rw [List.any_eq_true]
        refine ⟨a, ha, ?_⟩
        rw [decide_eq_true_eq]
        unfold plN
        split
        · exact Or.inl rfl
        · split
          · exact Or.inr (Or.inl rfl)
          · exact Or.inr (Or.inr rfl)
      rw [this] at k2
      cases k2
    · rw [if_neg k3, if_pos ⟨k1, k2⟩] at y6
      exact (rai_q (by rw [y6]; exact hs)).2
/-- what raising keeps: reached by walks; ringed means a ring; else all below 18; others are nought -/
def WyI (E : Eg) (Pl : List Int) (s : Wy) : Prop := Rch E s.1 ∧ (s.2.2 = true → Ring E) ∧ (s.2.2 = false → ∀ b, s.1 b < 18) ∧ ∀ b, b ∉ Pl → s.1 b = 0
def smP (Pl : List Int) (ρ : Int → Int) : Int := (Pl.map ρ).sum
theorem smP_up {Pl : List Int} {ρ : Int → Int} {b v : Int} (h : ρ b < v) (hn : Pl.Nodup) : (b ∈ Pl → smP Pl ρ + 1 ≤ smP Pl (bup ρ b v)) ∧ (b ∉ Pl → smP Pl (bup ρ b v) = smP Pl ρ) := by
  unfold smP
  induction Pl with
  | nil => exact ⟨(fun h => by cases h), fun _ => rfl⟩
  | cons x Pl ih =>
    obtain ⟨n1, n2⟩ := List.nodup_cons.mp hn
    obtain ⟨i1, i2⟩ := ih n2
    rw [List.map_cons, List.map_cons, List.sum_cons, List.sum_cons]
    constructor
    · intro hb
      by_cases e : x = b
      · subst e
        have e1 : bup ρ x v x = v := by unfold bup; rw [if_pos rfl]
        rw [i2 n1, e1]
        omega
      · have hb' : b ∈ Pl := by
          rcases List.mem_cons.mp hb with z | z
          · exact absurd z.symm e
          · exact z
        have e1 : bup ρ b v x = ρ x := by unfold bup; rw [if_neg e]
        have := i1 hb'
        rw [e1]
        omega
    · intro hb
      have e : x ≠ b := fun z => hb (by rw [z]; exact List.mem_cons_self)
      have e1 : bup ρ b v x = ρ x := by unfold bup; rw [if_neg e]
      rw [e1, i2 (fun z => hb (List.mem_cons_of_mem _ z))]
theorem smP_le {Pl : List Int} {ρ : Int → Int} {m : Int} (h : ∀ b, ρ b ≤ m) : smP Pl ρ ≤ m * Pl.length := by
  unfold smP
  induction Pl with
  | nil => simp
  | cons x Pl ih =>
    rw [List.map_cons, List.sum_cons, List.length_cons]
    have := h x
    rw [show m * ((Pl.length + 1 : Nat) : Int) = m * Pl.length + m by rw [Int.natCast_add, Int.mul_add]; simp]
    omega
theorem smP_0 {Pl : List Int} : smP Pl (fun _ => 0) = 0 := by
  unfold smP
  induction Pl with
  | nil => rfl
  | cons x Pl ih => rw [List.map_cons, List.sum_cons, ih]; rfl
/-- as it was, or raised and more -/
def WyU (Pl : List Int) (s s' : Wy) : Prop := smP Pl s.1 ≤ smP Pl s'.1 ∧ (s'.2.1 = true → s.2.1 = true ∨ smP Pl s.1 + 1 ≤ smP Pl s'.1)
theorem WyU.refl {Pl : List Int} {s : Wy} : WyU Pl s s := ⟨Int.le_refl _, Or.inl⟩
theorem WyU.trans {Pl : List Int} {s t w : Wy} (h1 : WyU Pl s t) (h2 : WyU Pl t w) : WyU Pl s w := by
  refine ⟨Int.le_trans h1.1 h2.1, fun h => ?_⟩
  have a := h1.1
  have b := h2.1
  rcases h2.2 h with z | z
  · rcases h1.2 z with y | y
    · exact Or.inl y
    · exact Or.inr (by omega)
  · exact Or.inr (by omega)
section W0
variable {E : Eg} {Pl : List Int}
theorem rai_I {s : Wy} {x b k v : Int} (h01 : E01 E) (hP : ∀ a b k, E a b k → a ∈ Pl ∧ b ∈ Pl) (hn : Pl.Nodup) (hl : Pl.length ≤ 18) (I : WyI E Pl s) (e : E x b v) (k0 : 0 ≤ k) (w : ∃ n a, Wlk E n a x k) : WyI E Pl (raiF b (k + v) s) ∧ WyU Pl s (raiF b (k + v) s) := by
  unfold raiF
  split
  · exact ⟨I, WyU.refl⟩
  · rename_i hlt
    have hb := (hP _ _ _ e).2
    have hv := h01 _ _ _ e
    obtain ⟨n, a, w⟩ := w
    have wb : Wlk E (n + 1) a b (k + v) := Wlk.app n 1 a x b k v w (Wlk.one e)
    obtain ⟨I1, I2, I3, I4⟩ := I
    refine ⟨⟨fun c => ?_, fun h => ?_, fun h c => ?_, fun c hc => ?_⟩, ?_, fun _ => Or.inr ?_⟩
    · dsimp only
      unfold bup
      split
      · rename_i hc
        subst hc
        exact ⟨by omega, n + 1, a, wb⟩
      · exact I1 c
    · rcases Bool.or_eq_true _ _ ▸ h with h | h
      · exact I2 h
      · rw [decide_eq_true_eq] at h
        exact wlk_ring h01 hP wb (by omega) (by omega)
    · obtain ⟨h1, h2⟩ := Bool.or_eq_false_iff.mp h
      rw [decide_eq_false_iff_not] at h2
      dsimp only
      unfold bup
      split
      · omega
      · exact I3 h1 c
    · dsimp only
      unfold bup
      rw [if_neg (fun z => hc (by rw [z]; exact hb))]
      exact I4 c hc
    · have := (smP_up (Pl := Pl) (ρ := s.1) (b := b) (v := k + v) (by omega) hn).1 hb
      dsimp only
      omega
    · exact (smP_up (Pl := Pl) (ρ := s.1) (b := b) (v := k + v) (by omega) hn).1 hb
theorem fold_I {α : Type} {f : Wy → α → Wy} {P : Wy → Prop} {R : Wy → Wy → Prop} (hr : ∀ s, R s s) (ht : ∀ s t w, R s t → R t w → R s w) : ∀ (L : List α) (s : Wy), (∀ x ∈ L, ∀ s, P s → P (f s x) ∧ R s (f s x)) → P s → P (L.foldl f s) ∧ R s (L.foldl f s) := by
  intro L
  induction L with
  | nil => intro s _ h; exact ⟨h, hr s⟩
  | cons y L ih =>
    intro s H h
    rw [List.foldl_cons]
    obtain ⟨a, b⟩ := H y List.mem_cons_self s h
    obtain ⟨c, e⟩ := ih (f s y) (fun x hx => H x (List.mem_cons_of_mem _ hx)) a
    exact ⟨c, ht _ _ _ b e⟩
end W0
theorem rn_I {rs : List Ru} {Pl : List Int} {s : Wy} (hP : ∀ a b k, EgR rs a b k → a ∈ Pl ∧ b ∈ Pl) (hn : Pl.Nodup) (hl : Pl.length ≤ 18) (I : WyI (EgR rs) Pl s) : WyI (EgR rs) Pl (rnF rs s) ∧ WyU Pl s (rnF rs s) := by
  have h01 : E01 (EgR rs) := fun _ _ _ h => EgR_01 h
  refine fold_I (fun _ => WyU.refl) (fun _ _ _ => WyU.trans) rs s (fun r hr s I => ?_) I
  unfold rnG
  split
  case isFalse => exact ⟨I, WyU.refl⟩
  rename_i h0
  refine fold_I (fun _ => WyU.refl) (fun _ _ _ => WyU.trans) r.2.1 s (fun a ha s I => ?_) I
  refine fold_I (fun _ => WyU.refl) (fun _ _ _ => WyU.trans) [0, 1, 2] s (fun c hc s I => ?_) I
  have hc3 : c < 3 := by simp at hc; omega
  unfold frC
  split
  case isFalse => exact ⟨I, WyU.refl⟩
  rename_i hv
  have wk := I.1 (3 * a.1 + c)
  generalize s.1 (3 * a.1 + c) = k at *
  refine fold_I (fun _ => WyU.refl) (fun _ _ _ => WyU.trans) r.2.2.1 s (fun b hb s I => ?_) I
  refine fold_I (fun _ => WyU.refl) (fun _ _ _ => WyU.trans) [0, 1, 2] s (fun e he s I => ?_) I
  have he3 : e < 3 := by simp at he; omega
  unfold fwC
  split
  · rename_i h1
    have := rai_I (s := s) (x := 3 * a.1 + c) (b := 3 * b.1 + e) (k := k) (v := 0) h01 hP hn hl I ⟨r, hr, h0, a, ha, c, hc3, rfl, hv.1, hv.2, b, hb, e, he3, rfl, Or.inl ⟨h1, rfl⟩⟩ wk.1 wk.2
    rw [Int.add_zero] at this
    exact this
  · split
    · rename_i h1
      exact rai_I (s := s) (x := 3 * a.1 + c) (b := 3 * b.1 + e) (k := k) (v := 1) h01 hP hn hl I ⟨r, hr, h0, a, ha, c, hc3, rfl, hv.1, hv.2, b, hb, e, he3, rfl, Or.inr ⟨h1.1, h1.2, rfl⟩⟩ wk.1 wk.2
    · exact ⟨I, WyU.refl⟩
/-- measuring: closed ranks, or a ring -/
theorem ms_v {rs : List Ru} {Pl : List Int} (hP : ∀ a b k, EgR rs a b k → a ∈ Pl ∧ b ∈ Pl) (hn : Pl.Nodup) (hl : Pl.length ≤ 18) : ∀ (n : Nat) (s : Wy), WyI (EgR rs) Pl s → s.2.1 = true → 361 - (n : Int) ≤ smP Pl s.1 → ((msF rs n s).2.1 = false ∧ (msF rs n s).2.2 = false → Clo (EgR rs) (msF rs n s).1 ∧ Rch (EgR rs) (msF rs n s).1) ∧ (¬ ((msF rs n s).2.1 = false ∧ (msF rs n s).2.2 = false) → Ring (EgR rs)) := by
  intro n
  induction n with
  | zero =>
    intro s I h1 hs
    rw [msF]
    refine ⟨fun h => (by rw [h1] at h; cases h.1), fun _ => ?_⟩
    by_cases hr : s.2.2 = true
    · exact I.2.1 hr
    · exfalso
      have hb := I.2.2.1 (by simpa using hr)
      have := smP_le (Pl := Pl) (ρ := s.1) (m := 17) (fun b => by have := hb b; omega)
      omega
  | succ n ih =>
    intro s I h1 hs
    rw [msF]
    by_cases hr : s.2.2 = true
    · rw [if_neg (by rw [hr]; simp)]
      refine ⟨fun h => (by rw [h1] at h; cases h.1), fun _ => I.2.1 hr⟩
    · have hr' : s.2.2 = false := by simpa using hr
      rw [if_pos ⟨h1, hr'⟩]
      have I0 : WyI (EgR rs) Pl (s.1, false, false) := ⟨I.1, (fun h => by cases h), fun _ => I.2.2.1 hr', I.2.2.2⟩
      obtain ⟨I1, U1⟩ := rn_I hP hn hl I0
      by_cases hq : (rnF rs (s.1, false, false)).2.1 = true
      · refine ih _ I1 hq ?_
        rcases U1.2 hq with z | z
        · cases z
        · dsimp only at z
          omega
      · have hq' : (rnF rs (s.1, false, false)).2.1 = false := by simpa using hq
        obtain ⟨x, y⟩ := rn_clo hq'
        have e : msF rs n (rnF rs (s.1, false, false)) = (s.1, false, false) := by
          rw [x]
          cases n with
          | zero => rfl
          | succ n => rw [msF, if_neg (by simp)]
        rw [e]
        exact ⟨fun _ => ⟨y, I.1⟩, fun h => absurd ⟨rfl, rfl⟩ h⟩
/-- places of tables -/
def plcs (C : Int → Int) : List Int := (List.range 26).flatMap fun (t : Nat) => (List.range (C (t : Int)).toNat).map fun (c : Nat) => 3 * (t : Int) + (c : Int)
theorem plcs_mem {C : Int → Int} {i : Int} : i ∈ plcs C ↔ ∃ t c : Nat, t < 26 ∧ (c : Int) < C t ∧ i = 3 * (t : Int) + c := by
  unfold plcs
  rw [List.mem_flatMap]
  constructor
  · rintro ⟨t, ht, h⟩
    obtain ⟨c, hc, rfl⟩ := List.mem_map.mp h
    rw [List.mem_range] at ht hc
    exact ⟨t, c, ht, by omega, rfl⟩
  · rintro ⟨t, c, ht, hc, rfl⟩
    exact ⟨t, List.mem_range.mpr ht, List.mem_map.mpr ⟨c, List.mem_range.mpr (by omega), rfl⟩⟩
theorem plcs_nd {C : Int → Int} (h3 : ∀ t, C t ≤ 3) : (plcs C).Nodup := by
  unfold plcs
  rw [List.nodup_iff_pairwise_ne, List.pairwise_flatMap]
  refine ⟨fun t _ => ?_, ?_⟩
  · rw [List.pairwise_map]
    exact (List.nodup_iff_pairwise_ne.mp List.nodup_range).imp (fun h => by omega)
  · refine List.Pairwise.imp (R := fun a b : Nat => a ≠ b) ?_ (List.nodup_iff_pairwise_ne.mp List.nodup_range)
    intro a b hab x hx y hy
    obtain ⟨c, hc, rfl⟩ := List.mem_map.mp hx
    obtain ⟨e, he, rfl⟩ := List.mem_map.mp hy
    rw [List.mem_range] at hc he
    have := h3 a
    have := h3 b
    omega
theorem plcs_len {C : Int → Int} (h0 : ∀ t, 0 ≤ C t) (h3 : ∀ t, C t ≤ 3) (h6 : tabF C 26 0 ≤ 6) : (plcs C).length ≤ 18 := by
  have key : ∀ (n k : Nat), ((List.range' k n).flatMap fun (t : Nat) => (List.range (C (t : Int)).toNat).map fun (c : Nat) => 3 * (t : Int) + (c : Int)).length ≤ 3 * tabF C n k := by
    intro n
    induction n with
    | zero => intro k; simp [tabF]
    | succ n ih =>
      intro k
      rw [List.range'_succ, List.flatMap_cons, List.length_append, List.length_map, List.length_range]
      have := ih (k + 1)
      have a := h0 k
      have b := h3 k
      rw [tabF]
      rw [show ((k + 1 : Nat) : Int) = (k : Int) + 1 by omega] at this
      split <;> omega
  have := key 26 0
  rw [Int.natCast_zero] at this
  unfold plcs
  rw [List.range_eq_range']
  omega
theorem EgR_pl {C : Int → Int} {rs : List Ru} (hr : ∀ r ∈ rs, okRl C r) {x y k : Int} (h : EgR rs x y k) : x ∈ plcs C ∧ y ∈ plcs C := by
  obtain ⟨r, hr', h0, a, ha, c, hc, rfl, hv, hm, b, hb, e, he, rfl, hk⟩ := h
  have ok := hr r hr'
  have key : ∀ (a : At) (c : Nat), okA C a → c < 3 → 2000 ≤ plN a c → 3 * a.1 + (c : Int) ∈ plcs C := by
    intro a c ha hc hv
    obtain ⟨a1, a2, a3, X, Y, Z, hX, hY, hZ, e⟩ := ha
    rw [plcs_mem]
    refine ⟨a.1.toNat, c, by omega, ?_, by omega⟩
    rw [Int.toNat_of_nonneg a1]
    unfold plN at hv
    rw [e, nrm_1, nrm_2, nrm_3] at hv
    rcases (show c = 0 ∨ c = 1 ∨ c = 2 by omega) with rfl | rfl | rfl
    · simp
      omega
    · simp at hv
      split at hv <;> omega
    · simp at hv
      split at hv <;> omega
  refine ⟨key a c (ok.2.1 a ha) hc hv, key b e (ok.2.2.1 b hb) he ?_⟩
  rcases hk with ⟨k1, -⟩ | ⟨k1, -⟩
  · omega
  · exact k1
