/-! ways between places: closed rankings that walks reach are one -/
abbrev Eg : Type := Int → Int → Int → Prop
def Wlk (E : Eg) : Nat → Int → Int → Int → Prop
  | 0, a, b, k => a = b ∧ k = 0
  | n + 1, a, b, k => ∃ c j, E a c j ∧ Wlk E n c b (k - j)
section A4
variable {E : Eg}
theorem Wlk.app : ∀ (n m : Nat) (a b c k j : Int), Wlk E n a b k → Wlk E m b c j → Wlk E (n + m) a c (k + j) := by
  intro n
  induction n with
  | zero =>
    rintro m a b c k j ⟨rfl, rfl⟩ h
    rw [Nat.zero_add, Int.zero_add]
    exact h
  | succ n ih =>
    rintro m a b c k j ⟨x, i, h1, h2⟩ h3
    rw [Nat.succ_add]
    refine ⟨x, i, h1, ?_⟩
    have := ih m x b c (k - i) j h2 h3
    rw [show k + j - i = k - i + j by omega]
    exact this
theorem Wlk.one {a b k : Int} (h : E a b k) : Wlk E 1 a b k := ⟨b, k, h, rfl, by omega⟩
/-- ways cost nothing or one -/
def E01 (E : Eg) : Prop := ∀ a b k, E a b k → k = 0 ∨ k = 1
theorem Wlk.nn (h01 : E01 E) : ∀ (n : Nat) (a b k : Int), Wlk E n a b k → 0 ≤ k := by
  intro n
  induction n with
  | zero => rintro a b k ⟨_, rfl⟩; exact Int.le_refl _
  | succ n ih =>
    rintro a b k ⟨c, j, h1, h2⟩
    have := ih _ _ _ h2
    have := h01 _ _ _ h1
    omega
def Clo (E : Eg) (ρ : Int → Int) : Prop := ∀ a b k, E a b k → ρ a + k ≤ ρ b
theorem Clo.wlk {ρ : Int → Int} (h : Clo E ρ) : ∀ (n : Nat) (a b k : Int), Wlk E n a b k → ρ a + k ≤ ρ b := by
  intro n
  induction n with
  | zero => rintro a b k ⟨rfl, rfl⟩; omega
  | succ n ih =>
    rintro a b k ⟨c, j, h1, h2⟩
    have := h _ _ _ h1
    have := ih _ _ _ h2
    omega
/-- reached by walks -/
def Rch (E : Eg) (ρ : Int → Int) : Prop := ∀ b, 0 ≤ ρ b ∧ ∃ n a, Wlk E n a b (ρ b)
theorem rank_one {ρ ρ' : Int → Int} (h1 : Clo E ρ) (h2 : Rch E ρ) (h3 : Clo E ρ') (h4 : Rch E ρ') : ρ = ρ' := by
  funext b
  obtain ⟨_, n, a, w⟩ := h2 b
  obtain ⟨_, n', a', w'⟩ := h4 b
  have := h3.wlk _ _ _ _ w
  have := h1.wlk _ _ _ _ w'
  have := (h2 a').1
  have := (h4 a).1
  omega
/-- a ring with a new way in it -/
def Ring (E : Eg) : Prop := ∃ n a k, Wlk E n a a k ∧ 1 ≤ k
theorem Clo.noring {ρ : Int → Int} (h : Clo E ρ) : ¬ Ring E := by
  rintro ⟨n, a, k, w, hk⟩
  have := h.wlk _ _ _ _ w
  omega
/-- the places behind the new ways of a walk -/
theorem wlk_heads (h01 : E01 E) {Pl : List Int} (hP : ∀ a b k, E a b k → a ∈ Pl ∧ b ∈ Pl) : ∀ (n : Nat) (a b k : Int), Wlk E n a b k → ∃ hs : List Int, (hs.length : Int) = k ∧ (∀ x ∈ hs, x ∈ Pl ∧ ∃ m j, 1 ≤ j ∧ Wlk E m a x j) ∧ (Ring E ∨ hs.Nodup) ∧ (1 ≤ k → ∃ x ∈ Pl, (∃ m j, Wlk E m a x j ∧ ∀ y ∈ hs, ∃ m' j', 1 ≤ j' ∧ Wlk E m' x y j')) := by
  intro n
  induction n with
  | zero =>
    rintro a b k ⟨rfl, rfl⟩
    exact ⟨[], rfl, (fun x hx => by cases hx), Or.inr List.nodup_nil, fun h => by omega⟩
  | succ n ih =>
    rintro a b k ⟨c, j, h1, h2⟩
    obtain ⟨hs, e1, e2, e3, e4⟩ := ih _ _ _ h2
    rcases h01 _ _ _ h1 with rfl | rfl
    · refine ⟨hs, by omega, fun x hx => ?_, e3, fun hk => ?_⟩
      · obtain ⟨q1, m, i, q2, q3⟩ := e2 x hx
        exact ⟨q1, 1 + m, 0 + i, by omega, Wlk.app 1 m a c x 0 i (Wlk.one h1) q3⟩
      · obtain ⟨x, q1, ⟨m, i, q2, q3⟩⟩ := e4 (by omega)
        exact ⟨x, q1, 1 + m, 0 + i, Wlk.app 1 m a c x 0 i (Wlk.one h1) q2, q3⟩
    · have nn := Wlk.nn h01 _ _ _ _ h2
      refine ⟨c :: hs, by rw [List.length_cons]; push_cast; omega, fun x hx => ?_, ?_, fun _ => ⟨a, (hP _ _ _ h1).1, 0, 0, ⟨rfl, rfl⟩, fun y hy => ?_⟩⟩
      · rcases List.mem_cons.mp hx with rfl | hx
        · exact ⟨(hP _ _ _ h1).2, 1, 1, by omega, Wlk.one h1⟩
        · obtain ⟨q1, m, i, q2, q3⟩ := e2 x hx
          exact ⟨q1, 1 + m, 1 + i, by omega, Wlk.app 1 m a c x 1 i (Wlk.one h1) q3⟩
      · rcases e3 with e3 | e3
        · exact Or.inl e3
        · by_cases hc : c ∈ hs
          · obtain ⟨_, m, i, q2, q3⟩ := e2 c hc
            exact Or.inl ⟨m, c, i, q3, q2⟩
          · exact Or.inr (List.nodup_cons.mpr ⟨hc, e3⟩)
      · rcases List.mem_cons.mp hy with rfl | hx
        · exact ⟨1, 1, by omega, Wlk.one h1⟩
        · obtain ⟨q1, m, i, q2, q3⟩ := e2 y hx
          exact ⟨1 + m, 1 + i, by omega, Wlk.app 1 m a c y 1 i (Wlk.one h1) q3⟩
theorem nodup_len : ∀ (l P : List Int), l.Nodup → (∀ x ∈ l, x ∈ P) → l.length ≤ P.length := by
  intro l
  induction l with
  | nil => intro P _ _; exact Nat.zero_le _
  | cons x l ih =>
    intro P h1 h2
    obtain ⟨h3, h4⟩ := List.nodup_cons.mp h1
    have h5 := h2 x List.mem_cons_self
    have := ih (P.erase x) h4 (fun y hy => by
      have hne : y ≠ x := fun e => h3 (e ▸ hy)
      exact (List.mem_erase_of_ne hne).mpr (h2 y (List.mem_cons_of_mem _ hy)))
    rw [List.length_erase_of_mem h5] at this
    have := List.length_pos_of_mem h5
    rw [List.length_cons]
    omega
/-- a walk that costs as much as there are places goes in a ring -/
theorem wlk_ring (h01 : E01 E) {Pl : List Int} (hP : ∀ a b k, E a b k → a ∈ Pl ∧ b ∈ Pl) {n : Nat} {a b k : Int} (w : Wlk E n a b k) (hk : 1 ≤ k) (hl : (Pl.length : Int) ≤ k) : Ring E := by
  obtain ⟨hs, e1, e2, e3, e4⟩ := wlk_heads h01 hP n a b k w
  rcases e3 with e3 | e3
  · exact e3
  · obtain ⟨x, q1, m, i, q2, q3⟩ := e4 hk
    by_cases hx : x ∈ hs
    · obtain ⟨m', j', h1, h2⟩ := q3 x hx
      exact ⟨m', x, j', h2, h1⟩
    · have := nodup_len (x :: hs) Pl (List.nodup_cons.mpr ⟨hx, e3⟩) (fun y hy => by
        rcases List.mem_cons.mp hy with rfl | hy
        · exact q1
        · exact (e2 y hy).1)
      rw [List.length_cons] at this
      omega
/-- a ring has a new way and a way back -/
theorem ring_iff (h01 : E01 E) : Ring E ↔ ∃ a b, E a b 1 ∧ ∃ n k, Wlk E n b a k := by
  constructor
  · rintro ⟨n, a, k, w, hk⟩
    have : ∀ (n m : Nat) (a b c k j : Int), Wlk E n a b k → 1 ≤ k → Wlk E m b a j → ∃ a b, E a b 1 ∧ ∃ n k, Wlk E n b a k := by
      intro n
      induction n with
      | zero => rintro m a b c k j ⟨_, rfl⟩ h; omega
      | succ n ih =>
        rintro m a b c k j ⟨x, i, h1, h2⟩ hk h3
        rcases h01 _ _ _ h1 with rfl | rfl
        · exact ih (m + 1) x b c _ (j + 0) h2 (by omega) (Wlk.app m 1 b a x j 0 h3 (Wlk.one h1))
        · exact ⟨a, x, h1, n + m, _, Wlk.app n m x b a _ _ h2 h3⟩
    exact this n 0 a a a k 0 w hk ⟨rfl, rfl⟩
  · rintro ⟨a, b, h, n, k, w⟩
    have := Wlk.nn h01 _ _ _ _ w
    exact ⟨1 + n, a, 1 + k, Wlk.app 1 n a b a 1 k (Wlk.one h) w, by omega⟩
/-- raising along a way keeps what walks reach -/
theorem Rch.up {ρ : Int → Int} (h : Rch E ρ) {a b k : Int} (e : E a b k) (h01 : E01 E) : Rch E (bup ρ b (ρ a + k)) := by
  intro c
  unfold bup
  by_cases hc : c = b
  · subst hc
    rw [if_pos rfl]
    obtain ⟨h0, n, x, w⟩ := h a
    have := h01 _ _ _ e
    exact ⟨by omega, n + 1, x, Wlk.app n 1 x a c _ _ w (Wlk.one e)⟩
  · rw [if_neg hc]
    exact h c
theorem Rch.zero : Rch E (fun _ => 0) := fun b => ⟨Int.le_refl _, 0, b, rfl, rfl⟩
end A4
/-- closing a relation of places, place by place -/
def wsh (R : Int → Int → Prop) (b : Int) : Int → Int → Prop := fun x y => R x y ∨ (R x b ∧ R b y)
def wshF (R : Int → Int → Prop) : Nat → (Int → Int → Prop)
  | 0 => R
  | n + 1 => wsh (wshF R n) n
theorem wsh_trans {R : Int → Int → Prop} : ∀ (n : Nat) (x y z : Int), 0 ≤ z → z < n → wshF R n x z → wshF R n z y → wshF R n x y := by
  intro n
  induction n with
  | zero => intro x y z h0 h1; omega
  | succ n ih =>
    intro x y z h0 h1 a b
    change wshF R n x z ∨ (wshF R n x n ∧ wshF R n n z) at a
    change wshF R n z y ∨ (wshF R n z n ∧ wshF R n n y) at b
    show wshF R n x y ∨ (wshF R n x n ∧ wshF R n n y)
    by_cases hz : z = n
    · subst hz
      have a' : wshF R n x n := by rcases a with a | a; exact a; exact a.1
      have b' : wshF R n n y := by rcases b with b | b; exact b; exact b.2
      exact Or.inr ⟨a', b'⟩
    · have h2 : z < n := by omega
      rcases a with a | ⟨a1, a2⟩
      · rcases b with b | ⟨b1, b2⟩
        · exact Or.inl (ih _ _ _ h0 h2 a b)
        · exact Or.inr ⟨ih _ _ _ h0 h2 a b1, b2⟩
      · rcases b with b | ⟨b1, b2⟩
        · exact Or.inr ⟨a1, ih _ _ _ h0 h2 a2 b⟩
        · exact Or.inr ⟨a1, b2⟩
theorem wsh_le {R : Int → Int → Prop} : ∀ (n : Nat) (x y : Int), R x y → wshF R n x y := by
  intro n
  induction n with
  | zero => intro x y h; exact h
  | succ n ih => intro x y h; exact Or.inl (ih x y h)
/-- among places below n: closed means walks -/
theorem wsh_wlk {E : Eg} {n : Nat} (hE : ∀ a b k, E a b k → 0 ≤ a ∧ a < n ∧ 0 ≤ b ∧ b < n) (x y : Int) : wshF (fun a b => ∃ k, E a b k) n x y ↔ ∃ m k, Wlk E (m + 1) x y k := by
  constructor
  · have : ∀ (i : Nat) (x y : Int), wshF (fun a b => ∃ k, E a b k) i x y → ∃ m k, Wlk E (m + 1) x y k := by
      intro i
      induction i with
      | zero =>
        rintro x y ⟨k, h⟩
        exact ⟨0, k, Wlk.one h⟩
      | succ i ih =>
        rintro x y (h | ⟨h1, h2⟩)
        · exact ih x y h
        · obtain ⟨m1, k1, w1⟩ := ih _ _ h1
          obtain ⟨m2, k2, w2⟩ := ih _ _ h2
          exact ⟨m1 + 1 + m2, k1 + k2, Wlk.app (m1 + 1) (m2 + 1) x i y k1 k2 w1 w2⟩
    exact this n x y
  · rintro ⟨m, k, w⟩
    have : ∀ (m : Nat) (x k : Int), Wlk E (m + 1) x y k → wshF (fun a b => ∃ k, E a b k) n x y := by
      intro m
      induction m with
      | zero =>
        rintro x k ⟨c, j, h1, rfl, _⟩
        exact wsh_le n _ _ ⟨_, h1⟩
      | succ m ih =>
        rintro x k ⟨c, j, h1, h2⟩
        obtain ⟨a1, a2, a3, a4⟩ := hE _ _ _ h1
        exact wsh_trans n x y c a3 a4 (wsh_le n _ _ ⟨_, h1⟩) (ih c _ h2)
    exact this m x k w
