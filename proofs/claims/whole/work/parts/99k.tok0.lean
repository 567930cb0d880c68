/-! tokens, as functions: spans, words -/
theorem shl_or {a b : Int} (a0 : 0 ≤ a) (a1 : a < 1099511627776) (b0 : 0 ≤ b) (b1 : b ≤ 255) : (Int64.ofInt ((Int64.ofInt a <<< ((Int32.ofInt 8).toInt64 &&& 63)).toInt) ||| Int64.ofInt b).toInt = a * 256 + b := by
  have e8 : ((Int32.ofInt 8).toInt64 &&& 63) = (8 : Int64) := by decide
  rw [e8, Int64.ofInt_toInt]
  obtain ⟨n, rfl⟩ := Int.eq_ofNat_of_zero_le a0
  obtain ⟨m, rfl⟩ := Int.eq_ofNat_of_zero_le b0
  have hn : n < 1099511627776 := by omega
  have hm : m < 256 := by omega
  have hb : (Int64.ofInt (n : Int) <<< (8 : Int64) ||| Int64.ofInt (m : Int)).toBitVec = BitVec.ofNat 64 (n * 256 + m) := by
    rw [Int64.toBitVec_or, Int64.toBitVec_shiftLeft]
    have q : (Int64.ofInt (n : Int)).toBitVec = BitVec.ofNat 64 n := by
      rw [Int64.toBitVec_ofInt, BitVec.ofInt_natCast]
    have q2 : (Int64.ofInt (m : Int)).toBitVec = BitVec.ofNat 64 m := by
      rw [Int64.toBitVec_ofInt, BitVec.ofInt_natCast]
    rw [q, q2]
    apply BitVec.eq_of_toNat_eq
    have h8 : ((8 : Int64).toBitVec.smod 64) = 8#64 := by decide
    rw [h8]
    simp only [BitVec.toNat_or, BitVec.shiftLeft_eq', BitVec.toNat_shiftLeft, BitVec.toNat_ofNat]
    rw [Nat.mod_eq_of_lt (by omega : n < 2 ^ 64), Nat.mod_eq_of_lt (by omega : m < 2 ^ 64), Nat.mod_eq_of_lt (by omega : n * 256 + m < 2 ^ 64)]
    have e3 : (8 % 2 ^ 64) = 8 := by decide
    rw [e3]
    have e4 : n <<< 8 = n * 256 := by rw [Nat.shiftLeft_eq]
    rw [e4, Nat.mod_eq_of_lt (by omega : n * 256 < 2 ^ 64), ← e4, ← Nat.shiftLeft_add_eq_or_of_lt (by omega : m < 2 ^ 8)]
  rw [Int64.toInt, hb, BitVec.toInt_ofNat']
  rw [Int.bmod_eq_of_le (by omega) (by omega)]
  omega
theorem span_v {g : Int → Bool} : ∀ (k : Nat) (p : Int), p ≤ spanF g k p ∧ spanF g k p ≤ p + k ∧ (∀ j, p ≤ j → j < spanF g k p → g j = true) ∧ (spanF g k p < p + k → g (spanF g k p) = false) := by
  intro k
  induction k with
  | zero => intro p; rw [spanF]; exact ⟨by omega, by omega, fun j a b => by omega, fun h => by omega⟩
  | succ k ih =>
    intro p
    rw [spanF]
    by_cases h : g p = true
    · rw [if_pos h]
      obtain ⟨a, b, c, e⟩ := ih (p + 1)
      refine ⟨by omega, by omega, fun j j0 j1 => ?_, fun hl => e (by omega)⟩
      by_cases hj : j = p
      · subst hj
        exact h
      · exact c j (by omega) j1
    · rw [if_neg h]
      exact ⟨by omega, by omega, fun j a b => by omega, fun _ => by simpa using h⟩
theorem spn_v {f : Int → Int} {n p : Int} {q : Int → Bool} (hp : p ≤ n) : p ≤ spn f n q p ∧ spn f n q p ≤ n ∧ (∀ j, p ≤ j → j < spn f n q p → q (f j) = true) ∧ (spn f n q p < n → q (f (spn f n q p)) = false) := by
  unfold spn
  obtain ⟨a, b, c, e⟩ := span_v (g := fun k => q (chT f n k)) (n - p).toNat p
  refine ⟨a, by omega, fun j j0 j1 => ?_, fun h => ?_⟩
  · have := c j j0 j1
    unfold chT at this
    rw [if_pos (by omega)] at this
    exact this
  · have := e (by omega)
    have ch : chT f n (spanF (fun k => q (chT f n k)) (n - p).toNat p) = f (spanF (fun k => q (chT f n k)) (n - p).toNat p) := if_pos h
    rw [ch] at this
    exact this
/-- the first letters of a word as one number -/
def wdF (f : Int → Int) (q : Int) : Nat → Int
  | 0 => 0
  | m + 1 => if m < 6 then wdF f q m * 256 + f (q + m) else wdF f q m
theorem wdF_in {f : Int → Int} {q : Int} : ∀ (m : Nat), (∀ j : Nat, j < m → 0 ≤ f (q + j) ∧ f (q + j) ≤ 255) → 0 ≤ wdF f q m ∧ wdF f q m < 281474976710656 ∧ (m ≤ 5 → wdF f q m < 1099511627776) ∧ (m ≤ 4 → wdF f q m < 4294967296) ∧ (m ≤ 3 → wdF f q m < 16777216) ∧ (m ≤ 2 → wdF f q m < 65536) ∧ (m ≤ 1 → wdF f q m < 256) ∧ (m = 0 → wdF f q m = 0) := by
  intro m
  induction m with
  | zero => intro _; rw [wdF]; omega
  | succ m ih =>
    intro h
    have a := ih (fun j hj => h j (by omega))
    have b := h m (by omega)
    rw [wdF]
    split
    · omega
    · omega
theorem wd3 {f : Int → Int} {q : Int} (h : ∀ j : Nat, j < 3 → 0 ≤ f (q + j) ∧ f (q + j) ≤ 255) : wdF f q 3 = 7499639 ↔ f q = 114 ∧ f (q + 1) = 111 ∧ f (q + 2) = 119 := by
  have h0 := h 0 (by omega)
  have h1 := h 1 (by omega)
  have h2 := h 2 (by omega)
  have e : wdF f q 3 = ((0 * 256 + f (q + (0 : Nat))) * 256 + f (q + (1 : Nat))) * 256 + f (q + (2 : Nat)) := rfl
  rw [e]
  rw [show ((0 : Nat) : Int) = 0 from rfl, Int.add_zero] at *
  rw [show ((1 : Nat) : Int) = 1 from rfl, show ((2 : Nat) : Int) = 2 from rfl] at *
  omega
theorem wd4 {f : Int → Int} {q : Int} (h : ∀ j : Nat, j < 4 → 0 ≤ f (q + j) ∧ f (q + j) ≤ 255) : wdF f q 4 = 1920298085 ↔ f q = 114 ∧ f (q + 1) = 117 ∧ f (q + 2) = 108 ∧ f (q + 3) = 101 := by
  have h0 := h 0 (by omega)
  have h1 := h 1 (by omega)
  have h2 := h 2 (by omega)
  have h3 := h 3 (by omega)
  have e : wdF f q 4 = (((0 * 256 + f (q + (0 : Nat))) * 256 + f (q + (1 : Nat))) * 256 + f (q + (2 : Nat))) * 256 + f (q + (3 : Nat)) := rfl
  rw [e]
  rw [show ((0 : Nat) : Int) = 0 from rfl, Int.add_zero] at *
  rw [show ((1 : Nat) : Int) = 1 from rfl, show ((2 : Nat) : Int) = 2 from rfl, show ((3 : Nat) : Int) = 3 from rfl] at *
  omega
theorem wd5 {f : Int → Int} {q : Int} (h : ∀ j : Nat, j < 5 → 0 ≤ f (q + j) ∧ f (q + j) ≤ 255) : (wdF f q 5 = 499850046565 ↔ f q = 116 ∧ f (q + 1) = 97 ∧ f (q + 2) = 98 ∧ f (q + 3) = 108 ∧ f (q + 4) = 101) ∧ (wdF f q 5 = 439721161573 ↔ f q = 102 ∧ f (q + 1) = 97 ∧ f (q + 2) = 108 ∧ f (q + 3) = 115 ∧ f (q + 4) = 101) := by
  have h0 := h 0 (by omega)
  have h1 := h 1 (by omega)
  have h2 := h 2 (by omega)
  have h3 := h 3 (by omega)
  have h4 := h 4 (by omega)
  have e : wdF f q 5 = ((((0 * 256 + f (q + (0 : Nat))) * 256 + f (q + (1 : Nat))) * 256 + f (q + (2 : Nat))) * 256 + f (q + (3 : Nat))) * 256 + f (q + (4 : Nat)) := rfl
  rw [e]
  rw [show ((0 : Nat) : Int) = 0 from rfl, Int.add_zero] at *
  rw [show ((1 : Nat) : Int) = 1 from rfl, show ((2 : Nat) : Int) = 2 from rfl, show ((3 : Nat) : Int) = 3 from rfl, show ((4 : Nat) : Int) = 4 from rfl] at *
  omega
theorem isLt_n {c : Int} : isLt c = true ↔ (97 ≤ c ∧ c ≤ 122) ∨ (65 ≤ c ∧ c ≤ 90) := by unfold isLt; rw [decide_eq_true_eq]
theorem isDg_n {c : Int} : isDg c = true ↔ 48 ≤ c ∧ c ≤ 57 := by unfold isDg; rw [decide_eq_true_eq]
theorem isSp_n {c : Int} : isSp c = true ↔ c = 32 ∨ c = 10 := by unfold isSp; rw [decide_eq_true_eq]
/-- what tokens read is only the text -/
theorem tok_e {f : Int → Int} {n p : Int} (h0 : 0 ≤ p) (h1 : p ≤ n) : p ≤ (nxT f n p).2.1 ∧ (nxT f n p).2.1 ≤ n ∧ (nxT f n p).2.1 ≤ (nxT f n p).2.2 ∧ (nxT f n p).2.2 ≤ n ∧ ((nxT f n p).1 = 0 ↔ (nxT f n p).2.1 = n) ∧ ((nxT f n p).1 ≠ 0 → (nxT f n p).2.1 < (nxT f n p).2.2) := by
  unfold nxT
  have s := spn_v (f := f) (n := n) (p := p) (q := isSp) h1
  generalize spn f n isSp p = q at *
  unfold tokA
  by_cases hq : q < n
  · rw [if_neg (by omega)]
    by_cases hl : isLt (f q) = true
    · rw [if_pos hl]
      have t := spn_v (f := f) (n := n) (p := q) (q := isLt) (by omega)
      have t1 : q < spn f n isLt q := by
        by_cases e : spn f n isLt q = q
        · have := t.2.2.2 (by omega)
          rw [e, hl] at this
          cases this
        · omega
      dsimp only
      refine ⟨s.1, by omega, by omega, t.2.1, ⟨fun h => ?_, fun h => by omega⟩, fun _ => t1⟩
      exfalso
      rw [isLt_n] at hl
      unfold wrdK at h
      split at h
      · split at h <;> omega
      · repeat' split at h
        all_goals omega
    · rw [if_neg hl]
      by_cases hd : isDg (f q) = true
      · rw [if_pos hd]
        have t := spn_v (f := f) (n := n) (p := q) (q := isDg) (by omega)
        have t1 : q < spn f n isDg q := by
          by_cases e : spn f n isDg q = q
          · have := t.2.2.2 (by omega)
            rw [e, hd] at this
            cases this
          · omega
        dsimp only
        refine ⟨s.1, by omega, by omega, t.2.1, ⟨fun h => ?_, fun h => by omega⟩, fun _ => t1⟩
        exfalso
        unfold numK at h
        split at h
        · rename_i c
          rw [isDg_n] at hd
          split at h
          · omega
          · have := t.2.2.1 (q + 1) (by omega) (by omega)
            rw [isDg_n] at this
            omega
        · omega
      · rw [if_neg hd]
        split
        · rename_i c
          have : q + 1 < n := by
            unfold chT at c
            by_cases z : q + 1 < n
            · exact z
            · rw [if_neg z] at c
              omega
          dsimp only
          exact ⟨s.1, by omega, by omega, by omega, ⟨fun h => by omega, fun h => by omega⟩, fun _ => by omega⟩
        · split
          · dsimp only
            exact ⟨s.1, by omega, by omega, by omega, ⟨fun h => by omega, fun h => by omega⟩, fun _ => by omega⟩
          · dsimp only
            exact ⟨s.1, by omega, by omega, by omega, ⟨fun h => by omega, fun h => by omega⟩, fun _ => by omega⟩
  · rw [if_pos hq]
    dsimp only
    exact ⟨s.1, s.2.1, by omega, s.2.1, ⟨fun _ => by omega, fun _ => rfl⟩, fun h => absurd rfl h⟩
