/-! both are fed -/
theorem bv_s (x : BitVec 32) (s : Nat) (hs : s ≤ 24) : (x >>> s) &&& 255#32 = (x.sshiftRight s) &&& 255#32 := by
  apply BitVec.eq_of_getLsbD_eq
  intro i hi
  rw [BitVec.getLsbD_and, BitVec.getLsbD_and, BitVec.getLsbD_ushiftRight, BitVec.getLsbD_sshiftRight]
  by_cases h8 : i < 8
  · have h1 : ¬ 32 ≤ i := by omega
    have h2 : s + i < 32 := by omega
    simp [h1, h2]
  · have : (255#32).getLsbD i = false := by
      have e : (255#32) = BitVec.ofNat 32 255 := rfl
      rw [e, BitVec.getLsbD_ofNat]
      have : Nat.testBit 255 i = false := Nat.testBit_lt_two_pow (by
        have : 2 ^ 8 ≤ 2 ^ i := Nat.pow_le_pow_right (by omega) (by omega)
        omega)
      rw [this]; simp
    rw [this]
    simp
theorem byt_e {x s : Int32} (hs : s = 24 ∨ s = 16 ∨ s = 8 ∨ s = 0) : (x.toUInt32 >>> (s.toUInt32 &&& Int32.toUInt32 31)).toInt32 &&& 255 = (x >>> (s &&& 31)) &&& 255 := by
  apply Int32.toBitVec_inj.mp
  rcases hs with rfl | rfl | rfl | rfl
  · exact bv_s x.toBitVec 24 (by omega)
  · exact bv_s x.toBitVec 16 (by omega)
  · exact bv_s x.toBitVec 8 (by omega)
  · exact bv_s x.toBitVec 0 (by omega)
theorem byt_b {x : Int32} : 0 ≤ (x &&& 255).toInt ∧ (x &&& 255).toInt ≤ 255 := by
  have h : (x &&& 255).toBitVec.toNat ≤ 255 := by
    have e : (x &&& 255).toBitVec = x.toBitVec &&& 255#32 := rfl
    rw [e, BitVec.toNat_and]
    exact Nat.and_le_right
  have e2 : (x &&& 255).toInt = (x &&& 255).toBitVec.toInt := rfl
  rw [e2, BitVec.toInt_eq_toNat_of_lt (by omega)]
  omega
/-- a byte of a word -/
def bt (w s : Int) : Int := (Int32.ofInt (Int32.ofInt w >>> (Int32.ofInt s &&& 31)).toInt &&& Int32.ofInt 255).toInt
theorem bt_b {w s : Int} : 0 ≤ bt w s ∧ bt w s ≤ 255 := byt_b
theorem bt_c {w s : Int} (hs : s = 24 ∨ s = 16 ∨ s = 8 ∨ s = 0) : (Int32.ofInt ((Int32.ofInt w).toUInt32 >>> ((Int32.ofInt s).toUInt32 &&& Int32.toUInt32 31)).toInt32.toInt &&& Int32.ofInt 255).toInt = bt w s := by
  unfold bt
  rw [Int32.ofInt_toInt, Int32.ofInt_toInt]
  congr 1
  exact byt_e (by
    rcases hs with rfl | rfl | rfl | rfl
    · exact Or.inl rfl
    · exact Or.inr (Or.inl rfl)
    · exact Or.inr (Or.inr (Or.inl rfl))
    · exact Or.inr (Or.inr (Or.inr rfl)))
/-- bytes put behind -/
def upT (f : Int → Int) (n m : Int) (g : Int → Int) : Int → Int := fun k => if n ≤ k ∧ k < n + m then g (k - n) else f k
theorem upT_0 {f g : Int → Int} {n : Int} : upT f n 0 g = f := by funext k; unfold upT; rw [if_neg (by omega)]
theorem upT_s {f g : Int → Int} {n m : Int} (m0 : 0 ≤ m) {σ : St} {c : Nat} (h : σ c = upT f n m g) : su σ c (n + m) (g m) c = upT f n (m + 1) g := by
  funext k
  rw [su_at, h]
  unfold upT
  by_cases e : k = n + m
  · rw [if_pos e, if_pos (by omega), e, show n + m - n = m by omega]
  · rw [if_neg e]
    by_cases e2 : n ≤ k ∧ k < n + m
    · rw [if_pos e2, if_pos (by omega)]
    · rw [if_neg e2, if_neg (by omega)]
def gF (w1 w2 w3 w4 w5 : Int) : Int → Int := fun i => bt (if i < 4 then w1 else if i < 8 then w2 else if i < 12 then w3 else if i < 16 then w4 else w5) (24 - 8 * (i % 4))
section O2
variable {sc : Scr} {d : Nat} {f g : Int → Int} {n : Int}
theorem l_apB {w : Int} (n0 : 0 ≤ n) : ∀ (k j : Nat) (m : Int) (τ : St), j + k = 4 → 0 ≤ m → τ 0 3 = n + m → τ 86 = upT f n m g → (∀ i : Nat, i < k → g (m + i) = bt w (24 - 8 * ((j + i : Nat) : Int))) → n + m + k ≤ 1000 →
    ∃ ρ, (∀ c, c ≠ 0 → c ≠ 86 → ρ c = τ c) ∧ ρ 0 3 = n + m + k ∧ ρ 86 = upT f n (m + k) g ∧ ∀ (u : Bool × Nat × Nat × Int) (Q : Rs → HS → Prop), Ex sc d 14 3 [some (vR 0), some (vI w), some (vI (24 - 8 * (j : Int)))] [] (wH τ u) Q ↔ Q (.inl none) (wH ρ u) := by
  intro k
  induction k with
  | zero =>
    intro j m τ hj m0 h1 h2 h3 h4
    refine ⟨τ, fun _ _ _ => rfl, by rw [h1]; omega, by rw [h2]; congr 1; omega, fun u Q => ?_⟩
    rw [x14_3]
    simp (disch := first | assumption | omega | exact notL_I | exact notL_N | exact notL_R | exact catS_le (Nat.le_of_ble_eq_true rfl) | exact Nat.le_of_ble_eq_true rfl | exact ooRo (by assumption) | exact ooAt (by assumption) | exact ooRu (by assumption) | exact ooLo (by assumption) | exact ooHa (by assumption) | exact ooLe (by assumption) | exact ooFn | exact ooAn | exact ooPa | exact ooTo | exact ooWa | exact ooCh | rfl) only [x14_0, x14_2, x14_4, x14_7, x14_8, x14_11, x14_14, x14_17, x14_18, x14_21, x14_22, x14_25, x14_26, x14_27, x14_28, x14_31, x14_32, x14_33, x14_34I, x14_34, x14_35, x14_38, x14_39, x14_40, x14_43, x14_46, x14_49, if_pos, if_neg, ↓reduceIte, not_true_eq_false, not_false_eq_true]
  | succ k ih =>
    intro j m τ hj m0 h1 h2 h3 h4
    have b0 := h3 0 (by omega)
    rw [show m + ((0 : Nat) : Int) = m by omega, Nat.add_zero] at b0
    have bc := bt_c (w := w) (s := 24 - 8 * (j : Int)) (by omega)
    have e3 : su τ 86 (n + m) (g m) 0 3 = n + m := by rw [su_ne (by omega)]; exact h1
    obtain ⟨ρ, r1, r2, r3, r4⟩ := ih (j + 1) (m + 1) (su (su τ 86 (n + m) (g m)) 0 3 (n + m + 1)) (by omega) (by omega) (by rw [su_eq]; omega) (by rw [su_ne (by omega)]; exact upT_s m0 h2) (fun i hi => by
      have := h3 (i + 1) (by omega)
      rw [show m + 1 + (i : Int) = m + ((i + 1 : Nat) : Int) by omega, this, show j + 1 + i = j + (i + 1) by omega]) (by omega)
    refine ⟨ρ, fun c a b => by rw [r1 c a b, su_ne a, su_ne b], by rw [r2]; omega, by rw [r3]; congr 1; omega, fun u Q => ?_⟩
    rw [← r4 u Q, x14_3, b0]
    rw [b0] at e3
    have es : 24 - 8 * (j : Int) + -8 = 24 - 8 * ((j + 1 : Nat) : Int) := by omega
    simp (disch := first | assumption | omega | exact notL_I | exact notL_N | exact notL_R | exact catS_le (Nat.le_of_ble_eq_true rfl) | exact Nat.le_of_ble_eq_true rfl | exact ooRo (by assumption) | exact ooAt (by assumption) | exact ooRu (by assumption) | exact ooLo (by assumption) | exact ooHa (by assumption) | exact ooLe (by assumption) | exact ooFn | exact ooAn | exact ooPa | exact ooTo | exact ooWa | exact ooCh | rfl) only [x14_0, x14_2, x14_4, x14_7, x14_8, x14_11, x14_14, x14_17, x14_18, x14_21, x14_22, x14_25, x14_26, x14_27, x14_28, x14_31, x14_32, x14_33, x14_34I, x14_34, x14_35, x14_38, x14_39, x14_40, x14_43, x14_46, x14_49, gCh_tapeLength, gCh_tape, WCh_tape, pCh_tapeLength, h1, bc, e3, es, if_pos, if_neg, ↓reduceIte, not_true_eq_false, not_false_eq_true]
theorem s_apB {w m : Int} {τ : St} (n0 : 0 ≤ n) (m0 : 0 ≤ m) (h1 : τ 0 3 = n + m) (h2 : τ 86 = upT f n m g) (h3 : ∀ i : Nat, i < 4 → g (m + i) = bt w (24 - 8 * (i : Int))) (h4 : n + m + 4 ≤ 1000) :
    ∃ ρ, (∀ c, c ≠ 0 → c ≠ 86 → ρ c = τ c) ∧ ρ 0 3 = n + (m + 4) ∧ ρ 86 = upT f n (m + 4) g ∧ RnA sc d 14 0 [some (vR 0), some (vI w), none] τ none ρ := by
  obtain ⟨ρ, r1, r2, r3, r4⟩ := l_apB (sc := sc) (d := d) (f := f) (g := g) (w := w) n0 4 0 m τ (by omega) m0 h1 h2 (fun i hi => by rw [h3 i hi, Nat.zero_add]) (by omega)
  refine ⟨ρ, r1, by rw [r2]; omega, r3, fun u Q => ?_⟩
  have := r4 u Q
  rw [show (24 : Int) - 8 * ((0 : Nat) : Int) = 24 by omega] at this
  rw [← this]
  simp (disch := first | assumption | omega | exact notL_I | exact notL_N | exact notL_R | exact catS_le (Nat.le_of_ble_eq_true rfl) | exact Nat.le_of_ble_eq_true rfl | exact ooRo (by assumption) | exact ooAt (by assumption) | exact ooRu (by assumption) | exact ooLo (by assumption) | exact ooHa (by assumption) | exact ooLe (by assumption) | exact ooFn | exact ooAn | exact ooPa | exact ooTo | exact ooWa | exact ooCh | rfl) only [x14_0, x14_2, x14_4, x14_7, x14_8, x14_11, x14_14, x14_17, x14_18, x14_21, x14_22, x14_25, x14_26, x14_27, x14_28, x14_31, x14_32, x14_33, x14_34I, x14_34, x14_35, x14_38, x14_39, x14_40, x14_43, x14_46, x14_49]
theorem l_fdR {w1 w2 w3 w4 w5 : Int} (n0 : 0 ≤ n) (n1 : n + 20 ≤ 1000) : ∀ (k i : Nat) (τ : St) (l7 : Option V), i + k = 20 → τ 373 14 = n + i → τ 386 = upT f n i (gF w1 w2 w3 w4 w5) →
    ∃ ρ, (∀ c, c ≠ 373 → c ≠ 386 → ρ c = τ c) ∧ (∀ j, j ≠ 14 → ρ 373 j = τ 373 j) ∧ ρ 373 14 = n + 20 ∧ ρ 386 = upT f n 20 (gF w1 w2 w3 w4 w5) ∧ ∀ (u : Bool × Nat × Nat × Int) (Q : Rs → HS → Prop), Ex sc d 178 23 [some (vR 373), some (vI w1), some (vI w2), some (vI w3), some (vI w4), some (vI w5), some (vI ((i : Int))), l7] [] (wH τ u) Q ↔ Q (.inl (some (vI (n + 20)))) (wH ρ u) := by
  intro k
  induction k with
  | zero =>
    intro i τ l7 hi h1 h2
    have ei : (i : Int) = 20 := by omega
    rw [ei] at h1 h2
    refine ⟨τ, fun _ _ _ => rfl, fun _ _ => rfl, h1, h2, fun u Q => ?_⟩
    rw [x178_23]
    simp (disch := first | omega | exact notL_I | exact notL_N | exact notL_R | exact oM | exact catS_le (Nat.le_of_ble_eq_true rfl) | exact Nat.le_of_ble_eq_true rfl | rfl) only [x178_0, x178_1, x178_2, x178_5, x178_6, x178_9, x178_11, x178_12, x178_15, x178_18, x178_19, x178_20, x178_21, x178_25, x178_27, x178_30, x178_32, x178_33, x178_36, x178_37, x178_40, x178_42, x178_44, x178_47, x178_48, x178_51, x178_53, x178_55, x178_58, x178_59, x178_62, x178_64, x178_66, x178_69, x178_71, x178_74, x178_76, x178_78, x178_79, x178_82, x178_83, x178_86, x178_88, x178_90, x178_92, x178_94, x178_95, x178_96, x178_97, x178_98, x178_99, x178_102, x178_103, x178_104, x178_105I, x178_105, x178_106, x178_109, x178_110, x178_111, x178_114, x178_117, x178_120, x178_121, x178_124, gM_taped, h1, if_pos, if_neg, ↓reduceIte, not_true_eq_false, not_false_eq_true]
  | succ k ih =>
    intro i τ l7 hi h1 h2
    have e14 : su τ 386 (n + i) (gF w1 w2 w3 w4 w5 i) 373 14 = n + i := by rw [su_ne (by omega)]; exact h1
    have ei : ((i + 1 : Nat) : Int) = (i : Int) + 1 := by omega
    have go : ∀ w : Int, (∀ (u : Bool × Nat × Nat × Int) (Q : Rs → HS → Prop), Ex sc d 178 23 [some (vR 373), some (vI w1), some (vI w2), some (vI w3), some (vI w4), some (vI w5), some (vI ((i : Int))), l7] [] (wH τ u) Q ↔ Ex sc d 178 78 [some (vR 373), some (vI w1), some (vI w2), some (vI w3), some (vI w4), some (vI w5), some (vI ((i : Int))), some (vI w)] [] (wH τ u) Q) → gF w1 w2 w3 w4 w5 i = bt w (24 - 8 * ((i : Int) % 4)) →
        ∃ ρ, (∀ c, c ≠ 373 → c ≠ 386 → ρ c = τ c) ∧ (∀ j, j ≠ 14 → ρ 373 j = τ 373 j) ∧ ρ 373 14 = n + 20 ∧ ρ 386 = upT f n 20 (gF w1 w2 w3 w4 w5) ∧ ∀ (u : Bool × Nat × Nat × Int) (Q : Rs → HS → Prop), Ex sc d 178 23 [some (vR 373), some (vI w1), some (vI w2), some (vI w3), some (vI w4), some (vI w5), some (vI ((i : Int))), l7] [] (wH τ u) Q ↔ Q (.inl (some (vI (n + 20)))) (wH ρ u) := by
      intro w st eg
      obtain ⟨ρ, r1, r2, r3, r4, r5⟩ := ih (i + 1) (su (su τ 386 (n + i) (gF w1 w2 w3 w4 w5 i)) 373 14 (n + i + 1)) (some (vI w)) (by omega) (by rw [su_eq]; omega) (by rw [su_ne (by omega), ei]; exact upT_s (by omega) h2)
      refine ⟨ρ, fun c a b => by rw [r1 c a b, su_ne a, su_ne b], fun j hj => by rw [r2 j hj, su_off hj, su_ne (by omega)], r3, r4, fun u Q => ?_⟩
      have bb : (Int32.ofInt (Int32.ofInt w >>> (Int32.ofInt (24 - 8 * ((i : Int) % 4)) &&& 31)).toInt &&& Int32.ofInt 255).toInt = gF w1 w2 w3 w4 w5 i := eg.symm
      have gb : 0 ≤ gF w1 w2 w3 w4 w5 i ∧ gF w1 w2 w3 w4 w5 i ≤ 255 := bt_b
      generalize gF w1 w2 w3 w4 w5 i = G at *
      rw [st u Q, ← r5 u Q, x178_78, ei]
      simp (disch := first | omega | exact notL_I | exact notL_N | exact notL_R | exact oM | exact catS_le (Nat.le_of_ble_eq_true rfl) | exact Nat.le_of_ble_eq_true rfl | rfl) only [x178_0, x178_1, x178_2, x178_5, x178_6, x178_9, x178_11, x178_12, x178_15, x178_18, x178_19, x178_20, x178_21, x178_25, x178_27, x178_30, x178_32, x178_33, x178_36, x178_37, x178_40, x178_42, x178_44, x178_47, x178_48, x178_51, x178_53, x178_55, x178_58, x178_59, x178_62, x178_64, x178_66, x178_69, x178_71, x178_74, x178_76, x178_79, x178_82, x178_83, x178_86, x178_88, x178_90, x178_92, x178_94, x178_95, x178_96, x178_97, x178_98, x178_99, x178_102, x178_103, x178_104, x178_105I, x178_105, x178_106, x178_109, x178_110, x178_111, x178_114, x178_117, x178_120, x178_121, x178_124, gM_taped, gM_tape, WM_tape, pM_taped, h1, bb, e14, if_pos, if_neg, ↓reduceIte, not_true_eq_false, not_false_eq_true]
    by_cases q4 : (i : Int) < 4
    · exact go w1 (fun u Q => by rw [x178_23]; simp (disch := first | omega | exact notL_I | exact notL_N | exact notL_R | exact oM | exact catS_le (Nat.le_of_ble_eq_true rfl) | exact Nat.le_of_ble_eq_true rfl | rfl) only [x178_0, x178_1, x178_2, x178_5, x178_6, x178_9, x178_11, x178_12, x178_15, x178_18, x178_19, x178_20, x178_21, x178_25, x178_27, x178_30, x178_32, x178_33, x178_36, x178_37, x178_40, x178_42, x178_44, x178_47, x178_48, x178_51, x178_53, x178_55, x178_58, x178_59, x178_62, x178_64, x178_66, x178_69, x178_71, x178_74, x178_76, x178_79, x178_82, x178_83, x178_86, x178_88, x178_90, x178_92, x178_94, x178_95, x178_96, x178_97, x178_98, x178_99, x178_102, x178_103, x178_104, x178_105I, x178_105, x178_106, x178_109, x178_110, x178_111, x178_114, x178_117, x178_120, x178_121, x178_124, if_pos, if_neg, ↓reduceIte, not_true_eq_false, not_false_eq_true]) (by unfold gF; rw [if_pos q4])
    · by_cases q8 : (i : Int) < 8
      · exact go w2 (fun u Q => by rw [x178_23]; simp (disch := first | omega | exact notL_I | exact notL_N | exact notL_R | exact oM | exact catS_le (Nat.le_of_ble_eq_true rfl) | exact Nat.le_of_ble_eq_true rfl | rfl) only [x178_0, x178_1, x178_2, x178_5, x178_6, x178_9, x178_11, x178_12, x178_15, x178_18, x178_19, x178_20, x178_21, x178_25, x178_27, x178_30, x178_32, x178_33, x178_36, x178_37, x178_40, x178_42, x178_44, x178_47, x178_48, x178_51, x178_53, x178_55, x178_58, x178_59, x178_62, x178_64, x178_66, x178_69, x178_71, x178_74, x178_76, x178_79, x178_82, x178_83, x178_86, x178_88, x178_90, x178_92, x178_94, x178_95, x178_96, x178_97, x178_98, x178_99, x178_102, x178_103, x178_104, x178_105I, x178_105, x178_106, x178_109, x178_110, x178_111, x178_114, x178_117, x178_120, x178_121, x178_124, if_pos, if_neg, ↓reduceIte, not_true_eq_false, not_false_eq_true]) (by unfold gF; rw [if_neg q4, if_pos q8])
      · by_cases q12 : (i : Int) < 12
        · exact go w3 (fun u Q => by rw [x178_23]; simp (disch := first | omega | exact notL_I | exact notL_N | exact notL_R | exact oM | exact catS_le (Nat.le_of_ble_eq_true rfl) | exact Nat.le_of_ble_eq_true rfl | rfl) only [x178_0, x178_1, x178_2, x178_5, x178_6, x178_9, x178_11, x178_12, x178_15, x178_18, x178_19, x178_20, x178_21, x178_25, x178_27, x178_30, x178_32, x178_33, x178_36, x178_37, x178_40, x178_42, x178_44, x178_47, x178_48, x178_51, x178_53, x178_55, x178_58, x178_59, x178_62, x178_64, x178_66, x178_69, x178_71, x178_74, x178_76, x178_79, x178_82, x178_83, x178_86, x178_88, x178_90, x178_92, x178_94, x178_95, x178_96, x178_97, x178_98, x178_99, x178_102, x178_103, x178_104, x178_105I, x178_105, x178_106, x178_109, x178_110, x178_111, x178_114, x178_117, x178_120, x178_121, x178_124, if_pos, if_neg, ↓reduceIte, not_true_eq_false, not_false_eq_true]) (by unfold gF; rw [if_neg q4, if_neg q8, if_pos q12])
        · by_cases q16 : (i : Int) < 16
          · exact go w4 (fun u Q => by rw [x178_23]; simp (disch := first | omega | exact notL_I | exact notL_N | exact notL_R | exact oM | exact catS_le (Nat.le_of_ble_eq_true rfl) | exact Nat.le_of_ble_eq_true rfl | rfl) only [x178_0, x178_1, x178_2, x178_5, x178_6, x178_9, x178_11, x178_12, x178_15, x178_18, x178_19, x178_20, x178_21, x178_25, x178_27, x178_30, x178_32, x178_33, x178_36, x178_37, x178_40, x178_42, x178_44, x178_47, x178_48, x178_51, x178_53, x178_55, x178_58, x178_59, x178_62, x178_64, x178_66, x178_69, x178_71, x178_74, x178_76, x178_79, x178_82, x178_83, x178_86, x178_88, x178_90, x178_92, x178_94, x178_95, x178_96, x178_97, x178_98, x178_99, x178_102, x178_103, x178_104, x178_105I, x178_105, x178_106, x178_109, x178_110, x178_111, x178_114, x178_117, x178_120, x178_121, x178_124, if_pos, if_neg, ↓reduceIte, not_true_eq_false, not_false_eq_true]) (by unfold gF; rw [if_neg q4, if_neg q8, if_neg q12, if_pos q16])
          · exact go w5 (fun u Q => by rw [x178_23]; simp (disch := first | omega | exact notL_I | exact notL_N | exact notL_R | exact oM | exact catS_le (Nat.le_of_ble_eq_true rfl) | exact Nat.le_of_ble_eq_true rfl | rfl) only [x178_0, x178_1, x178_2, x178_5, x178_6, x178_9, x178_11, x178_12, x178_15, x178_18, x178_19, x178_20, x178_21, x178_25, x178_27, x178_30, x178_32, x178_33, x178_36, x178_37, x178_40, x178_42, x178_44, x178_47, x178_48, x178_51, x178_53, x178_55, x178_58, x178_59, x178_62, x178_64, x178_66, x178_69, x178_71, x178_74, x178_76, x178_79, x178_82, x178_83, x178_86, x178_88, x178_90, x178_92, x178_94, x178_95, x178_96, x178_97, x178_98, x178_99, x178_102, x178_103, x178_104, x178_105I, x178_105, x178_106, x178_109, x178_110, x178_111, x178_114, x178_117, x178_120, x178_121, x178_124, if_pos, if_neg, ↓reduceIte, not_true_eq_false, not_false_eq_true]) (by unfold gF; rw [if_neg q4, if_neg q8, if_neg q12, if_neg q16])
set_option maxHeartbeats 1000000 in
theorem op_feed {σ : St} {A : AS} {w1 w2 w3 w4 w5 : Int} (hd : 100 ≤ d) (V : VV A σ) : Lk sc d 13 [some (vR 0), some (vI w1), some (vI w2), some (vI w3), some (vI w4), some (vI w5)] 178 [some (vR 373), some (vI w1), some (vI w2), some (vI w3), some (vI w4), some (vI w5), none, none] σ := by
  obtain ⟨⟨c1, c2, c3, c4, c5, c6, c7⟩, ⟨r1, r2, r3, r4, r5, r6, r7, r8⟩, o⟩ := id V
  have on := o.2.1
  have e14 : su σ 373 0 0 373 14 = A.2.1.1 := by rw [su_off (by omega)]; exact r3.1
  by_cases h : A.2.1.1 + 20 ≤ 1000
  · obtain ⟨τ1, a1, a2, a3, a4⟩ := s_apB (sc := sc) (d := d - 1) (f := A.2.1.2) (g := gF w1 w2 w3 w4 w5) (n := A.2.1.1) (w := w1) (m := 0) (τ := σ) on.1 (by omega) (by rw [c3.1]; omega) (by rw [c3.2, upT_0]) (fun i hi => by unfold gF; rw [if_pos (by omega)]; congr 1; omega) (by omega)
    obtain ⟨τ2, b1, b2, b3, b4⟩ := s_apB (sc := sc) (d := d - 1) (f := A.2.1.2) (g := gF w1 w2 w3 w4 w5) (n := A.2.1.1) (w := w2) (m := 0 + 4) (τ := τ1) on.1 (by omega) a2 a3 (fun i hi => by unfold gF; rw [if_neg (by omega), if_pos (by omega)]; congr 1; omega) (by omega)
    obtain ⟨τ3, x1, x2, x3, x4⟩ := s_apB (sc := sc) (d := d - 1) (f := A.2.1.2) (g := gF w1 w2 w3 w4 w5) (n := A.2.1.1) (w := w3) (m := 0 + 4 + 4) (τ := τ2) on.1 (by omega) b2 b3 (fun i hi => by unfold gF; rw [if_neg (by omega), if_neg (by omega), if_pos (by omega)]; congr 1; omega) (by omega)
    obtain ⟨τ4, y1, y2, y3, y4⟩ := s_apB (sc := sc) (d := d - 1) (f := A.2.1.2) (g := gF w1 w2 w3 w4 w5) (n := A.2.1.1) (w := w4) (m := 0 + 4 + 4 + 4) (τ := τ3) on.1 (by omega) x2 x3 (fun i hi => by unfold gF; rw [if_neg (by omega), if_neg (by omega), if_neg (by omega), if_pos (by omega)]; congr 1; omega) (by omega)
    obtain ⟨τ5, z1, z2, z3, z4⟩ := s_apB (sc := sc) (d := d - 1) (f := A.2.1.2) (g := gF w1 w2 w3 w4 w5) (n := A.2.1.1) (w := w5) (m := 0 + 4 + 4 + 4 + 4) (τ := τ4) on.1 (by omega) y2 y3 (fun i hi => by unfold gF; rw [if_neg (by omega), if_neg (by omega), if_neg (by omega), if_neg (by omega)]; congr 1; omega) (by omega)
    have ne : ∀ c, c ≠ 0 → c ≠ 86 → τ5 c = σ c := fun c a b => by rw [z1 c a b, y1 c a b, x1 c a b, b1 c a b, a1 c a b]
    have e20 : (0 : Int) + 4 + 4 + 4 + 4 + 4 = 20 := by omega
    rw [e20] at z2 z3
    obtain ⟨ρ, p1, p2, p3, p4, p5⟩ := l_fdR (sc := sc) (d := d) (f := A.2.1.2) (n := A.2.1.1) (w1 := w1) (w2 := w2) (w3 := w3) (w4 := w4) (w5 := w5) on.1 h 20 0 (su τ5 373 0 0) none (by omega) (by rw [su_off (by omega), ne 373 (by omega) (by omega), r3.1]; omega) (by rw [su_ne (by omega), ne 386 (by omega) (by omega), r3.2, Int.natCast_zero, upT_0])
    have T2 : ∀ k, 0 ≤ k → k ≤ 999 → 0 ≤ upT A.2.1.2 A.2.1.1 20 (gF w1 w2 w3 w4 w5) k ∧ upT A.2.1.2 A.2.1.1 20 (gF w1 w2 w3 w4 w5) k ≤ 255 := by
      intro k k0 k1
      unfold upT
      split
      · exact bt_b
      · exact o.2.2.1 k k0 k1
    have ha : okAS (A.1, (A.2.1.1 + 20, upT A.2.1.2 A.2.1.1 20 (gF w1 w2 w3 w4 w5)), A.2.2.1, A.2.2.2) := ⟨o.1, ⟨by show 0 ≤ A.2.1.1 + 20; omega, h⟩, T2, o.2.2.2⟩
    have hc := V.1.tf (τ := τ5) (T := (A.2.1.1 + 20, upT A.2.1.2 A.2.1.1 20 (gF w1 w2 w3 w4 w5))) (e := A.2.2.1) (fun c hc => ne c (by omega) (by omega)) (c2.1.c (fun c a b => ne c (by omega) (by omega))) (c2.2.c (fun c a b => ne c (by omega) (by omega))) z2 z3 (by rw [ne 87 (by omega) (by omega)]; exact c4.1) (by rw [ne 87 (by omega) (by omega)]; exact c4.2)
    have nr : ∀ c, 373 < c → c ≠ 386 → ρ c = σ c := fun c a b => by rw [p1 c (by omega) b, su_ne (by omega), ne c (by omega) (by omega)]
    have n3 : ∀ j, j ≠ 0 → j ≠ 14 → ρ 373 j = σ 373 j := fun j a b => by rw [p2 j b, su_off a, ne 373 (by omega) (by omega)]
    have hr := V.2.1.tf (τ := ρ) (T := (A.2.1.1 + 20, upT A.2.1.2 A.2.1.1 20 (gF w1 w2 w3 w4 w5))) (e := A.2.2.1) (fun c a b => nr c (by omega) (by omega)) (fun j hj => n3 j (by omega) (by omega)) ha.2.1 T2 p3 p4 (by rw [n3 20 (by omega) (by omega)]; exact r4.1) (by rw [n3 21 (by omega) (by omega)]; exact r4.2)
    refine Lk.ok (v := A.2.1.1 + 20) ⟨by omega, by omega⟩ ha hc hr (fun c hc => by rw [p1 c (by omega) (by omega), su_ne (by omega)]) (by rw [p2 0 (by omega), su_eq]) (fun u Q => ?_) (fun u Q => ?_)
    · unfold RnA at a4 b4 x4 y4 z4
      simp (disch := first | assumption | omega | exact notL_I | exact notL_N | exact notL_R | exact catS_le (Nat.le_of_ble_eq_true rfl) | exact Nat.le_of_ble_eq_true rfl | exact ooRo (by assumption) | exact ooAt (by assumption) | exact ooRu (by assumption) | exact ooLo (by assumption) | exact ooHa (by assumption) | exact ooLe (by assumption) | exact ooFn | exact ooAn | exact ooPa | exact ooTo | exact ooWa | exact ooCh | rfl) only [x13_0, x13_1, x13_4, x13_6, x13_7, x13_10, x13_13, x13_14, x13_15, x13_16, x13_17, x13_20, x13_21, x13_22, x13_25, x13_26, x13_27, x13_30, x13_31, x13_33, x13_36, x13_37, x13_39, x13_42, x13_43, x13_46, gCh_tapeLength, c3.1, a4, b4, x4, y4, z4, z2, Kc_none, if_pos, if_neg, ↓reduceIte, not_true_eq_false, not_false_eq_true]
    · have e14' : su τ5 373 0 0 373 14 = A.2.1.1 := by rw [su_off (by omega), ne 373 (by omega) (by omega)]; exact r3.1
      rw [← p5 u Q]
      simp (disch := first | omega | exact notL_I | exact notL_N | exact notL_R | exact oM | exact catS_le (Nat.le_of_ble_eq_true rfl) | exact Nat.le_of_ble_eq_true rfl | rfl) only [x178_0, x178_1, x178_2, x178_5, x178_6, x178_9, x178_11, x178_12, x178_15, x178_18, x178_19, x178_20, x178_21, x178_25, x178_27, x178_30, x178_32, x178_33, x178_36, x178_37, x178_40, x178_42, x178_44, x178_47, x178_48, x178_51, x178_53, x178_55, x178_58, x178_59, x178_62, x178_64, x178_66, x178_69, x178_71, x178_74, x178_76, x178_78, x178_79, x178_82, x178_83, x178_86, x178_88, x178_90, x178_92, x178_94, x178_95, x178_96, x178_97, x178_98, x178_99, x178_102, x178_103, x178_104, x178_105I, x178_105, x178_106, x178_109, x178_110, x178_111, x178_114, x178_117, x178_120, x178_121, x178_124, pM_thrown, gM_taped, e14', Int.natCast_zero, if_pos, if_neg, ↓reduceIte, not_true_eq_false, not_false_eq_true]
  · refine Lk.eq V ⟨by decide, by decide⟩ (v := -1) (fun u Q => ?_) (fun u Q => ?_)
    · simp (disch := first | assumption | omega | exact notL_I | exact notL_N | exact notL_R | exact catS_le (Nat.le_of_ble_eq_true rfl) | exact Nat.le_of_ble_eq_true rfl | exact ooRo (by assumption) | exact ooAt (by assumption) | exact ooRu (by assumption) | exact ooLo (by assumption) | exact ooHa (by assumption) | exact ooLe (by assumption) | exact ooFn | exact ooAn | exact ooPa | exact ooTo | exact ooWa | exact ooCh | rfl) only [x13_0, x13_1, x13_4, x13_6, x13_7, x13_10, x13_13, x13_14, x13_15, x13_16, x13_17, x13_20, x13_21, x13_22, x13_25, x13_26, x13_27, x13_30, x13_31, x13_33, x13_36, x13_37, x13_39, x13_42, x13_43, x13_46, gCh_tapeLength, c3.1, if_pos, if_neg, ↓reduceIte, not_true_eq_false, not_false_eq_true]
    · simp (disch := first | omega | exact notL_I | exact notL_N | exact notL_R | exact oM | exact catS_le (Nat.le_of_ble_eq_true rfl) | exact Nat.le_of_ble_eq_true rfl | rfl) only [x178_0, x178_1, x178_2, x178_5, x178_6, x178_9, x178_11, x178_12, x178_15, x178_18, x178_19, x178_20, x178_21, x178_25, x178_27, x178_30, x178_32, x178_33, x178_36, x178_37, x178_40, x178_42, x178_44, x178_47, x178_48, x178_51, x178_53, x178_55, x178_58, x178_59, x178_62, x178_64, x178_66, x178_69, x178_71, x178_74, x178_76, x178_78, x178_79, x178_82, x178_83, x178_86, x178_88, x178_90, x178_92, x178_94, x178_95, x178_96, x178_97, x178_98, x178_99, x178_102, x178_103, x178_104, x178_105I, x178_105, x178_106, x178_109, x178_110, x178_111, x178_114, x178_117, x178_120, x178_121, x178_124, pM_thrown, gM_taped, e14, if_pos, if_neg, ↓reduceIte, not_true_eq_false, not_false_eq_true]
end O2
