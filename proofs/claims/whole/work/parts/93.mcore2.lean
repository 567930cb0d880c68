/-! the core of the reference: the search -/
def cF (C : Int → Int) (B : Nat) (L S : List Rw) : Option (List Rw) := if (shrF C L S).1 = 0 then some L else if (shrF C L S).1 = 1 then coreF C (B - 1) (shrF C L S).2 else none
theorem cF_core {C : Int → Int} {B : Nat} {L : List Rw} (h : L.length ≤ B) : cF C B L L = coreF C B L := by
  unfold cF
  cases B with
  | zero =>
    obtain rfl : L = [] := List.length_eq_zero_iff.mp (by omega)
    rfl
  | succ B =>
    rw [coreF, Nat.add_sub_cancel]
theorem rs_memI {σ : St} {h : Int} {w : Rw} : ∀ (k : Nat) (n : Int), w ∈ rsF σ h k n ↔ ∃ i, n ≤ i ∧ i < n + k ∧ σ 377 (200 * h + i) = 1 ∧ w = rwR σ h i := by
  intro k
  induction k with
  | zero =>
    intro n
    constructor
    · intro z; cases z
    · rintro ⟨i, a, b, _⟩
      omega
  | succ k ih =>
    intro n
    rw [rsF]
    constructor
    · intro hw
      split at hw
      · rename_i ht
        rcases List.mem_cons.mp hw with rfl | hw
        · exact ⟨n, by omega, by omega, ht, rfl⟩
        · obtain ⟨i, a, b, c⟩ := (ih (n + 1)).mp hw
          exact ⟨i, by omega, by omega, c⟩
      · obtain ⟨i, a, b, c⟩ := (ih (n + 1)).mp hw
        exact ⟨i, by omega, by omega, c⟩
    · rintro ⟨i, a, b, c, rfl⟩
      by_cases e : i = n
      · subst e
        rw [if_pos c]
        exact List.mem_cons_self
      · have := (ih (n + 1)).mpr ⟨i, by omega, by omega, c, rfl⟩
        split
        · exact List.mem_cons_of_mem _ this
        · exact this
/-- what the search may change -/
def Fc (σ τ : St) : Prop := (∀ c, c ≠ 373 → c ≠ 377 → c ≠ 394 → c ≠ 395 → c ≠ 397 → τ c = σ c) ∧ (∀ j, j ≠ 36 → τ 373 j = σ 373 j) ∧ (∀ j, j < 600 ∨ 800 ≤ j → τ 377 j = σ 377 j) ∧ ∀ j, 600 ≤ j → j < 800 → (τ 377 j = 0 ∨ τ 377 j = 1) ∧ (τ 377 j = 1 → σ 377 j = 1)
theorem Fc.refl {σ : St} (W : WfM σ) : Fc σ σ := ⟨fun _ _ _ _ _ _ => rfl, fun _ _ => rfl, fun _ _ => rfl, fun j j0 j1 => ⟨W.p7 j (by omega) (by omega), id⟩⟩
theorem Fc.fd {σ τ ρ : St} (h1 : Fc σ τ) (h2 : Fld τ ρ) : Fc σ ρ := ⟨fun c a b e f g => (h2.1 c a e f).trans (h1.1 c a b e f g), fun j a => (h2.2 j a).trans (h1.2.1 j a), fun j a => by rw [h2.1 377 (by omega) (by omega) (by omega)]; exact h1.2.2.1 j a, fun j a b => by rw [h2.1 377 (by omega) (by omega) (by omega)]; exact h1.2.2.2 j a b⟩
theorem Fc.wf {σ τ : St} (F : Fc σ τ) (W : WfM σ) : WfM τ := by
  have e : ∀ c, 374 ≤ c → c ≤ 386 → c ≠ 377 → τ c = σ c := fun c a b n => F.1 c (by omega) n (by omega) (by omega) (by omega)
  refine ⟨?_, ?_, ?_, fun j a b => ?_, ?_, ?_, ?_, ?_, ?_, ?_, ?_, ?_, ?_⟩
  · rw [e 374 (by omega) (by omega) (by omega)]; exact W.1
  · rw [e 375 (by omega) (by omega) (by omega)]; exact W.2.1
  · rw [e 376 (by omega) (by omega) (by omega)]; exact W.2.2.1
  · by_cases c : 600 ≤ j ∧ j < 800
    · exact (F.2.2.2 j c.1 c.2).1
    · rw [F.2.2.1 j (by omega)]
      exact W.p7 j a b
  · rw [e 378 (by omega) (by omega) (by omega)]; exact W.2.2.2.2.1
  · rw [e 379 (by omega) (by omega) (by omega)]; exact W.2.2.2.2.2.1
  · rw [e 380 (by omega) (by omega) (by omega)]; exact W.2.2.2.2.2.2.1
  · rw [e 381 (by omega) (by omega) (by omega)]; exact W.2.2.2.2.2.2.2.1
  · rw [e 382 (by omega) (by omega) (by omega)]; exact W.2.2.2.2.2.2.2.2.1
  · rw [e 383 (by omega) (by omega) (by omega)]; exact W.2.2.2.2.2.2.2.2.2.1
  · rw [e 385 (by omega) (by omega) (by omega)]; exact W.2.2.2.2.2.2.2.2.2.2.1
  · rw [e 386 (by omega) (by omega) (by omega)]; exact W.2.2.2.2.2.2.2.2.2.2.2.1
  · rw [F.2.1 14 (by omega)]; exact W.2.2.2.2.2.2.2.2.2.2.2.2
theorem Fc.rw_ {σ τ : St} (F : Fc σ τ) {h n : Int} : rwR τ h n = rwR σ h n := by
  unfold rwR
  rw [F.1 374 (by omega) (by omega) (by omega) (by omega) (by omega), F.1 378 (by omega) (by omega) (by omega) (by omega) (by omega), F.1 379 (by omega) (by omega) (by omega) (by omega) (by omega)]
theorem cL_fl {σ : St} : cL ((fl σ 394 0 100 (-1)) 394) = bd0 := by
  funext v
  unfold cL bd0
  split
  · rw [fl_at, if_pos (by omega)]
  · rfl
theorem gdL_fl {σ : St} : gdL ((fl σ 394 0 100 (-1)) 394) := fun v v0 v1 => by
  rw [fl_at, if_pos (by omega)]
  omega
section J2
variable {sc : Scr} {h : Int}
set_option maxHeartbeats 2000000 in
theorem l_coreR {σ1 : St} {d : Nat} (W1 : WfM σ1) (hd : 50 ≤ d) (hcol : ∀ n, 0 ≤ n → n < σ1 381 3 → σ1 377 (600 + n) = 1 → 1 ≤ σ1 374 (78 + σ1 378 (600 + n))) : ∀ (B k : Nat) (n wt : Int) (τ : St), (rsR τ 3).length ≤ B → B ≤ 40 → Fc σ1 τ → 0 ≤ n → n + k = σ1 381 3 →
    ∃ ρ, Fc σ1 ρ ∧ (cF (coR σ1 3) B (rsR τ 3) (rsF τ 3 k n) = none → ∀ (u : Bool × Nat × Nat × Int) (Q : Rs → HS → Prop) (l4 l5 : Option V), Ex sc d 261 23 [some (vR 373), some (vI h), some (vI wt), some (vI n), l4, l5] [] (wH τ u) Q ↔ Q (.inl (some (vI (-1)))) (wH ρ u)) ∧ ∀ M, cF (coR σ1 3) B (rsR τ 3) (rsF τ 3 k n) = some M → rsR ρ 3 = M ∧ ∀ (u : Bool × Nat × Nat × Int) (Q : Rs → HS → Prop) (l4 l5 : Option V), ∃ l5', Ex sc d 261 23 [some (vR 373), some (vI h), some (vI wt), some (vI n), l4, l5] [] (wH τ u) Q ↔ Ex sc d 261 215 [some (vR 373), some (vI h), some (vI (wt + ((rsR τ 3).length - M.length : Int))), some (vI (σ1 381 3)), some (vI 0), l5'] [] (wH ρ u) Q := by
  have wn := W1.nxt (h := 3) (by omega) (by omega)
  intro B
  induction B with
  | zero =>
    intro k
    induction k with
    | zero =>
      intro n wt τ hL hB F n0 nk
      have er : rsR τ 3 = [] := List.length_eq_zero_iff.mp (by omega)
      have e81 : τ 381 = σ1 381 := F.1 381 (by omega) (by omega) (by omega) (by omega) (by omega)
      rw [er]
      obtain rfl : n = σ1 381 3 := by omega
      refine ⟨τ, F, (fun z => by cases z), fun M hM => ⟨by rw [er]; exact Option.some.inj hM, fun u Q l4 l5 => ⟨l5, ?_⟩⟩⟩
      have : M = [] := (Option.some.inj hM).symm
      subst this
      rw [x261_23]
      simp (disch := first | omega | exact notL_I | exact notL_N | exact notL_R | exact oM | exact catS_le (Nat.le_of_ble_eq_true rfl) | exact Nat.le_of_ble_eq_true rfl | rfl) only [x261_0, x261_1, x261_2, x261_5, x261_8, x261_11, x261_12, x261_13, x261_14, x261_15, x261_16, x261_19, x261_20, x261_21, x261_22, x261_24, x261_25, x261_28, x261_29, x261_30, x261_33, x261_34, x261_35, x261_36, x261_39, x261_42, x261_45, x261_48, x261_49, x261_52, x261_53, x261_54, x261_55, x261_56, x261_57, x261_60, x261_62, x261_64, x261_65, x261_68, x261_69, x261_70, x261_72, x261_75, x261_78, x261_81, x261_82, x261_86, x261_89, x261_92, x261_93, x261_96, x261_98, x261_99, x261_100, x261_103, x261_106, x261_107, x261_111, x261_112, x261_115, x261_116, x261_117, x261_120, x261_121, x261_122, x261_124, x261_127, x261_130, x261_131, x261_134, x261_135, x261_138, x261_140, x261_141, x261_142, x261_143, x261_146, x261_149, x261_150, x261_154, x261_155, x261_158, x261_159, x261_160, x261_163, x261_164, x261_165, x261_167, x261_170, x261_173, x261_174, x261_177, x261_179, x261_180, x261_183, x261_186, x261_187, x261_190, x261_193, x261_195, x261_196, x261_197, x261_198, x261_201, x261_204, x261_207, x261_208, x261_209, x261_212, x261_213, x261_217, x261_220, x261_223, x261_224, x261_227, x261_230, x261_231, x261_232, x261_234, x261_235, x261_236, x261_239, x261_242, x261_244, x261_245, x261_246, x261_247, x261_250, x261_253, x261_254, gM_nextRow, RM_nextRow, e81, if_pos, if_neg, ↓reduceIte, not_true_eq_false, not_false_eq_true]
      simp
    | succ k ih =>
      intro n wt τ hL hB F n0 nk
      have er : rsR τ 3 = [] := List.length_eq_zero_iff.mp (by omega)
      have e81 : τ 381 = σ1 381 := F.1 381 (by omega) (by omega) (by omega) (by omega) (by omega)
      have Wτ := F.wf W1
      have w3 := Wτ.thr (h := 3) (n := n) (by omega) (by omega) n0 (by omega)
      have hz : τ 377 (200 * 3 + n) = 0 := by
        rcases w3 with w3 | w3
        · exact w3
        · have : rwR τ 3 n ∈ rsR τ 3 := (rs_memI _ 0).mpr ⟨n, n0, by rw [e81]; omega, w3, rfl⟩
          rw [er] at this
          cases this
      have it := fun u Q => s_isThere (sc := sc) (σ := τ) (u := u) (Q := Q) (d := d - 1) (h := 3) (n := n) (by omega) (by omega) n0 (by omega) w3
      obtain ⟨ρ, y1, y2, y3⟩ := ih (n + 1) wt τ hL hB F (by omega) (by omega)
      have es : rsF τ 3 (k + 1) n = rsF τ 3 k (n + 1) := by rw [rsF, if_neg (by omega)]
      rw [es]
      have st : ∀ (u : Bool × Nat × Nat × Int) (Q : Rs → HS → Prop) (l4 l5 : Option V), Ex sc d 261 23 [some (vR 373), some (vI h), some (vI wt), some (vI n), l4, l5] [] (wH τ u) Q ↔ Ex sc d 261 23 [some (vR 373), some (vI h), some (vI wt), some (vI (n + 1)), l4, l5] [] (wH τ u) Q := by
        intro u Q l4 l5
        rw [x261_23]
        simp (disch := first | omega | exact notL_I | exact notL_N | exact notL_R | exact oM | exact catS_le (Nat.le_of_ble_eq_true rfl) | exact Nat.le_of_ble_eq_true rfl | rfl) only [x261_0, x261_1, x261_2, x261_5, x261_8, x261_11, x261_12, x261_13, x261_14, x261_15, x261_16, x261_19, x261_20, x261_21, x261_22, x261_24, x261_25, x261_28, x261_29, x261_30, x261_33, x261_34, x261_35, x261_36, x261_39, x261_42, x261_45, x261_48, x261_49, x261_52, x261_53, x261_54, x261_55, x261_56, x261_57, x261_60, x261_62, x261_64, x261_65, x261_68, x261_69, x261_70, x261_72, x261_75, x261_78, x261_81, x261_82, x261_86, x261_89, x261_92, x261_93, x261_96, x261_98, x261_99, x261_100, x261_103, x261_106, x261_107, x261_111, x261_112, x261_115, x261_116, x261_117, x261_120, x261_121, x261_122, x261_124, x261_127, x261_130, x261_131, x261_134, x261_135, x261_138, x261_140, x261_141, x261_142, x261_143, x261_146, x261_149, x261_150, x261_154, x261_155, x261_158, x261_159, x261_160, x261_163, x261_164, x261_165, x261_167, x261_170, x261_173, x261_174, x261_177, x261_179, x261_180, x261_183, x261_186, x261_187, x261_190, x261_193, x261_195, x261_196, x261_197, x261_198, x261_201, x261_204, x261_207, x261_208, x261_209, x261_212, x261_213, x261_217, x261_220, x261_223, x261_224, x261_227, x261_230, x261_231, x261_232, x261_234, x261_235, x261_236, x261_239, x261_242, x261_244, x261_245, x261_246, x261_247, x261_250, x261_253, x261_254, gM_nextRow, RM_nextRow, e81, it, hz, Kc_some, if_pos, if_neg, ↓reduceIte, not_true_eq_false, not_false_eq_true]
      refine ⟨ρ, y1, fun z u Q l4 l5 => (st u Q l4 l5).trans (y2 z u Q l4 l5), fun M hM => ⟨(y3 M hM).1, fun u Q l4 l5 => ?_⟩⟩
      obtain ⟨l5', y4⟩ := (y3 M hM).2 u Q l4 l5
      exact ⟨l5', (st u Q l4 l5).trans y4⟩
  | succ B ihB =>
    intro k
    induction k with
    | zero =>
      intro n wt τ hL hB F n0 nk
      have e81 : τ 381 = σ1 381 := F.1 381 (by omega) (by omega) (by omega) (by omega) (by omega)
      obtain rfl : n = σ1 381 3 := by omega
      have ex : cF (coR σ1 3) (B + 1) (rsR τ 3) (rsF τ 3 0 (σ1 381 3)) = some (rsR τ 3) := rfl
      rw [ex]
      refine ⟨τ, F, (fun z => by cases z), fun M hM => ⟨Option.some.inj hM, fun u Q l4 l5 => ⟨l5, ?_⟩⟩⟩
      have : M = rsR τ 3 := (Option.some.inj hM).symm
      subst this
      rw [x261_23, Int.sub_self, Int.add_zero]
      simp (disch := first | omega | exact notL_I | exact notL_N | exact notL_R | exact oM | exact catS_le (Nat.le_of_ble_eq_true rfl) | exact Nat.le_of_ble_eq_true rfl | rfl) only [x261_0, x261_1, x261_2, x261_5, x261_8, x261_11, x261_12, x261_13, x261_14, x261_15, x261_16, x261_19, x261_20, x261_21, x261_22, x261_24, x261_25, x261_28, x261_29, x261_30, x261_33, x261_34, x261_35, x261_36, x261_39, x261_42, x261_45, x261_48, x261_49, x261_52, x261_53, x261_54, x261_55, x261_56, x261_57, x261_60, x261_62, x261_64, x261_65, x261_68, x261_69, x261_70, x261_72, x261_75, x261_78, x261_81, x261_82, x261_86, x261_89, x261_92, x261_93, x261_96, x261_98, x261_99, x261_100, x261_103, x261_106, x261_107, x261_111, x261_112, x261_115, x261_116, x261_117, x261_120, x261_121, x261_122, x261_124, x261_127, x261_130, x261_131, x261_134, x261_135, x261_138, x261_140, x261_141, x261_142, x261_143, x261_146, x261_149, x261_150, x261_154, x261_155, x261_158, x261_159, x261_160, x261_163, x261_164, x261_165, x261_167, x261_170, x261_173, x261_174, x261_177, x261_179, x261_180, x261_183, x261_186, x261_187, x261_190, x261_193, x261_195, x261_196, x261_197, x261_198, x261_201, x261_204, x261_207, x261_208, x261_209, x261_212, x261_213, x261_217, x261_220, x261_223, x261_224, x261_227, x261_230, x261_231, x261_232, x261_234, x261_235, x261_236, x261_239, x261_242, x261_244, x261_245, x261_246, x261_247, x261_250, x261_253, x261_254, gM_nextRow, RM_nextRow, e81, if_pos, if_neg, ↓reduceIte, not_true_eq_false, not_false_eq_true]
    | succ k ih =>
      intro n wt τ hL hB F n0 nk
      have e81 : τ 381 = σ1 381 := F.1 381 (by omega) (by omega) (by omega) (by omega) (by omega)
      have e74 : τ 374 = σ1 374 := F.1 374 (by omega) (by omega) (by omega) (by omega) (by omega)
      have e78 : τ 378 = σ1 378 := F.1 378 (by omega) (by omega) (by omega) (by omega) (by omega)
      have Wτ := F.wf W1
      have w3 := Wτ.thr (h := 3) (n := n) (by omega) (by omega) n0 (by omega)
      have it := fun u Q => s_isThere (sc := sc) (σ := τ) (u := u) (Q := Q) (d := d - 1) (h := 3) (n := n) (by omega) (by omega) n0 (by omega) w3
      rcases w3 with hz | hz
      · obtain ⟨ρ, y1, y2, y3⟩ := ih (n + 1) wt τ hL hB F (by omega) (by omega)
        have es : rsF τ 3 (k + 1) n = rsF τ 3 k (n + 1) := by rw [rsF, if_neg (by omega)]
        rw [es]
        have st : ∀ (u : Bool × Nat × Nat × Int) (Q : Rs → HS → Prop) (l4 l5 : Option V), Ex sc d 261 23 [some (vR 373), some (vI h), some (vI wt), some (vI n), l4, l5] [] (wH τ u) Q ↔ Ex sc d 261 23 [some (vR 373), some (vI h), some (vI wt), some (vI (n + 1)), l4, l5] [] (wH τ u) Q := by
          intro u Q l4 l5
          rw [x261_23]
          simp (disch := first | omega | exact notL_I | exact notL_N | exact notL_R | exact oM | exact catS_le (Nat.le_of_ble_eq_true rfl) | exact Nat.le_of_ble_eq_true rfl | rfl) only [x261_0, x261_1, x261_2, x261_5, x261_8, x261_11, x261_12, x261_13, x261_14, x261_15, x261_16, x261_19, x261_20, x261_21, x261_22, x261_24, x261_25, x261_28, x261_29, x261_30, x261_33, x261_34, x261_35, x261_36, x261_39, x261_42, x261_45, x261_48, x261_49, x261_52, x261_53, x261_54, x261_55, x261_56, x261_57, x261_60, x261_62, x261_64, x261_65, x261_68, x261_69, x261_70, x261_72, x261_75, x261_78, x261_81, x261_82, x261_86, x261_89, x261_92, x261_93, x261_96, x261_98, x261_99, x261_100, x261_103, x261_106, x261_107, x261_111, x261_112, x261_115, x261_116, x261_117, x261_120, x261_121, x261_122, x261_124, x261_127, x261_130, x261_131, x261_134, x261_135, x261_138, x261_140, x261_141, x261_142, x261_143, x261_146, x261_149, x261_150, x261_154, x261_155, x261_158, x261_159, x261_160, x261_163, x261_164, x261_165, x261_167, x261_170, x261_173, x261_174, x261_177, x261_179, x261_180, x261_183, x261_186, x261_187, x261_190, x261_193, x261_195, x261_196, x261_197, x261_198, x261_201, x261_204, x261_207, x261_208, x261_209, x261_212, x261_213, x261_217, x261_220, x261_223, x261_224, x261_227, x261_230, x261_231, x261_232, x261_234, x261_235, x261_236, x261_239, x261_242, x261_244, x261_245, x261_246, x261_247, x261_250, x261_253, x261_254, gM_nextRow, RM_nextRow, e81, it, hz, Kc_some, if_pos, if_neg, ↓reduceIte, not_true_eq_false, not_false_eq_true]
        refine ⟨ρ, y1, fun z u Q l4 l5 => (st u Q l4 l5).trans (y2 z u Q l4 l5), fun M hM => ⟨(y3 M hM).1, fun u Q l4 l5 => ?_⟩⟩
        obtain ⟨l5', y4⟩ := (y3 M hM).2 u Q l4 l5
        exact ⟨l5', (st u Q l4 l5).trans y4⟩
      · have es : rsF τ 3 (k + 1) n = rwR τ 3 n :: rsF τ 3 k (n + 1) := by rw [rsF, if_pos hz]
        rw [es]
        -- a lead without it
        have ns := fun u Q => s_noSt (sc := sc) (σ := τ) (u := u) (Q := Q) (d := d - 1)
        have n94 : su (fl τ 394 0 100 (-1)) 373 36 0 394 = (fl τ 394 0 100 (-1)) 394 := su_ne (by omega)
        have F0 : Fld τ (su (fl τ 394 0 100 (-1)) 373 36 0) := ⟨fun c a b _ => by rw [su_ne a, fl_ne b], fun j a => by rw [su_off a, fl_ne (by omega)]⟩
        have c94 : cL (su (fl τ 394 0 100 (-1)) 373 36 0 394) = bd0 := by rw [n94]; exact cL_fl
        have g94 : gdL (su (fl τ 394 0 100 (-1)) 373 36 0 394) := by rw [n94]; exact gdL_fl
        have t36 : su (fl τ 394 0 100 (-1)) 373 36 0 373 36 = ((0 : Nat) : Int) := su_eq
        generalize su (fl τ 394 0 100 (-1)) 373 36 0 = τ0 at *
        have D0 := F0.dt
        have hlc : (rsF τ0 3 (σ1 381 3).toNat 0).length ≤ 40 := by
          rw [D0.rs]
          have : rsF τ 3 (σ1 381 3).toNat 0 = rsR τ 3 := by unfold rsR; rw [e81]
          rw [this]
          omega
        obtain ⟨τ1, q, run⟩ := s_lead (sc := sc) (σ0 := τ0) (h := 3) (to := 3) (bu := n) (D0.wf Wτ) (by omega) (by omega) (by omega) (by omega) ⟨by omega, by omega⟩ (fun i i0 i1 i2 => by
          rw [D0.1 381 (by omega) (by omega), e81] at i1
          rw [D0.1 377 (by omega) (by omega)] at i2
          rw [D0.1 374 (by omega) (by omega), D0.1 378 (by omega) (by omega), e74, e78]
          have := hcol i i0 i1 ((F.2.2.2 (600 + i) (by omega) (by omega)).2 i2)
          exact this) 40 (σ1 381 3).toNat 0 (d - 1) τ0 0 hlc (by omega) (by rw [D0.1 381 (by omega) (by omega), e81]; omega) Fld.refl g94 t36 (by omega) (by omega)
        have eR : rsF τ0 3 (σ1 381 3).toNat 0 = rsR τ 3 := by rw [D0.rs]; unfold rsR; rw [e81]
        have eC : coR τ0 3 = coR σ1 3 := by
          unfold coR
          rw [D0.1 374 (by omega) (by omega), e74]
        have eT : tgR τ0 3 n (τ0 381 3).toNat 0 = (rsR τ 3).filter (fun v => decide (v.1 ≠ (rwR τ 3 n).1)) := by
          unfold tgR
          rw [D0.1 381 (by omega) (by omega), e81, eR]
          rfl
        rw [eR, eC, eT, c94] at q run
        have f3 := lit_fresh (C1 := coR σ1 3) (C2 := coR σ1 3) (T := (rsR τ 3).filter (fun v => decide (v.1 ≠ (rwR τ 3 n).1))) (rsR τ 3) bd0 0
        obtain ⟨q1, q2, q3, q4, q5, q6, q7⟩ := q
        have F1 : Fc σ1 τ1 := F.fd (F0.trans q1)
        have D1 := (F0.trans q1).dt
        unfold cF
        rw [shrF]
        by_cases h0 : (leadF (coR σ1 3) (coR σ1 3) ((rsR τ 3).filter (fun v => decide (v.1 ≠ (rwR τ 3 n).1))) (rsR τ 3) bd0 0).1 = 0
        · rw [if_pos h0]
          have eR1 : rsR τ1 3 = rsR τ 3 := D1.rsr
          obtain ⟨ρ, y1, y2, y3⟩ := ih (n + 1) wt τ1 (by rw [eR1]; exact hL) hB F1 (by omega) (by omega)
          rw [eR1, D1.rs] at y2 y3
          unfold cF at y2 y3
          rw [h0] at run
          have st : ∀ (u : Bool × Nat × Nat × Int) (Q : Rs → HS → Prop) (l4 l5 : Option V), Ex sc d 261 23 [some (vR 373), some (vI h), some (vI wt), some (vI n), l4, l5] [] (wH τ u) Q ↔ Ex sc d 261 23 [some (vR 373), some (vI h), some (vI wt), some (vI (n + 1)), some (vI 0), l5] [] (wH τ1 u) Q := by
            intro u Q l4 l5
            rw [x261_23]
            simp (disch := first | omega | exact notL_I | exact notL_N | exact notL_R | exact oM | exact catS_le (Nat.le_of_ble_eq_true rfl) | exact Nat.le_of_ble_eq_true rfl | rfl) only [x261_0, x261_1, x261_2, x261_5, x261_8, x261_11, x261_12, x261_13, x261_14, x261_15, x261_16, x261_19, x261_20, x261_21, x261_22, x261_24, x261_25, x261_28, x261_29, x261_30, x261_33, x261_34, x261_35, x261_36, x261_39, x261_42, x261_45, x261_48, x261_49, x261_52, x261_53, x261_54, x261_55, x261_56, x261_57, x261_60, x261_62, x261_64, x261_65, x261_68, x261_69, x261_70, x261_72, x261_75, x261_78, x261_81, x261_82, x261_86, x261_89, x261_92, x261_93, x261_96, x261_98, x261_99, x261_100, x261_103, x261_106, x261_107, x261_111, x261_112, x261_115, x261_116, x261_117, x261_120, x261_121, x261_122, x261_124, x261_127, x261_130, x261_131, x261_134, x261_135, x261_138, x261_140, x261_141, x261_142, x261_143, x261_146, x261_149, x261_150, x261_154, x261_155, x261_158, x261_159, x261_160, x261_163, x261_164, x261_165, x261_167, x261_170, x261_173, x261_174, x261_177, x261_179, x261_180, x261_183, x261_186, x261_187, x261_190, x261_193, x261_195, x261_196, x261_197, x261_198, x261_201, x261_204, x261_207, x261_208, x261_209, x261_212, x261_213, x261_217, x261_220, x261_223, x261_224, x261_227, x261_230, x261_231, x261_232, x261_234, x261_235, x261_236, x261_239, x261_242, x261_244, x261_245, x261_246, x261_247, x261_250, x261_253, x261_254, gM_nextRow, RM_nextRow, e81, it, hz, ns, run u, Kc_some, Kc_none, if_pos, if_neg, ↓reduceIte, not_true_eq_false, not_false_eq_true]
          refine ⟨ρ, y1, fun z u Q l4 l5 => (st u Q l4 l5).trans (y2 z u Q _ l5), fun M hM => ⟨(y3 M hM).1, fun u Q l4 l5 => ?_⟩⟩
          obtain ⟨l5', y4⟩ := (y3 M hM).2 u Q (some (vI 0)) l5
          exact ⟨l5', (st u Q l4 l5).trans y4⟩
        · rw [if_neg h0]
          by_cases h1 : (leadF (coR σ1 3) (coR σ1 3) ((rsR τ 3).filter (fun v => decide (v.1 ≠ (rwR τ 3 n).1))) (rsR τ 3) bd0 0).1 = 1
          · rw [if_pos h1]
            dsimp only
            rw [if_neg (by decide), if_pos rfl, Nat.add_sub_cancel]
            obtain ⟨-, qi⟩ := q6 h1
            obtain ⟨li, lm⟩ := lead_im _ _ _ h1
            have hlt := shr_len (C := coR σ1 3) (L := rsR τ 3) [rwR τ 3 n] (fun w hw => by
              rw [List.mem_singleton.mp hw]
              exact (rs_memI _ 0).mpr ⟨n, n0, by rw [e81]; omega, hz, rfl⟩) (by rw [shrF, if_neg h0, if_pos h1])
            rw [shrF, if_neg h0, if_pos h1] at hlt
            dsimp only at hlt
            generalize hX : leadF (coR σ1 3) (coR σ1 3) ((rsR τ 3).filter (fun v => decide (v.1 ≠ (rwR τ 3 n).1))) (rsR τ 3) bd0 0 = X at *
            -- images of rows
            have imgs : ∀ i, 0 ≤ i → i < σ1 381 3 → τ 377 (600 + i) = 1 → ∃ m, m ∈ X.2.2.2 ∧ τ1 395 i = m := by
              intro i i0 i1 i2
              have hm : rwR τ 3 i ∈ rsR τ 3 := (rs_memI _ 0).mpr ⟨i, i0, by rw [e81]; omega, by rw [show (200 : Int) * 3 + i = 600 + i by omega]; exact i2, rfl⟩
              obtain ⟨j, hj, ej⟩ := List.mem_iff_getElem.mp hm
              have hj2 : j < X.2.2.2.length := by omega
              refine ⟨X.2.2.2[j], List.getElem_mem hj2, ?_⟩
              have := qi j (rwR τ 3 i) X.2.2.2[j] (by rw [List.getElem?_eq_getElem hj, ej]) (List.getElem?_eq_getElem hj2)
              exact this
            have imgs2 : ∀ m, m ∈ X.2.2.2 → ∃ i, 0 ≤ i ∧ i < σ1 381 3 ∧ τ 377 (600 + i) = 1 ∧ τ1 395 i = m := by
              intro m hm
              obtain ⟨j, hj, ej⟩ := List.mem_iff_getElem.mp hm
              have hj2 : j < (rsR τ 3).length := by omega
              obtain ⟨i, a, b, c, e⟩ := (rs_memI _ 0).mp (List.getElem_mem hj2)
              have := qi j _ _ (List.getElem?_eq_getElem hj2) (List.getElem?_eq_getElem hj)
              rw [e] at this
              refine ⟨i, a, by rw [e81] at b; omega, by rw [show (600 : Int) + i = 200 * 3 + i by omega]; exact c, ?_⟩
              exact this.trans ej
            have t77 : τ1 377 = τ 377 := D1.1 377 (by omega) (by omega)
            have t81 : τ1 381 = σ1 381 := (D1.1 381 (by omega) (by omega)).trans e81
            have Ff : Fc σ1 (fl τ1 397 0 200 0) := ⟨fun c a b e f g => by rw [fl_ne g]; exact F1.1 c a b e f g, fun j a => by rw [fl_ne (by omega)]; exact F1.2.1 j a, fun j a => by rw [fl_ne (by omega)]; exact F1.2.2.1 j a, fun j a b => by rw [fl_ne (by omega)]; exact F1.2.2.2 j a b⟩
            obtain ⟨τ2, z1, z2, z3⟩ := l_stays1 (sc := sc) (h := h) (σ0 := fl τ1 397 0 200 0) (d := d) (Ff.wf W1) (by omega) (fun i i0 i1 i2 => by
              rw [fl_ne (by omega), t81] at i1
              rw [fl_ne (by omega), t77] at i2
              rw [fl_ne (by omega)]
              obtain ⟨m, hm, em⟩ := imgs i i0 i1 i2
              rw [em]
              obtain ⟨v, hv, ev⟩ := lm m hm
              rw [← ev]
              exact rsR_num Wτ (by omega) (by omega) (List.mem_filter.mp hv).1) (l2 := some (vI wt)) (l3 := some (vI n)) (l4 := some (vI 1)) (σ1 381 3).toNat 0 (fl τ1 397 0 200 0) (by omega) (by rw [fl_ne (by omega), t81]; omega) (fun _ _ => rfl) (fun j j0 j1 => by rw [fl_at, if_pos (by omega)]; exact Or.inl rfl)
            have z1' : ∀ c, c ≠ 397 → τ2 c = τ1 c := fun c hc => (z1 c hc).trans (fl_ne hc)
            have n3 : fl τ1 397 0 200 0 381 3 = σ1 381 3 := by rw [fl_ne (by omega), t81]
            rw [n3] at z3
            have sty : ∀ j, 0 ≤ j → j ≤ 199 → (τ2 397 j = 1 ↔ j ∈ X.2.2.2) := by
              intro j j0 j1
              rw [(z2 j j0 j1).2]
              constructor
              · rintro (z | ⟨i, a, b, c, e⟩)
                · rw [fl_at, if_pos (by omega)] at z
                  cases z
                · rw [n3] at b
                  rw [fl_ne (by omega), t77] at c
                  rw [fl_ne (by omega)] at e
                  obtain ⟨m, hm, em⟩ := imgs i a b c
                  rw [← e, em]
                  exact hm
              · intro hm
                obtain ⟨i, a, b, c, e⟩ := imgs2 j hm
                exact Or.inr ⟨i, a, by rw [n3]; exact b, by rw [fl_ne (by omega), t77]; exact c, by rw [fl_ne (by omega)]; exact e⟩
            have F2 : Fc σ1 τ2 := ⟨fun c a b e f g => by rw [z1' c g]; exact F1.1 c a b e f g, fun j a => by rw [z1' 373 (by omega)]; exact F1.2.1 j a, fun j a => by rw [z1' 377 (by omega)]; exact F1.2.2.1 j a, fun j a b => by rw [z1' 377 (by omega)]; exact F1.2.2.2 j a b⟩
            have W2 := F2.wf W1
            have t281 : τ2 381 3 = σ1 381 3 := by rw [z1' 381 (by omega), t81]
            have gone := fun u Q => l_gone (sc := sc) (h := h) (σ := τ2) (d := d) (u := u) (Q := Q) W2 (by omega) (fun j j0 j1 => (z2 j j0 j1).1) (l3 := some (vI n)) (l4 := some (vI 1)) (σ1 381 3).toNat 0 wt (by omega) (by rw [t281]; omega)
            have er2 : rsF τ2 3 (σ1 381 3).toNat 0 = rsR τ 3 := by
              rw [← eR]
              have D2 : Dt τ0 τ2 := ⟨fun c a b => by rw [z1' c (by omega), D1.1 c a b, D0.1 c a b], by rw [z1' 373 (by omega), D1.2, D0.2]⟩
              rw [D2.rs]
            have flt : (rsR τ 3).filter (fun w => decide (τ2 397 w.1 = 1)) = (rsR τ 3).filter (fun v => decide (v.1 ∈ X.2.2.2)) := by
              apply List.filter_congr
              intro w hw
              have := rsR_num Wτ (h := 3) (by omega) (by omega) hw
              rw [decide_eq_decide]
              exact sty w.1 this.1 this.2
            rw [er2, flt, goS_0, t281] at gone
            have g77 : ∀ j, goS τ2 (σ1 381 3) 377 j = if 600 ≤ j ∧ j < 600 + σ1 381 3 ∧ τ2 397 (j - 600) = 0 then 0 else τ2 377 j := fun j => goS_at
            have F3 : Fc σ1 (goS τ2 (σ1 381 3)) := by
              refine ⟨fun c a b e f g => by rw [goS_ne b]; exact F2.1 c a b e f g, fun j a => by rw [goS_ne (by omega)]; exact F2.2.1 j a, fun j a => ?_, fun j a b => ?_⟩
              · rw [g77, if_neg (by omega)]
                exact F2.2.2.1 j a
              · rw [g77]
                split
                · exact ⟨Or.inl rfl, (fun z => by cases z)⟩
                · exact F2.2.2.2 j a b
            have er3 : rsR (goS τ2 (σ1 381 3)) 3 = (rsR τ 3).filter (fun v => decide (v.1 ∈ X.2.2.2)) := by
              rw [← flt, ← er2]
              unfold rsR
              rw [goS_ne (by omega), t281]
              apply rsF_filter
              intro i i0 i1
              refine ⟨by rw [F3.rw_, F2.rw_], ?_⟩
              have e6 : (200 : Int) * 3 + i = 600 + i := by omega
              rw [e6, g77, show 600 + i - 600 = i by omega]
              have hb := (z2 i i0 (by omega)).1
              have en : (rwR τ2 3 i).1 = i := rfl
              rw [decide_eq_true_eq, en]
              split
              · rename_i z
                rw [z.2.2]
                simp
              · rename_i z
                constructor
                · intro y
                  exact ⟨y, by omega⟩
                · exact fun y => y.1
            obtain ⟨ρ, y1, y2, y3⟩ := ihB (σ1 381 3).toNat 0 (wt + ((rsR τ 3).length - ((rsR τ 3).filter (fun v => decide (v.1 ∈ X.2.2.2))).length : Int)) (goS τ2 (σ1 381 3)) (by rw [er3]; omega) (by omega) F3 (by omega) (by omega)
            have eq3 : rsF (goS τ2 (σ1 381 3)) 3 (σ1 381 3).toNat 0 = rsR (goS τ2 (σ1 381 3)) 3 := by
              unfold rsR
              rw [goS_ne (by omega), t281]
            rw [eq3, cF_core (by rw [er3]; omega), er3] at y2 y3
            rw [h1] at run
            have st : ∀ (u : Bool × Nat × Nat × Int) (Q : Rs → HS → Prop) (l4 l5 : Option V), Ex sc d 261 23 [some (vR 373), some (vI h), some (vI wt), some (vI n), l4, l5] [] (wH τ u) Q ↔ Ex sc d 261 23 [some (vR 373), some (vI h), some (vI (wt + ((rsR τ 3).length - ((rsR τ 3).filter (fun v => decide (v.1 ∈ X.2.2.2))).length : Int))), some (vI 0), some (vI 1), some (vI (σ1 381 3))] [] (wH (goS τ2 (σ1 381 3)) u) Q := by
              intro u Q l4 l5
              have s0 := l_stays0 (sc := sc) (h := h) (σ := τ1) (d := d) (u := u) (Q := Q) (l2 := some (vI wt)) (l3 := some (vI n)) (l4 := some (vI 1)) 200 0 (by omega) (by omega)
              rw [fl_0] at s0
              rw [x261_23]
              simp (disch := first | omega | exact notL_I | exact notL_N | exact notL_R | exact oM | exact catS_le (Nat.le_of_ble_eq_true rfl) | exact Nat.le_of_ble_eq_true rfl | rfl) only [x261_0, x261_1, x261_2, x261_5, x261_8, x261_11, x261_12, x261_13, x261_14, x261_15, x261_16, x261_19, x261_20, x261_21, x261_22, x261_24, x261_25, x261_28, x261_29, x261_30, x261_33, x261_34, x261_35, x261_36, x261_39, x261_42, x261_45, x261_48, x261_49, x261_52, x261_53, x261_54, x261_55, x261_56, x261_57, x261_60, x261_62, x261_64, x261_65, x261_68, x261_69, x261_70, x261_72, x261_75, x261_78, x261_81, x261_82, x261_86, x261_89, x261_92, x261_93, x261_96, x261_98, x261_99, x261_100, x261_103, x261_106, x261_107, x261_111, x261_112, x261_115, x261_116, x261_117, x261_120, x261_121, x261_122, x261_124, x261_127, x261_130, x261_131, x261_134, x261_135, x261_138, x261_140, x261_141, x261_142, x261_143, x261_146, x261_149, x261_150, x261_154, x261_155, x261_158, x261_159, x261_160, x261_163, x261_164, x261_165, x261_167, x261_170, x261_173, x261_174, x261_177, x261_179, x261_180, x261_183, x261_186, x261_187, x261_190, x261_193, x261_195, x261_196, x261_197, x261_198, x261_201, x261_204, x261_207, x261_208, x261_209, x261_212, x261_213, x261_217, x261_220, x261_223, x261_224, x261_227, x261_230, x261_231, x261_232, x261_234, x261_235, x261_236, x261_239, x261_242, x261_244, x261_245, x261_246, x261_247, x261_250, x261_253, x261_254, gM_nextRow, RM_nextRow, e81, it, hz, ns, run u, Kc_some, Kc_none, if_pos, if_neg, ↓reduceIte, not_true_eq_false, not_false_eq_true]
              rw [s0]
              simp (disch := first | omega | exact notL_I | exact notL_N | exact notL_R | exact oM | exact catS_le (Nat.le_of_ble_eq_true rfl) | exact Nat.le_of_ble_eq_true rfl | rfl) only [x261_0, x261_1, x261_2, x261_5, x261_8, x261_11, x261_12, x261_13, x261_14, x261_15, x261_16, x261_19, x261_20, x261_21, x261_22, x261_24, x261_25, x261_28, x261_29, x261_30, x261_33, x261_34, x261_35, x261_36, x261_39, x261_42, x261_45, x261_48, x261_49, x261_52, x261_53, x261_54, x261_55, x261_56, x261_57, x261_60, x261_62, x261_64, x261_65, x261_68, x261_69, x261_70, x261_72, x261_75, x261_78, x261_81, x261_82, x261_86, x261_89, x261_92, x261_93, x261_96, x261_98, x261_99, x261_100, x261_103, x261_106, x261_107, x261_111, x261_112, x261_115, x261_116, x261_117, x261_120, x261_121, x261_122, x261_124, x261_127, x261_130, x261_131, x261_134, x261_135, x261_138, x261_140, x261_141, x261_142, x261_143, x261_146, x261_149, x261_150, x261_154, x261_155, x261_158, x261_159, x261_160, x261_163, x261_164, x261_165, x261_167, x261_170, x261_173, x261_174, x261_177, x261_179, x261_180, x261_183, x261_186, x261_187, x261_190, x261_193, x261_195, x261_196, x261_197, x261_198, x261_201, x261_204, x261_207, x261_208, x261_209, x261_212, x261_213, x261_217, x261_220, x261_223, x261_224, x261_227, x261_230, x261_231, x261_232, x261_234, x261_235, x261_236, x261_239, x261_242, x261_244, x261_245, x261_246, x261_247, x261_250, x261_253, x261_254]
              rw [z3 u Q]
              simp (disch := first | omega | exact notL_I | exact notL_N | exact notL_R | exact oM | exact catS_le (Nat.le_of_ble_eq_true rfl) | exact Nat.le_of_ble_eq_true rfl | rfl) only [x261_0, x261_1, x261_2, x261_5, x261_8, x261_11, x261_12, x261_13, x261_14, x261_15, x261_16, x261_19, x261_20, x261_21, x261_22, x261_24, x261_25, x261_28, x261_29, x261_30, x261_33, x261_34, x261_35, x261_36, x261_39, x261_42, x261_45, x261_48, x261_49, x261_52, x261_53, x261_54, x261_55, x261_56, x261_57, x261_60, x261_62, x261_64, x261_65, x261_68, x261_69, x261_70, x261_72, x261_75, x261_78, x261_81, x261_82, x261_86, x261_89, x261_92, x261_93, x261_96, x261_98, x261_99, x261_100, x261_103, x261_106, x261_107, x261_111, x261_112, x261_115, x261_116, x261_117, x261_120, x261_121, x261_122, x261_124, x261_127, x261_130, x261_131, x261_134, x261_135, x261_138, x261_140, x261_141, x261_142, x261_143, x261_146, x261_149, x261_150, x261_154, x261_155, x261_158, x261_159, x261_160, x261_163, x261_164, x261_165, x261_167, x261_170, x261_173, x261_174, x261_177, x261_179, x261_180, x261_183, x261_186, x261_187, x261_190, x261_193, x261_195, x261_196, x261_197, x261_198, x261_201, x261_204, x261_207, x261_208, x261_209, x261_212, x261_213, x261_217, x261_220, x261_223, x261_224, x261_227, x261_230, x261_231, x261_232, x261_234, x261_235, x261_236, x261_239, x261_242, x261_244, x261_245, x261_246, x261_247, x261_250, x261_253, x261_254]
              rw [gone u Q]
              simp (disch := first | omega | exact notL_I | exact notL_N | exact notL_R | exact oM | exact catS_le (Nat.le_of_ble_eq_true rfl) | exact Nat.le_of_ble_eq_true rfl | rfl) only [x261_0, x261_1, x261_2, x261_5, x261_8, x261_11, x261_12, x261_13, x261_14, x261_15, x261_16, x261_19, x261_20, x261_21, x261_22, x261_24, x261_25, x261_28, x261_29, x261_30, x261_33, x261_34, x261_35, x261_36, x261_39, x261_42, x261_45, x261_48, x261_49, x261_52, x261_53, x261_54, x261_55, x261_56, x261_57, x261_60, x261_62, x261_64, x261_65, x261_68, x261_69, x261_70, x261_72, x261_75, x261_78, x261_81, x261_82, x261_86, x261_89, x261_92, x261_93, x261_96, x261_98, x261_99, x261_100, x261_103, x261_106, x261_107, x261_111, x261_112, x261_115, x261_116, x261_117, x261_120, x261_121, x261_122, x261_124, x261_127, x261_130, x261_131, x261_134, x261_135, x261_138, x261_140, x261_141, x261_142, x261_143, x261_146, x261_149, x261_150, x261_154, x261_155, x261_158, x261_159, x261_160, x261_163, x261_164, x261_165, x261_167, x261_170, x261_173, x261_174, x261_177, x261_179, x261_180, x261_183, x261_186, x261_187, x261_190, x261_193, x261_195, x261_196, x261_197, x261_198, x261_201, x261_204, x261_207, x261_208, x261_209, x261_212, x261_213, x261_217, x261_220, x261_223, x261_224, x261_227, x261_230, x261_231, x261_232, x261_234, x261_235, x261_236, x261_239, x261_242, x261_244, x261_245, x261_246, x261_247, x261_250, x261_253, x261_254]
            refine ⟨ρ, y1, fun z u Q l4 l5 => (st u Q l4 l5).trans (y2 z u Q _ _), fun M hM => ⟨(y3 M hM).1, fun u Q l4 l5 => ?_⟩⟩
            obtain ⟨l5', y4⟩ := (y3 M hM).2 u Q (some (vI 1)) (some (vI (σ1 381 3)))
            refine ⟨l5', (st u Q l4 l5).trans ?_⟩
            rw [show wt + ((rsR τ 3).length - M.length : Int) = wt + ((rsR τ 3).length - ((rsR τ 3).filter (fun v => decide (v.1 ∈ X.2.2.2))).length : Int) + (((rsR τ 3).filter (fun v => decide (v.1 ∈ X.2.2.2))).length - M.length : Int) by omega]
            exact y4
          · rw [if_neg h1]
            have h2 : (leadF (coR σ1 3) (coR σ1 3) ((rsR τ 3).filter (fun v => decide (v.1 ≠ (rwR τ 3 n).1))) (rsR τ 3) bd0 0).1 = 2 := by omega
            dsimp only
            rw [if_neg (by decide), if_neg (by decide)]
            rw [h2] at run
            refine ⟨τ1, F1, fun _ u Q l4 l5 => ?_, (fun M hM => by cases hM)⟩
            rw [x261_23]
            simp (disch := first | omega | exact notL_I | exact notL_N | exact notL_R | exact oM | exact catS_le (Nat.le_of_ble_eq_true rfl) | exact Nat.le_of_ble_eq_true rfl | rfl) only [x261_0, x261_1, x261_2, x261_5, x261_8, x261_11, x261_12, x261_13, x261_14, x261_15, x261_16, x261_19, x261_20, x261_21, x261_22, x261_24, x261_25, x261_28, x261_29, x261_30, x261_33, x261_34, x261_35, x261_36, x261_39, x261_42, x261_45, x261_48, x261_49, x261_52, x261_53, x261_54, x261_55, x261_56, x261_57, x261_60, x261_62, x261_64, x261_65, x261_68, x261_69, x261_70, x261_72, x261_75, x261_78, x261_81, x261_82, x261_86, x261_89, x261_92, x261_93, x261_96, x261_98, x261_99, x261_100, x261_103, x261_106, x261_107, x261_111, x261_112, x261_115, x261_116, x261_117, x261_120, x261_121, x261_122, x261_124, x261_127, x261_130, x261_131, x261_134, x261_135, x261_138, x261_140, x261_141, x261_142, x261_143, x261_146, x261_149, x261_150, x261_154, x261_155, x261_158, x261_159, x261_160, x261_163, x261_164, x261_165, x261_167, x261_170, x261_173, x261_174, x261_177, x261_179, x261_180, x261_183, x261_186, x261_187, x261_190, x261_193, x261_195, x261_196, x261_197, x261_198, x261_201, x261_204, x261_207, x261_208, x261_209, x261_212, x261_213, x261_217, x261_220, x261_223, x261_224, x261_227, x261_230, x261_231, x261_232, x261_234, x261_235, x261_236, x261_239, x261_242, x261_244, x261_245, x261_246, x261_247, x261_250, x261_253, x261_254, gM_nextRow, RM_nextRow, e81, it, hz, ns, run u, Kc_some, Kc_none, if_pos, if_neg, ↓reduceIte, not_true_eq_false, not_false_eq_true]
end J2
