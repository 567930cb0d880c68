/-! leads of the class: forget, seek, reaches -/
def fgL (e : Nat) (σ : St) : St := su (su (fl σ (e + 1) 0 100 (-1)) e 2 0) e 5 0
def FlH (e : Nat) (σ τ : St) : Prop := ∀ c, c < e ∨ e + 4 < c → τ c = σ c
theorem FlG.h {e : Nat} {σ τ : St} (h : FlG e σ τ) : FlH e σ τ := h.1
theorem FlH.trans {e : Nat} {σ τ ρ : St} (h1 : FlH e σ τ) (h2 : FlH e τ ρ) : FlH e σ ρ := fun c a => (h2 c a).trans (h1 c a)
theorem fgL_h {e : Nat} {σ : St} : FlH e σ (fgL e σ) := fun c a => by
  unfold fgL
  rw [su_ne (by omega), su_ne (by omega), fl_ne (by omega)]
theorem fgL_1 {e : Nat} {σ : St} {v : Int} (v0 : 0 ≤ v) (v1 : v < 100) : fgL e σ (e + 1) v = -1 := by
  unfold fgL
  rw [su_ne (by omega), su_ne (by omega), fl_at, if_pos ⟨v0, v1⟩]
theorem fgL_T {e : Nat} {σ : St} : TrL e (fgL e σ) 0 := by
  refine ⟨?_, TrOk.nil (fun v v0 v1 => fgL_1 v0 v1), fun v v0 v1 => by rw [fgL_1 v0 (by omega)]; omega⟩
  unfold fgL
  rw [su_off (by omega), su_eq]
  rfl
theorem bL_0 {e : Nat} {σ : St} : bL e σ 0 = bd0 := by
  funext v
  unfold bL bT
  exact if_neg (fun z => by cases z)
theorem tgC_c {σ τ : St} {r : Nat} {wo p : Int} (h : ∀ c, r ≤ c → c ≤ r + 3 → τ c = σ c) : tgC wo τ r p = tgC wo σ r p := by
  unfold tgC
  rw [h r (by omega) (by omega), rcF_ext (σ := σ) (τ := τ) (r := r) (r' := r) _ _ (fun i _ _ => by unfold rwC; rw [h (r + 1) (by omega) (by omega), h (r + 2) (by omega) (by omega), h (r + 3) (by omega) (by omega)])]
theorem rwC_c {σ τ : St} {r : Nat} {p : Int} (h : ∀ c, r ≤ c → c ≤ r + 3 → τ c = σ c) : rwC τ r p = rwC σ r p := by
  unfold rwC
  rw [h (r + 1) (by omega) (by omega), h (r + 2) (by omega) (by omega), h (r + 3) (by omega) (by omega)]
theorem coC_c {σ τ : St} {b : Nat} (h : τ (b + 1) = σ (b + 1)) : coC τ b = coC σ b := by
  unfold coC
  rw [h]
section L5
variable {sc : Scr} {e b1 b2 : Nat}
theorem s_forgetL {d : Nat} {σ : St} {u : Bool × Nat × Nat × Int} {Q : Rs → HS → Prop} (o : oLe e) (hd : 1 ≤ d) : Ex sc d 137 0 [some (vR e)] [] (wH σ u) Q ↔ Q (.inl none) (wH (fgL e σ) u) := by
  unfold fgL
  simp (disch := first | assumption | omega | exact notL_I | exact notL_N | exact notL_R | exact catS_le (Nat.le_of_ble_eq_true rfl) | exact Nat.le_of_ble_eq_true rfl | exact ooRo (by assumption) | exact ooAt (by assumption) | exact ooRu (by assumption) | exact ooLo (by assumption) | exact ooHa (by assumption) | exact ooLe (by assumption) | exact ooFn | exact ooAn | exact ooPa | exact ooTo | exact ooWa | exact ooCh | rfl) only [x137_0, x137_1, x137_4, x137_5, x137_8, x137_9, x137_10, x137_13, x137_14, x137_15, x137_18, gLe_standsFor, pLe_trailSize, pLe_length, s_fill (sLe_standsFor o).1 (sLe_standsFor o).2 (by decide), Kc_none]
  rfl
/-- the class seeks a lead -/
theorem s_seek {d : Nat} {wo : Int} {σ : St} (o : oLe e) (o1 : oHa b1) (o2 : oHa b2) (f1 : b1 + 83 < e ∨ e + 4 < b1) (f2 : b2 + 83 < e ∨ e + 4 < b2) (hd : 3 ≤ d) (hw : inR wo) (W1 : WfHa σ b1) (W2 : WfHa σ b2) (hT : ∀ w ∈ rsC σ (b1 + 3), ∀ v ∈ rsC σ (b2 + 3), w.2.1 = v.2.1 → coC σ b2 w.2.1 = coC σ b1 w.2.1 → (1000 ≤ w.2.2.1 → v.2.2.1 ≠ -1) ∧ (1000 ≤ w.2.2.2.1 → v.2.2.2.1 ≠ -1) ∧ (1000 ≤ w.2.2.2.2 → v.2.2.2.2 ≠ -1)) :
    ∃ τ, FlH e σ τ ∧ τ e 5 = ((rsC σ (b1 + 3)).length : Int) ∧ LdP e (rsC σ (b1 + 3)) (b2 + 3) σ (leadF (coC σ b1) (coC σ b2) (tgC wo σ (b2 + 3) 0) (rsC σ (b1 + 3)) bd0 0) τ ∧ RnA sc d 136 0 [some (vR e), some (vR b1), some (vR b2), some (vI wo), none, none, none] σ (some (vI (leadF (coC σ b1) (coC σ b2) (tgC wo σ (b2 + 3) 0) (rsC σ (b1 + 3)) bd0 0).1)) τ := by
  have or1 := o1.rows
  have wr1 := W1.2.2.2.1.1
  have wr2 := W2.2.2.2.1.1
  have len1 := rsC_len (σ := σ) (r := b1 + 3) wr1.1
  have en : ∀ (u : Bool × Nat × Nat × Int) (Q : Rs → HS → Prop), Ex sc d 136 0 [some (vR e), some (vR b1), some (vR b2), some (vI wo), none, none, none] [] (wH σ u) Q ↔ Ex sc d 136 38 [some (vR e), some (vR b1), some (vR b2), some (vI wo), some (vI 0), some (vI 0), some (vI 0)] [] (wH (su (su (su (fgL e σ) e 5 (σ (b1 + 3) 0)) (e + 3) 0 (-1)) (e + 4) 0 0) u) Q := by
    intro u Q
    have hc : fgL e σ (b1 + 3) = σ (b1 + 3) := fgL_h _ (by omega)
    simp (disch := first | assumption | omega | exact notL_I | exact notL_N | exact notL_R | exact catS_le (Nat.le_of_ble_eq_true rfl) | exact Nat.le_of_ble_eq_true rfl | exact ooRo (by assumption) | exact ooAt (by assumption) | exact ooRu (by assumption) | exact ooLo (by assumption) | exact ooHa (by assumption) | exact ooLe (by assumption) | exact ooFn | exact ooAn | exact ooPa | exact ooTo | exact ooWa | exact ooCh | rfl) only [x136_0, x136_1, x136_4, x136_5, x136_7, x136_8, x136_10, x136_11, x136_12, x136_15, x136_18, x136_21, x136_22, x136_25, x136_26, x136_27, x136_28, x136_29, x136_32, x136_33, x136_34, x136_35, x136_36, x136_40, x136_42, x136_45, x136_47, x136_50, x136_52, x136_53, x136_56, x136_59, x136_60, x136_61, x136_62, x136_63, x136_66, x136_68, x136_69, x136_72, x136_73, x136_76, x136_78, x136_79, x136_81, x136_82, x136_83, x136_86, x136_88, x136_89, x136_90, x136_91, x136_92, x136_95, x136_96, x136_97, x136_100, x136_102, x136_103, x136_104, x136_107, x136_110, x136_113, x136_115, x136_118, x136_121, x136_122, x136_123, x136_126, x136_127, x136_128, x136_131, x136_133, x136_134, x136_137, x136_138, x136_141, x136_143, x136_144, x136_147, x136_150, x136_153, x136_154, x136_156, x136_159, x136_162, x136_165, x136_166, s_forgetL, gHa_rows, gRo_count, gLe_chosen, gLe_mark, pLe_length, WLe_chosen, WLe_mark, hc, Kc_none]
  have hH : FlH e σ (su (su (su (fgL e σ) e 5 (σ (b1 + 3) 0)) (e + 3) 0 (-1)) (e + 4) 0 0) := fun c a => by rw [su_ne (by omega), su_ne (by omega), su_ne (by omega)]; exact fgL_h c a
  have T0 : TrL e (su (su (su (fgL e σ) e 5 (σ (b1 + 3) 0)) (e + 3) 0 (-1)) (e + 4) 0 0) 0 := fgL_T.c (by rw [su_ne (by omega), su_ne (by omega), su_off (by omega)]) (by rw [su_ne (by omega), su_ne (by omega), su_ne (by omega)]) (by rw [su_ne (by omega), su_ne (by omega), su_ne (by omega)])
  have e5 : su (su (su (fgL e σ) e 5 (σ (b1 + 3) 0)) (e + 3) 0 (-1)) (e + 4) 0 0 e 5 = ((rsC σ (b1 + 3)).length : Int) := by rw [su_ne (by omega), su_ne (by omega), su_eq, len1]
  have e3 : su (su (su (fgL e σ) e 5 (σ (b1 + 3) 0)) (e + 3) 0 (-1)) (e + 4) 0 0 (e + 3) 0 = -1 := by rw [su_ne (by omega), su_eq]
  have e4 : su (su (su (fgL e σ) e 5 (σ (b1 + 3) 0)) (e + 3) 0 (-1)) (e + 4) 0 0 (e + 4) 0 = 0 := su_eq
  generalize su (su (su (fgL e σ) e 5 (σ (b1 + 3) 0)) (e + 3) 0 (-1)) (e + 4) 0 0 = τ at *
  have Ra : rsC τ (b1 + 3) = rsC σ (b1 + 3) := rsC_c (fun c c0 c1 => hH c (by omega))
  have Rb : rsC τ (b2 + 3) = rsC σ (b2 + 3) := rsC_c (fun c c0 c1 => hH c (by omega))
  have Ca : coC τ b1 = coC σ b1 := coC_c (hH _ (by omega))
  have Cb : coC τ b2 = coC σ b2 := coC_c (hH _ (by omega))
  have Tb : ∀ p, tgC wo τ (b2 + 3) p = tgC wo σ (b2 + 3) p := fun p => tgC_c (fun c c0 c1 => hH c (by omega))
  have Wb : ∀ p, rwC τ (b2 + 3) p = rwC σ (b2 + 3) p := fun p => rwC_c (fun c c0 c1 => hH c (by omega))
  have nb : τ (b2 + 3) = σ (b2 + 3) := hH _ (by omega)
  cases hL : rsC σ (b1 + 3) with
  | nil =>
    rw [hL] at e5
    refine ⟨τ, hH, e5, fun _ => ⟨⟨0, T0, bL_0⟩, rfl, fun i m hi => by cases hi⟩, fun u Q => ?_⟩
    rw [en u Q, x136_38]
    have e5' : τ e 5 = 0 := e5
    rw [show (leadF (coC σ b1) (coC σ b2) (tgC wo σ (b2 + 3) 0) [] bd0 0).1 = 1 from rfl]
    simp (disch := first | assumption | omega | exact notL_I | exact notL_N | exact notL_R | exact catS_le (Nat.le_of_ble_eq_true rfl) | exact Nat.le_of_ble_eq_true rfl | exact ooRo (by assumption) | exact ooAt (by assumption) | exact ooRu (by assumption) | exact ooLo (by assumption) | exact ooHa (by assumption) | exact ooLe (by assumption) | exact ooFn | exact ooAn | exact ooPa | exact ooTo | exact ooWa | exact ooCh | rfl) only [x136_0, x136_1, x136_4, x136_5, x136_7, x136_8, x136_10, x136_11, x136_12, x136_15, x136_18, x136_21, x136_22, x136_25, x136_26, x136_27, x136_28, x136_29, x136_32, x136_33, x136_34, x136_35, x136_36, x136_40, x136_42, x136_45, x136_47, x136_50, x136_52, x136_53, x136_56, x136_59, x136_60, x136_61, x136_62, x136_63, x136_66, x136_68, x136_69, x136_72, x136_73, x136_76, x136_78, x136_79, x136_81, x136_82, x136_83, x136_86, x136_88, x136_89, x136_90, x136_91, x136_92, x136_95, x136_96, x136_97, x136_100, x136_102, x136_103, x136_104, x136_107, x136_110, x136_113, x136_115, x136_118, x136_121, x136_122, x136_123, x136_126, x136_127, x136_128, x136_131, x136_133, x136_134, x136_137, x136_138, x136_141, x136_143, x136_144, x136_147, x136_150, x136_153, x136_154, x136_156, x136_159, x136_162, x136_165, x136_166, gLe_length, e5', if_pos, if_neg, ↓reduceIte, not_true_eq_false, not_false_eq_true]
  | cons w S =>
    have ls := l_seek (sc := sc) (d := d) (wo := wo) (σ0 := τ) o o1 o2 f1 f2 hd hw (W1.c (fun c c0 c1 => hH c (by omega))) (W2.c (fun c c0 c1 => hH c (by omega))) (by rw [Ra, Rb, Ca, Cb]; exact hT) 40001 τ 0 [(w, bd0, (if coC σ b2 w.2.1 = coC σ b1 w.2.1 then tgC wo σ (b2 + 3) 0 else []), S, [])] 0 0 (by rw [List.length_singleton]; omega) (by omega) (by omega) (by omega) FlG.refl T0
    rw [Ra, Ca, Cb, Tb, hL] at ls
    rw [hL] at e5
    obtain ⟨ρ, y1, y2, y3⟩ := ls (by
      refine ⟨rfl, rfl, ?_, ?_, ?_, rfl, fun i m hi => (by cases hi), 0, Nat.le_refl _, e4, bL_0, trivial⟩
      · show -1 ≤ τ (e + 3) 0
        omega
      · show τ (e + 3) 0 < _
        rw [nb, e3]
        omega
      · show _ = if coC σ b2 w.2.1 = coC σ b1 w.2.1 then tgC wo τ (b2 + 3) (τ (e + 3) 0 + 1) else []
        rw [e3, Tb]
        rfl) e5
    obtain ⟨l0, l1⟩ := leadF_cont (C1 := coC σ b1) (C2 := coC σ b2) (T := tgC wo σ (b2 + 3) 0) (S := S) (w := w) (β := bd0) (k := 0)
    refine ⟨ρ, hH.trans y1.h, (y1.2 5 (by omega)).trans e5, ?_, fun u Q => ?_⟩
    · intro z
      rw [l1 (by rw [z]; decide)] at y2
      have y := y2 z
      rw [nb] at y
      refine ⟨y.1, y.2.1, fun i m hi => ?_⟩
      have y' := y.2.2 i m hi
      rw [Wb] at y'
      exact y'
    · rw [en u Q]
      refine (y3 u Q).trans ?_
      by_cases h0 : (leadF (coC σ b1) (coC σ b2) (tgC wo σ (b2 + 3) 0) (w :: S) bd0 0).1 = 0
      · rw [l0 h0, h0]
      · rw [l1 h0]
/-- some row becomes the one at a place -/
def rchF (f : Int → Int) (p : Int) : Nat → Int → Bool
  | 0, _ => false
  | k + 1, i => if f i = p then true else rchF f p k (i + 1)
theorem l_reaches {d : Nat} {σ : St} {p n : Int} {u : Bool × Nat × Nat × Int} {Q : Rs → HS → Prop} (o : oLe e) (hp : inR p) (hn : σ e 5 = n) (n1 : n ≤ 40) (hc : ∀ i, 0 ≤ i → i < n → inR (σ (e + 3) i)) : ∀ (k : Nat) (i : Int), 0 ≤ i → i + k = n → (Ex sc d 146 2 [some (vR e), some (vI p), some (vI i)] [] (wH σ u) Q ↔ Q (.inl (some (vI (bI (rchF (σ (e + 3)) p k i))))) (wH σ u)) := by
  intro k
  induction k with
  | zero =>
    intro i i0 ik
    rw [x146_2]
    simp (disch := first | assumption | omega | exact notL_I | exact notL_N | exact notL_R | exact catS_le (Nat.le_of_ble_eq_true rfl) | exact Nat.le_of_ble_eq_true rfl | exact ooRo (by assumption) | exact ooAt (by assumption) | exact ooRu (by assumption) | exact ooLo (by assumption) | exact ooHa (by assumption) | exact ooLe (by assumption) | exact ooFn | exact ooAn | exact ooPa | exact ooTo | exact ooWa | exact ooCh | rfl) only [x146_0, x146_1, x146_3, x146_4, x146_7, x146_10, x146_11, x146_14, x146_15, x146_16, x146_17, x146_20, x146_21, x146_22, x146_25, x146_28, x146_29, gLe_length, hn, if_pos, if_neg, ↓reduceIte, not_true_eq_false, not_false_eq_true]
    rfl
  | succ k ih =>
    intro i i0 ik
    have c := hc i i0 (by omega)
    obtain ⟨c0, c1⟩ := c
    obtain ⟨p0, p1⟩ := hp
    have i1 := ih (i + 1) (by omega) (by omega)
    rw [x146_2, rchF]
    by_cases h : σ (e + 3) i = p
    · rw [if_pos h]
      simp (disch := first | assumption | omega | exact notL_I | exact notL_N | exact notL_R | exact catS_le (Nat.le_of_ble_eq_true rfl) | exact Nat.le_of_ble_eq_true rfl | exact ooRo (by assumption) | exact ooAt (by assumption) | exact ooRu (by assumption) | exact ooLo (by assumption) | exact ooHa (by assumption) | exact ooLe (by assumption) | exact ooFn | exact ooAn | exact ooPa | exact ooTo | exact ooWa | exact ooCh | rfl) only [x146_0, x146_1, x146_3, x146_4, x146_7, x146_10, x146_11, x146_14, x146_15, x146_16, x146_17, x146_20, x146_21, x146_22, x146_25, x146_28, x146_29, gLe_length, gLe_chosen, RLe_chosen, hn, h, if_pos, if_neg, ↓reduceIte, not_true_eq_false, not_false_eq_true]
      rfl
    · rw [if_neg h]
      simp (disch := first | assumption | omega | exact notL_I | exact notL_N | exact notL_R | exact catS_le (Nat.le_of_ble_eq_true rfl) | exact Nat.le_of_ble_eq_true rfl | exact ooRo (by assumption) | exact ooAt (by assumption) | exact ooRu (by assumption) | exact ooLo (by assumption) | exact ooHa (by assumption) | exact ooLe (by assumption) | exact ooFn | exact ooAn | exact ooPa | exact ooTo | exact ooWa | exact ooCh | rfl) only [x146_0, x146_1, x146_3, x146_4, x146_7, x146_10, x146_11, x146_14, x146_15, x146_16, x146_17, x146_20, x146_21, x146_22, x146_25, x146_28, x146_29, gLe_length, gLe_chosen, RLe_chosen, hn, if_pos, if_neg, ↓reduceIte, not_true_eq_false, not_false_eq_true]
      exact i1
theorem s_reaches {d : Nat} {σ : St} {p n : Int} {u : Bool × Nat × Nat × Int} {Q : Rs → HS → Prop} (o : oLe e) (hp : inR p) (hn : σ e 5 = n) (n0 : 0 ≤ n) (n1 : n ≤ 40) (hc : ∀ i, 0 ≤ i → i < n → inR (σ (e + 3) i)) : Ex sc d 146 0 [some (vR e), some (vI p), none] [] (wH σ u) Q ↔ Q (.inl (some (vI (bI (rchF (σ (e + 3)) p n.toNat 0))))) (wH σ u) := by
  rw [← l_reaches (sc := sc) (d := d) (u := u) (Q := Q) o hp hn n1 hc n.toNat 0 (by omega) (by omega)]
  simp (disch := first | assumption | omega | exact notL_I | exact notL_N | exact notL_R | exact catS_le (Nat.le_of_ble_eq_true rfl) | exact Nat.le_of_ble_eq_true rfl | exact ooRo (by assumption) | exact ooAt (by assumption) | exact ooRu (by assumption) | exact ooLo (by assumption) | exact ooHa (by assumption) | exact ooLe (by assumption) | exact ooFn | exact ooAn | exact ooPa | exact ooTo | exact ooWa | exact ooCh | rfl) only [x146_0, x146_1]
end L5
