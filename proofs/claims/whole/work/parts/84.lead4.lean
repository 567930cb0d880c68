/-! leads of the class: seek -/
def LdP (e : Nat) (L1 : List Rw) (r2 : Nat) (σ0 : St) (x : LR) (τ : St) : Prop := x.1 = 1 → (∃ n, TrL e τ n ∧ bL e τ n = x.2.2.1) ∧ x.2.2.2.length = L1.length ∧ ∀ (i : Nat) (m : Int), x.2.2.2[i]? = some m → 0 ≤ τ (e + 3) i ∧ τ (e + 3) i < σ0 r2 0 ∧ (rwC σ0 r2 (τ (e + 3) i)).1 = m
section L4
variable {sc : Scr} {e b1 b2 : Nat}
theorem s_enterY {d n : Nat} {σ : St} {x : Int} {u : Bool × Nat × Nat × Int} {Q : Rs → HS → Prop} (o : oLe e) (x0 : 0 ≤ x) (x1 : x < 40) (T : σ e 2 = (n : Int)) : Ex sc d 142 0 [some (vR e), some (vI x)] [] (wH σ u) Q ↔ Q (.inl none) (wH (su (su σ (e + 3) x (-1)) (e + 4) x (n : Int)) u) := by
  simp (disch := first | assumption | omega | exact notL_I | exact notL_N | exact notL_R | exact catS_le (Nat.le_of_ble_eq_true rfl) | exact Nat.le_of_ble_eq_true rfl | exact ooRo (by assumption) | exact ooAt (by assumption) | exact ooRu (by assumption) | exact ooLo (by assumption) | exact ooHa (by assumption) | exact ooLe (by assumption) | exact ooFn | exact ooAn | exact ooPa | exact ooTo | exact ooWa | exact ooCh | rfl) only [x142_0, x142_1, x142_3, x142_6, x142_7, x142_10, x142_11, x142_12, x142_13, x142_14, x142_17, x142_18, x142_19, x142_22, x142_23, gLe_chosen, gLe_mark, gLe_trailSize, WLe_chosen, WLe_mark, su_ne, T, if_pos, if_neg, ↓reduceIte, not_true_eq_false, not_false_eq_true]
theorem s_enterN {d : Nat} {σ : St} {x : Int} {u : Bool × Nat × Nat × Int} {Q : Rs → HS → Prop} (x1 : x = 40) : Ex sc d 142 0 [some (vR e), some (vI x)] [] (wH σ u) Q ↔ Q (.inl none) (wH σ u) := by
  simp (disch := first | assumption | omega | exact notL_I | exact notL_N | exact notL_R | exact catS_le (Nat.le_of_ble_eq_true rfl) | exact Nat.le_of_ble_eq_true rfl | exact ooRo (by assumption) | exact ooAt (by assumption) | exact ooRu (by assumption) | exact ooLo (by assumption) | exact ooHa (by assumption) | exact ooLe (by assumption) | exact ooFn | exact ooAn | exact ooPa | exact ooTo | exact ooWa | exact ooCh | rfl) only [x142_0, x142_1, x142_3, x142_6, x142_7, x142_10, x142_11, x142_12, x142_13, x142_14, x142_17, x142_18, x142_19, x142_22, x142_23, if_pos, if_neg, ↓reduceIte, not_true_eq_false, not_false_eq_true]
theorem s_enterL {d n : Nat} {σ : St} {x : Int} (o : oLe e) (x0 : 0 ≤ x) (x1 : x ≤ 40) (T : TrL e σ n) : ∃ τ, FlG e σ τ ∧ TrL e τ n ∧ (∀ k, bL e τ k = bL e σ k) ∧ (∀ j, j ≠ x → τ (e + 3) j = σ (e + 3) j ∧ τ (e + 4) j = σ (e + 4) j) ∧ (x < 40 → τ (e + 3) x = -1 ∧ τ (e + 4) x = (n : Int)) ∧ τ e 5 = σ e 5 ∧ RnA sc d 142 0 [some (vR e), some (vI x)] σ none τ := by
  by_cases hx : x < 40
  · refine ⟨su (su σ (e + 3) x (-1)) (e + 4) x (n : Int), FlG.su3.trans FlG.su4, T.c (by rw [su_ne (by omega), su_ne (by omega)]) (by rw [su_ne (by omega), su_ne (by omega)]) (by rw [su_ne (by omega), su_ne (by omega)]), bL_c (by rw [su_ne (by omega), su_ne (by omega)]) (by rw [su_ne (by omega), su_ne (by omega)]), fun j hj => ⟨by rw [su_ne (by omega), su_off hj], by rw [su_off hj, su_ne (by omega)]⟩, fun _ => ⟨by rw [su_ne (by omega), su_eq], su_eq⟩, by rw [su_ne (by omega), su_ne (by omega)], fun u Q => ?_⟩
    exact s_enterY o x0 hx T.1
  · exact ⟨σ, FlG.refl, T, fun _ => rfl, fun _ _ => ⟨rfl, rfl⟩, fun z => absurd z hx, rfl, fun u Q => s_enterN (by omega)⟩
set_option maxHeartbeats 2000000 in
theorem l_seek {d : Nat} {wo : Int} {σ0 : St} (o : oLe e) (o1 : oHa b1) (o2 : oHa b2) (f1 : b1 + 83 < e ∨ e + 4 < b1) (f2 : b2 + 83 < e ∨ e + 4 < b2) (hd : 3 ≤ d) (hw : inR wo) (W1 : WfHa σ0 b1) (W2 : WfHa σ0 b2) (hT : ∀ w ∈ rsC σ0 (b1 + 3), ∀ v ∈ rsC σ0 (b2 + 3), w.2.1 = v.2.1 → coC σ0 b2 w.2.1 = coC σ0 b1 w.2.1 → (1000 ≤ w.2.2.1 → v.2.2.1 ≠ -1) ∧ (1000 ≤ w.2.2.2.1 → v.2.2.2.1 ≠ -1) ∧ (1000 ≤ w.2.2.2.2 → v.2.2.2.2 ≠ -1)) :
    ∀ (μ : Nat) (σ : St) (n : Nat) (fs : List Fl) (tries : Nat) (turn : Int), 2 * (20000 - tries) + fs.length ≤ μ → tries ≤ 20000 → 0 ≤ turn → turn + μ ≤ 40100 → FlG e σ0 σ → TrL e σ n → LvL e (coC σ0 b1) (coC σ0 b2) (rsC σ0 (b1 + 3)) (b2 + 3) wo σ n fs → σ e 5 = ((rsC σ0 (b1 + 3)).length : Int) →
    ∃ τ, FlG e σ0 τ ∧ LdP e (rsC σ0 (b1 + 3)) (b2 + 3) σ0 (contF (coC σ0 b1) (coC σ0 b2) (tgC wo σ0 (b2 + 3) 0) fs tries) τ ∧ ∀ (u : Bool × Nat × Nat × Int) (Q : Rs → HS → Prop), Ex sc d 136 38 [some (vR e), some (vR b1), some (vR b2), some (vI wo), some (vI ((fs.length : Int) - 1)), some (vI ((tries : Int))), some (vI turn)] [] (wH σ u) Q ↔ Q (.inl (some (vI ((contF (coC σ0 b1) (coC σ0 b2) (tgC wo σ0 (b2 + 3) 0) fs tries).1)))) (wH τ u) := by
  have or1 := o1.rows
  have or2 := o2.rows
  have wr1 := W1.2.2.2.1.1
  have wr2 := W2.2.2.2.1.1
  have len1 := rsC_len (σ := σ0) (r := b1 + 3) wr1.1
  have len2 := rsC_len (σ := σ0) (r := b2 + 3) wr2.1
  intro μ
  induction μ with
  | zero =>
    intro σ n fs tries turn hμ ht t0 tμ F T Lv e5
    have : fs = [] := List.length_eq_zero_iff.mp (by omega)
    subst this
    refine ⟨σ, F, fun z => (by cases z), fun u Q => ?_⟩
    rw [x136_38, contF, List.length_nil]
    simp (disch := first | assumption | omega | exact notL_I | exact notL_N | exact notL_R | exact catS_le (Nat.le_of_ble_eq_true rfl) | exact Nat.le_of_ble_eq_true rfl | exact ooRo (by assumption) | exact ooAt (by assumption) | exact ooRu (by assumption) | exact ooLo (by assumption) | exact ooHa (by assumption) | exact ooLe (by assumption) | exact ooFn | exact ooAn | exact ooPa | exact ooTo | exact ooWa | exact ooCh | rfl) only [x136_0, x136_1, x136_4, x136_5, x136_7, x136_8, x136_10, x136_11, x136_12, x136_15, x136_18, x136_21, x136_22, x136_25, x136_26, x136_27, x136_28, x136_29, x136_32, x136_33, x136_34, x136_35, x136_36, x136_40, x136_42, x136_45, x136_47, x136_50, x136_52, x136_53, x136_56, x136_59, x136_60, x136_61, x136_62, x136_63, x136_66, x136_68, x136_69, x136_72, x136_73, x136_76, x136_78, x136_79, x136_81, x136_82, x136_83, x136_86, x136_88, x136_89, x136_90, x136_91, x136_92, x136_95, x136_96, x136_97, x136_100, x136_102, x136_103, x136_104, x136_107, x136_110, x136_113, x136_115, x136_118, x136_121, x136_122, x136_123, x136_126, x136_127, x136_128, x136_131, x136_133, x136_134, x136_137, x136_138, x136_141, x136_143, x136_144, x136_147, x136_150, x136_153, x136_154, x136_156, x136_159, x136_162, x136_165, x136_166, if_pos, if_neg, ↓reduceIte, not_true_eq_false, not_false_eq_true]
  | succ μ ih =>
    intro σ n fs tries turn hμ ht t0 tμ F T Lv e5
    cases fs with
    | nil =>
      refine ⟨σ, F, fun z => (by cases z), fun u Q => ?_⟩
      rw [x136_38, contF, List.length_nil]
      simp (disch := first | assumption | omega | exact notL_I | exact notL_N | exact notL_R | exact catS_le (Nat.le_of_ble_eq_true rfl) | exact Nat.le_of_ble_eq_true rfl | exact ooRo (by assumption) | exact ooAt (by assumption) | exact ooRu (by assumption) | exact ooLo (by assumption) | exact ooHa (by assumption) | exact ooLe (by assumption) | exact ooFn | exact ooAn | exact ooPa | exact ooTo | exact ooWa | exact ooCh | rfl) only [x136_0, x136_1, x136_4, x136_5, x136_7, x136_8, x136_10, x136_11, x136_12, x136_15, x136_18, x136_21, x136_22, x136_25, x136_26, x136_27, x136_28, x136_29, x136_32, x136_33, x136_34, x136_35, x136_36, x136_40, x136_42, x136_45, x136_47, x136_50, x136_52, x136_53, x136_56, x136_59, x136_60, x136_61, x136_62, x136_63, x136_66, x136_68, x136_69, x136_72, x136_73, x136_76, x136_78, x136_79, x136_81, x136_82, x136_83, x136_86, x136_88, x136_89, x136_90, x136_91, x136_92, x136_95, x136_96, x136_97, x136_100, x136_102, x136_103, x136_104, x136_107, x136_110, x136_113, x136_115, x136_118, x136_121, x136_122, x136_123, x136_126, x136_127, x136_128, x136_131, x136_133, x136_134, x136_137, x136_138, x136_141, x136_143, x136_144, x136_147, x136_150, x136_153, x136_154, x136_156, x136_159, x136_162, x136_165, x136_166, if_pos, if_neg, ↓reduceIte, not_true_eq_false, not_false_eq_true]
    | cons f fs =>
      obtain ⟨w, β, q, S, im⟩ := f
      obtain ⟨h1, h2, h3, h4, h5, h6, h7, k, k1, k2, k3, k4⟩ := Lv
      have hl1 := (List.getElem?_eq_some_iff.mp h1).1
      have hdep : ((((w, β, q, S, im) :: fs).length : Nat) : Int) - 1 = (fs.length : Int) := by rw [List.length_cons]; omega
      rw [hdep]
      have H1 : ∀ c, b1 ≤ c → c < b1 + 84 → σ c = σ0 c := fun c c0 c1 => F.1 c (by omega)
      have H2 : ∀ c, b2 ≤ c → c < b2 + 84 → σ c = σ0 c := fun c c0 c1 => F.1 c (by omega)
      have hwr : rwC σ0 (b1 + 3) fs.length = w := by
        have g := rsC_get (σ := σ0) (r := b1 + 3) (p := fs.length) (by omega) (by omega)
        rw [Int.toNat_natCast, h1] at g
        exact (Option.some.inj g).symm
      have hwt : σ0 (b1 + 3 + 2) fs.length = w.2.1 := congrArg (fun z : Rw => z.2.1) hwr
      have h4' : σ (e + 3) fs.length < σ0 (b2 + 3) 0 := by rw [H2 (b2 + 3) (by omega) (by omega)] at h4; exact h4
      have htl := T.2.1.le100
      -- undo
      obtain ⟨τ0, F0, T0, K0, r0⟩ := s_undoL (sc := sc) (d := d - 1) o k1 T
      have G0 := F.trans F0.g
      have H10 : ∀ c, b1 ≤ c → c < b1 + 84 → τ0 c = σ0 c := fun c c0 c1 => G0.1 c (by omega)
      have H20 : ∀ c, b2 ≤ c → c < b2 + 84 → τ0 c = σ0 c := fun c c0 c1 => G0.1 c (by omega)
      have e3 : τ0 (e + 3) = σ (e + 3) := F0.1 _ (by omega) (by omega) (by omega)
      have e4 : τ0 (e + 4) = σ (e + 4) := F0.1 _ (by omega) (by omega) (by omega)
      have nt := fun u Q => s_nextT (sc := sc) (σ := τ0) (u := u) (Q := Q) (d := d - 1) (b1 := b1) (b2 := b2) (x := (fs.length : Int)) (f := σ (e + 3) fs.length + 1) (wo := wo) o1 o2 (by omega) (W1.c H10) (W2.c H20) (by omega) (by omega) (by omega) (by rw [H20 _ (by omega) (by omega)]; omega) hw
      have ec1 : coC τ0 b1 = coC σ0 b1 := by unfold coC; rw [H10 _ (by omega) (by omega)]
      have ec2 : coC τ0 b2 = coC σ0 b2 := by unfold coC; rw [H20 _ (by omega) (by omega)]
      have erc : ∀ m p, rcF τ0 (b2 + 3) m p = rcF σ0 (b2 + 3) m p := fun m p => rcF_ext _ _ (fun i _ _ => by unfold rwC; rw [H20 _ (by omega) (by omega), H20 _ (by omega) (by omega), H20 _ (by omega) (by omega)])
      rw [ec1, ec2, H10 _ (by omega) (by omega), hwt, H20 (b2 + 3) (by omega) (by omega), erc] at nt
      have etg : ∀ p, tgC wo σ (b2 + 3) p = tgC wo σ0 (b2 + 3) p := fun p => by
        unfold tgC
        rw [H2 (b2 + 3) (by omega) (by omega), rcF_ext (σ := σ0) (τ := σ) (r := b2 + 3) (r' := b2 + 3) _ _ (fun i _ _ => by unfold rwC; rw [H2 _ (by omega) (by omega), H2 _ (by omega) (by omega), H2 _ (by omega) (by omega)])]
      rw [etg] at h5
      generalize hX : (if coC σ0 b2 w.2.1 = coC σ0 b1 w.2.1 then nxF w.2.1 wo (rcF σ0 (b2 + 3) (σ0 (b2 + 3) 0 - (σ (e + 3) fs.length + 1)).toNat (σ (e + 3) fs.length + 1)) (σ (e + 3) fs.length + 1) else -1) = X at nt
      -- after the choice
      have G1 : FlG e σ0 (su τ0 (e + 3) fs.length X) := G0.trans FlG.su3
      have T1 : TrL e (su τ0 (e + 3) fs.length X) k := T0.c (by rw [su_ne (by omega)]) (su_ne (by omega)) (su_ne (by omega))
      have K1 : ∀ i, i ≤ k → bL e (su τ0 (e + 3) fs.length X) i = bL e σ i := fun i hi => (bL_c (su_ne (by omega)) (su_ne (by omega)) i).trans (K0 i hi)
      have hr3 : ∀ c, b2 + 3 ≤ c → c ≤ b2 + 3 + 3 → su τ0 (e + 3) fs.length X c = σ c := fun c c0 c1 => by rw [G1.1 c (by omega), H2 c (by omega) (by omega)]
      have J1 : ∀ j : Nat, j < fs.length → su τ0 (e + 3) fs.length X (e + 3) j = σ (e + 3) j ∧ su τ0 (e + 3) fs.length X (e + 4) j = σ (e + 4) j := fun j hj => ⟨by rw [su_off (by omega), e3], by rw [su_ne (by omega), e4]⟩
      have c1 : su τ0 (e + 3) fs.length X (e + 3) fs.length = X := su_eq
      have m1 : su τ0 (e + 3) fs.length X (e + 4) fs.length = (k : Int) := by rw [su_ne (by omega), e4]; exact k2
      have l51 : su τ0 (e + 3) fs.length X e 5 = ((rsC σ0 (b1 + 3)).length : Int) := by rw [su_ne (by omega), F0.2 5 (by omega)]; exact e5
      have e50 : τ0 e 5 = ((rsC σ0 (b1 + 3)).length : Int) := by rw [F0.2 5 (by omega)]; exact e5
      have Lf1 : LvL e (coC σ0 b1) (coC σ0 b2) (rsC σ0 (b1 + 3)) (b2 + 3) wo (su τ0 (e + 3) fs.length X) k fs := LvL.mono hr3 fs k k k4 (Nat.le_refl _) K1 J1
      have g3' : τ0 (e + 3) fs.length = σ (e + 3) fs.length := by rw [e3]
      generalize hτ1 : su τ0 (e + 3) fs.length X = τ1 at *
      have xr : -1 ≤ X ∧ X ≤ 40 := by
        rw [← hX]
        split
        · by_cases hn : nxF w.2.1 wo (rcF σ0 (b2 + 3) (σ0 (b2 + 3) 0 - (σ (e + 3) fs.length + 1)).toNat (σ (e + 3) fs.length + 1)) (σ (e + 3) fs.length + 1) = -1
          · omega
          · have := tg_some (σ := σ0) (r := b2 + 3) (C1 := fun _ => 0) (C2 := fun _ => 0) (T := []) (S := []) (w := w) (β := bd0) (im := []) (fs := []) (k := 0) (wo := wo) (t := w.2.1) rfl _ _ _ (by omega) rfl hn
            omega
        · omega
      by_cases hX1 : X = -1
      · -- nothing more: go back
        have hcont : contF (coC σ0 b1) (coC σ0 b2) (tgC wo σ0 (b2 + 3) 0) ((w, β, q, S, im) :: fs) tries = contF (coC σ0 b1) (coC σ0 b2) (tgC wo σ0 (b2 + 3) 0) fs tries := by
          rw [h5]
          by_cases hc : coC σ0 b2 w.2.1 = coC σ0 b1 w.2.1
          · rw [if_pos hc] at hX ⊢
            exact tg_none rfl _ _ (by omega) (hX.trans hX1)
          · rw [if_neg hc]
            exact cont_pop
        rw [hcont]
        obtain ⟨τ, y1, y2, y3⟩ := ih τ1 k fs tries (turn + 1) (by rw [List.length_cons] at hμ; omega) ht (by omega) (by omega) G1 T1 Lf1 l51
        refine ⟨τ, y1, y2, fun u Q => ?_⟩
        have y4 := y3 u Q
        have ed : (fs.length : Int) + -1 = (fs.length : Int) - 1 := by omega
        subst hX1
        rw [x136_38]
        simp (disch := first | assumption | omega | exact notL_I | exact notL_N | exact notL_R | exact catS_le (Nat.le_of_ble_eq_true rfl) | exact Nat.le_of_ble_eq_true rfl | exact ooRo (by assumption) | exact ooAt (by assumption) | exact ooRu (by assumption) | exact ooLo (by assumption) | exact ooHa (by assumption) | exact ooLe (by assumption) | exact ooFn | exact ooAn | exact ooPa | exact ooTo | exact ooWa | exact ooCh | rfl) only [x136_0, x136_1, x136_4, x136_5, x136_7, x136_8, x136_10, x136_11, x136_12, x136_15, x136_18, x136_21, x136_22, x136_25, x136_26, x136_27, x136_28, x136_29, x136_32, x136_33, x136_34, x136_35, x136_36, x136_40, x136_42, x136_45, x136_47, x136_50, x136_52, x136_53, x136_56, x136_59, x136_60, x136_61, x136_62, x136_63, x136_66, x136_68, x136_69, x136_72, x136_73, x136_76, x136_78, x136_79, x136_81, x136_82, x136_83, x136_86, x136_88, x136_89, x136_90, x136_91, x136_92, x136_95, x136_96, x136_97, x136_100, x136_102, x136_103, x136_104, x136_107, x136_110, x136_113, x136_115, x136_118, x136_121, x136_122, x136_123, x136_126, x136_127, x136_128, x136_131, x136_133, x136_134, x136_137, x136_138, x136_141, x136_143, x136_144, x136_147, x136_150, x136_153, x136_154, x136_156, x136_159, x136_162, x136_165, x136_166, gLe_length, gLe_mark, gLe_chosen, RLe_mark, RLe_chosen, WLe_chosen, e5, k2, r0 u, g3', nt, hτ1, c1, ed, Kc_some, Kc_none, if_pos, if_neg, ↓reduceIte, not_true_eq_false, not_false_eq_true]
        exact y4
      · have hc : coC σ0 b2 w.2.1 = coC σ0 b1 w.2.1 := by
          by_cases hc : coC σ0 b2 w.2.1 = coC σ0 b1 w.2.1
          · exact hc
          · rw [if_neg hc] at hX
            exact absurd hX.symm hX1
        rw [if_pos hc] at hX h5
        obtain ⟨a1, a2, a3, a4, a5⟩ := tg_some (σ := σ0) (r := b2 + 3) (C1 := coC σ0 b1) (C2 := coC σ0 b2) (T := tgC wo σ0 (b2 + 3) 0) (S := S) (w := w) (β := β) (im := im) (fs := fs) (k := tries) (wo := wo) (t := w.2.1) rfl _ _ X (by omega) hX hX1
        have eN : σ (e + 3) fs.length + 1 + (((σ0 (b2 + 3) 0 - (σ (e + 3) fs.length + 1)).toNat : Nat) : Int) = σ0 (b2 + 3) 0 := by omega
        rw [eN] at a2 a5
        have hcont : contF (coC σ0 b1) (coC σ0 b2) (tgC wo σ0 (b2 + 3) 0) ((w, β, q, S, im) :: fs) tries = contF (coC σ0 b1) (coC σ0 b2) (tgC wo σ0 (b2 + 3) 0) ((w, β, rwC σ0 (b2 + 3) X :: tgC wo σ0 (b2 + 3) (X + 1), S, im) :: fs) tries := by
          rw [h5]
          exact a5
        rw [hcont]
        by_cases htr : tries = 20000
        · rw [cont_spent a4 htr]
          refine ⟨τ1, G1, fun z => (by cases z), fun u Q => ?_⟩
          have ht2 : (tries : Int) = 20000 := by omega
          rw [x136_38]
          simp (disch := first | assumption | omega | exact notL_I | exact notL_N | exact notL_R | exact catS_le (Nat.le_of_ble_eq_true rfl) | exact Nat.le_of_ble_eq_true rfl | exact ooRo (by assumption) | exact ooAt (by assumption) | exact ooRu (by assumption) | exact ooLo (by assumption) | exact ooHa (by assumption) | exact ooLe (by assumption) | exact ooFn | exact ooAn | exact ooPa | exact ooTo | exact ooWa | exact ooCh | rfl) only [x136_0, x136_1, x136_4, x136_5, x136_7, x136_8, x136_10, x136_11, x136_12, x136_15, x136_18, x136_21, x136_22, x136_25, x136_26, x136_27, x136_28, x136_29, x136_32, x136_33, x136_34, x136_35, x136_36, x136_40, x136_42, x136_45, x136_47, x136_50, x136_52, x136_53, x136_56, x136_59, x136_60, x136_61, x136_62, x136_63, x136_66, x136_68, x136_69, x136_72, x136_73, x136_76, x136_78, x136_79, x136_81, x136_82, x136_83, x136_86, x136_88, x136_89, x136_90, x136_91, x136_92, x136_95, x136_96, x136_97, x136_100, x136_102, x136_103, x136_104, x136_107, x136_110, x136_113, x136_115, x136_118, x136_121, x136_122, x136_123, x136_126, x136_127, x136_128, x136_131, x136_133, x136_134, x136_137, x136_138, x136_141, x136_143, x136_144, x136_147, x136_150, x136_153, x136_154, x136_156, x136_159, x136_162, x136_165, x136_166, gLe_length, gLe_mark, gLe_chosen, RLe_mark, RLe_chosen, WLe_chosen, e5, k2, r0 u, g3', nt, hτ1, c1, ht2, Kc_some, Kc_none, if_pos, if_neg, ↓reduceIte, not_true_eq_false, not_false_eq_true]
        · have H11 : ∀ c, b1 ≤ c → c < b1 + 84 → τ1 c = σ0 c := fun c c0 c1 => G1.1 c (by omega)
          have H21 : ∀ c, b2 ≤ c → c < b2 + 84 → τ1 c = σ0 c := fun c c0 c1 => G1.1 c (by omega)
          have ew1 : rwC τ1 (b1 + 3) fs.length = w := by rw [← hwr]; unfold rwC; rw [H11 (b1 + 3 + 1) (by omega) (by omega), H11 (b1 + 3 + 2) (by omega) (by omega), H11 (b1 + 3 + 3) (by omega) (by omega)]
          have ew2 : rwC τ1 (b2 + 3) X = rwC σ0 (b2 + 3) X := by unfold rwC; rw [H21 (b2 + 3 + 1) (by omega) (by omega), H21 (b2 + 3 + 2) (by omega) (by omega), H21 (b2 + 3 + 3) (by omega) (by omega)]
          have vm : rwC σ0 (b2 + 3) X ∈ rsC σ0 (b2 + 3) := List.mem_of_getElem? (rsC_get (by omega) a2)
          have hT1 := hT w (List.mem_of_getElem? h1) _ vm a4.symm hc
          obtain ⟨τ2, n', F2, T2, le2, K2, hh⟩ := s_fitsL (sc := sc) (d := d - 1) (σ := τ1) (n := k) (r1 := b1 + 3) (r2 := b2 + 3) (p := (fs.length : Int)) (q := X) o or1 or2 (by omega) (by omega) (by omega) (W1.c H11).2.2.2.1 (W2.c H21).2.2.2.1 (by omega) (by rw [H11 (b1 + 3) (by omega) (by omega)]; omega) (by omega) (by rw [H21 (b2 + 3) (by omega) (by omega)]; exact a2) (by rw [ew1, ew2]; exact hT1) T1
          rw [ew1, ew2, show bL e τ1 k = β from (K1 k (Nat.le_refl _)).trans k3] at hh
          have G2 := G1.trans F2.g
          have e32 : τ2 (e + 3) = τ1 (e + 3) := F2.1 _ (by omega) (by omega) (by omega)
          have e42 : τ2 (e + 4) = τ1 (e + 4) := F2.1 _ (by omega) (by omega) (by omega)
          have e52 : τ2 e 5 = ((rsC σ0 (b1 + 3)).length : Int) := by rw [F2.2 5 (by omega)]; exact l51
          have H22 : ∀ c, b2 ≤ c → c < b2 + 84 → τ2 c = σ0 c := fun c c0 c1 => G2.1 c (by omega)
          have ew3 : ∀ p, rwC τ2 (b2 + 3) p = rwC σ0 (b2 + 3) p := fun p => by unfold rwC; rw [H22 (b2 + 3 + 1) (by omega) (by omega), H22 (b2 + 3 + 2) (by omega) (by omega), H22 (b2 + 3 + 3) (by omega) (by omega)]
          have ew0 : ∀ p, rwC σ (b2 + 3) p = rwC σ0 (b2 + 3) p := fun p => by unfold rwC; rw [H2 (b2 + 3 + 1) (by omega) (by omega), H2 (b2 + 3 + 2) (by omega) (by omega), H2 (b2 + 3 + 3) (by omega) (by omega)]
          have etg2 : ∀ p, tgC wo τ2 (b2 + 3) p = tgC wo σ0 (b2 + 3) p := fun p => by
            unfold tgC
            rw [H22 (b2 + 3) (by omega) (by omega), rcF_ext (σ := σ0) (τ := τ2) (r := b2 + 3) (r' := b2 + 3) _ _ (fun i _ _ => ew3 i)]
          have h72 : ∀ (i : Nat) (m : Int), im[i]? = some m → 0 ≤ τ2 (e + 3) i ∧ τ2 (e + 3) i < σ0 (b2 + 3) 0 ∧ (rwC σ0 (b2 + 3) (τ2 (e + 3) i)).1 = m := by
            intro i m hi
            have hi1 := (List.getElem?_eq_some_iff.mp hi).1
            have h8 := h7 i m hi
            rw [e32, (J1 i (by omega)).1]
            rw [H2 (b2 + 3) (by omega) (by omega), ew0] at h8
            exact h8
          have hX2 : τ2 (e + 3) fs.length = X := by rw [e32]; exact c1
          have Fr : LvL e (coC σ0 b1) (coC σ0 b2) (rsC σ0 (b1 + 3)) (b2 + 3) wo τ2 n' ((w, β, tgC wo σ0 (b2 + 3) (X + 1), S, im) :: fs) := by
            refine ⟨h1, h2, by omega, by rw [hX2, H22 (b2 + 3) (by omega) (by omega)]; exact a2, by rw [if_pos hc, hX2, etg2], h6, fun i m hi => ?_, k, le2, by rw [e42]; exact m1, (K2 k (Nat.le_refl _)).trans ((K1 k (Nat.le_refl _)).trans k3), LvL.mono (fun c c0 c1 => F2.1 c (by omega) (by omega) (by omega)) fs k k Lf1 (Nat.le_refl _) K2 (fun j _ => ⟨by rw [e32], by rw [e42]⟩)⟩
            rw [H22 (b2 + 3) (by omega) (by omega), ew3]
            exact h72 i m hi
          have et : ((tries + 1 : Nat) : Int) = (tries : Int) + 1 := by omega
          rcases hh with ⟨β', hl, hb2, r1⟩ | ⟨hl, hn', r1⟩
          · obtain ⟨τ3, F3, T3, K3, J3, X3, L3, r3⟩ := s_enterL (sc := sc) (d := d - 1) (σ := τ2) (n := n') (x := (fs.length : Int) + 1) o (by omega) (by omega) T2
            have G3 := G2.trans F3
            have H23 : ∀ c, b2 ≤ c → c < b2 + 84 → τ3 c = σ0 c := fun c c0 c1 => G3.1 c (by omega)
            have ew4 : ∀ p, rwC τ3 (b2 + 3) p = rwC σ0 (b2 + 3) p := fun p => by unfold rwC; rw [H23 (b2 + 3 + 1) (by omega) (by omega), H23 (b2 + 3 + 2) (by omega) (by omega), H23 (b2 + 3 + 3) (by omega) (by omega)]
            have etg3 : ∀ p, tgC wo τ3 (b2 + 3) p = tgC wo σ0 (b2 + 3) p := fun p => by
              unfold tgC
              rw [H23 (b2 + 3) (by omega) (by omega), rcF_ext (σ := σ0) (τ := τ3) (r := b2 + 3) (r' := b2 + 3) _ _ (fun i _ _ => ew4 i)]
            have h73 : ∀ (i : Nat) (m : Int), (im ++ [(rwC σ0 (b2 + 3) X).1])[i]? = some m → 0 ≤ τ3 (e + 3) i ∧ τ3 (e + 3) i < σ0 (b2 + 3) 0 ∧ (rwC σ0 (b2 + 3) (τ3 (e + 3) i)).1 = m := by
              intro i m hi
              have hi1 := (List.getElem?_eq_some_iff.mp hi).1
              rw [List.length_append, List.length_singleton] at hi1
              rw [(J3 i (by omega)).1]
              by_cases hil : i < im.length
              · rw [List.getElem?_append_left hil] at hi
                exact h72 i m hi
              · have : i = im.length := by omega
                subst this
                rw [List.getElem?_append_right (Nat.le_refl _), Nat.sub_self] at hi
                rw [h6, hX2]
                exact ⟨by omega, a2, Option.some.inj hi⟩
            have e53 : τ3 e 5 = ((rsC σ0 (b1 + 3)).length : Int) := by rw [L3]; exact e52
            cases S with
            | nil =>
              rw [cont_led a4 htr hl]
              have hlen : (rsC σ0 (b1 + 3)).length = fs.length + 1 := by
                have := congrArg List.length h2
                rw [List.length_drop, List.length_nil] at this
                omega
              have hlen2 : ((rsC σ0 (b1 + 3)).length : Int) = (fs.length : Int) + 1 := by omega
              rw [hlen2] at e5 e50 e52 e53 l51
              refine ⟨τ3, G3, fun _ => ⟨⟨n', T3, (K3 n').trans hb2⟩, by show (im ++ _).length = _; rw [List.length_append, List.length_singleton, h6, hlen], h73⟩, fun u Q => ?_⟩
              have ht2 : ¬ (tries : Int) = 20000 := by omega
              rw [x136_38]
              simp (disch := first | assumption | omega | exact notL_I | exact notL_N | exact notL_R | exact catS_le (Nat.le_of_ble_eq_true rfl) | exact Nat.le_of_ble_eq_true rfl | exact ooRo (by assumption) | exact ooAt (by assumption) | exact ooRu (by assumption) | exact ooLo (by assumption) | exact ooHa (by assumption) | exact ooLe (by assumption) | exact ooFn | exact ooAn | exact ooPa | exact ooTo | exact ooWa | exact ooCh | rfl) only [x136_0, x136_1, x136_4, x136_5, x136_7, x136_8, x136_10, x136_11, x136_12, x136_15, x136_18, x136_21, x136_22, x136_25, x136_26, x136_27, x136_28, x136_29, x136_32, x136_33, x136_34, x136_35, x136_36, x136_40, x136_42, x136_45, x136_47, x136_50, x136_52, x136_53, x136_56, x136_59, x136_60, x136_61, x136_62, x136_63, x136_66, x136_68, x136_69, x136_72, x136_73, x136_76, x136_78, x136_79, x136_81, x136_82, x136_83, x136_86, x136_88, x136_89, x136_90, x136_91, x136_92, x136_95, x136_96, x136_97, x136_100, x136_102, x136_103, x136_104, x136_107, x136_110, x136_113, x136_115, x136_118, x136_121, x136_122, x136_123, x136_126, x136_127, x136_128, x136_131, x136_133, x136_134, x136_137, x136_138, x136_141, x136_143, x136_144, x136_147, x136_150, x136_153, x136_154, x136_156, x136_159, x136_162, x136_165, x136_166, gLe_length, gLe_mark, gLe_chosen, RLe_mark, RLe_chosen, WLe_chosen, e5, k2, r0 u, g3', nt, hτ1, c1, gHa_rows, r1 u, r3 u, Kc_some, Kc_none, if_pos, if_neg, ↓reduceIte, not_true_eq_false, not_false_eq_true]
              rw [x136_38]
              simp (disch := first | assumption | omega | exact notL_I | exact notL_N | exact notL_R | exact catS_le (Nat.le_of_ble_eq_true rfl) | exact Nat.le_of_ble_eq_true rfl | exact ooRo (by assumption) | exact ooAt (by assumption) | exact ooRu (by assumption) | exact ooLo (by assumption) | exact ooHa (by assumption) | exact ooLe (by assumption) | exact ooFn | exact ooAn | exact ooPa | exact ooTo | exact ooWa | exact ooCh | rfl) only [x136_0, x136_1, x136_4, x136_5, x136_7, x136_8, x136_10, x136_11, x136_12, x136_15, x136_18, x136_21, x136_22, x136_25, x136_26, x136_27, x136_28, x136_29, x136_32, x136_33, x136_34, x136_35, x136_36, x136_40, x136_42, x136_45, x136_47, x136_50, x136_52, x136_53, x136_56, x136_59, x136_60, x136_61, x136_62, x136_63, x136_66, x136_68, x136_69, x136_72, x136_73, x136_76, x136_78, x136_79, x136_81, x136_82, x136_83, x136_86, x136_88, x136_89, x136_90, x136_91, x136_92, x136_95, x136_96, x136_97, x136_100, x136_102, x136_103, x136_104, x136_107, x136_110, x136_113, x136_115, x136_118, x136_121, x136_122, x136_123, x136_126, x136_127, x136_128, x136_131, x136_133, x136_134, x136_137, x136_138, x136_141, x136_143, x136_144, x136_147, x136_150, x136_153, x136_154, x136_156, x136_159, x136_162, x136_165, x136_166, gLe_length, e53, if_pos, if_neg, ↓reduceIte, not_true_eq_false, not_false_eq_true]
            | cons w2 S2 =>
              rw [cont_push a4 htr hl]
              have hlen : fs.length + 1 < (rsC σ0 (b1 + 3)).length := by
                have := congrArg List.length h2
                rw [List.length_drop, List.length_cons] at this
                omega
              have hd1 : (rsC σ0 (b1 + 3))[fs.length + 1]? = some w2 := by
                have := congrArg (fun l : List Rw => l[0]?) h2
                simp only [List.getElem?_cons_zero, List.getElem?_drop, Nat.add_zero] at this
                exact this.symm
              have hd2 : S2 = (rsC σ0 (b1 + 3)).drop (fs.length + 1 + 1) := by
                have := congrArg (List.drop 1) h2
                rw [List.drop_drop] at this
                exact this
              have X3' := X3 (by omega)
              have ei : (((fs.length + 1 : Nat)) : Int) = (fs.length : Int) + 1 := by omega
              have Ln : LvL e (coC σ0 b1) (coC σ0 b2) (rsC σ0 (b1 + 3)) (b2 + 3) wo τ3 n' ((w2, β', (if coC σ0 b2 w2.2.1 = coC σ0 b1 w2.2.1 then tgC wo σ0 (b2 + 3) 0 else []), S2, im ++ [(rwC σ0 (b2 + 3) X).1]) :: (w, β, tgC wo σ0 (b2 + 3) (X + 1), w2 :: S2, im) :: fs) := by
                refine ⟨hd1, hd2, ?_, ?_, ?_, ?_, fun i m hi => ?_, n', Nat.le_refl _, ?_, (K3 n').trans hb2, LvL.mono (fun c c0 c1 => by rw [H23 c (by omega) (by omega), H22 c (by omega) (by omega)]) _ n' n' Fr (Nat.le_refl _) (fun i _ => K3 i) (fun j hj => J3 j (by rw [List.length_cons] at hj; omega))⟩
                · rw [List.length_cons, ei, X3'.1]; omega
                · rw [List.length_cons, ei, X3'.1, H23 (b2 + 3) (by omega) (by omega)]; omega
                · rw [List.length_cons, ei, X3'.1, etg3]; rfl
                · rw [List.length_append, List.length_singleton, List.length_cons, h6]
                · rw [H23 (b2 + 3) (by omega) (by omega), ew4]
                  exact h73 i m hi
                · rw [List.length_cons, ei, X3'.2]
              obtain ⟨τ, y1, y2, y3⟩ := ih τ3 n' _ (tries + 1) (turn + 1) (by rw [List.length_cons] at hμ; rw [List.length_cons, List.length_cons]; omega) (by omega) (by omega) (by omega) G3 T3 Ln e53
              refine ⟨τ, y1, y2, fun u Q => ?_⟩
              have y4 := y3 u Q
              rw [show ((((w2, β', (if coC σ0 b2 w2.2.1 = coC σ0 b1 w2.2.1 then tgC wo σ0 (b2 + 3) 0 else []), S2, im ++ [(rwC σ0 (b2 + 3) X).1]) :: (w, β, tgC wo σ0 (b2 + 3) (X + 1), w2 :: S2, im) :: fs).length : Nat) : Int) - 1 = (fs.length : Int) + 1 by rw [List.length_cons, List.length_cons]; omega, et] at y4
              rw [x136_38]
              simp (disch := first | assumption | omega | exact notL_I | exact notL_N | exact notL_R | exact catS_le (Nat.le_of_ble_eq_true rfl) | exact Nat.le_of_ble_eq_true rfl | exact ooRo (by assumption) | exact ooAt (by assumption) | exact ooRu (by assumption) | exact ooLo (by assumption) | exact ooHa (by assumption) | exact ooLe (by assumption) | exact ooFn | exact ooAn | exact ooPa | exact ooTo | exact ooWa | exact ooCh | rfl) only [x136_0, x136_1, x136_4, x136_5, x136_7, x136_8, x136_10, x136_11, x136_12, x136_15, x136_18, x136_21, x136_22, x136_25, x136_26, x136_27, x136_28, x136_29, x136_32, x136_33, x136_34, x136_35, x136_36, x136_40, x136_42, x136_45, x136_47, x136_50, x136_52, x136_53, x136_56, x136_59, x136_60, x136_61, x136_62, x136_63, x136_66, x136_68, x136_69, x136_72, x136_73, x136_76, x136_78, x136_79, x136_81, x136_82, x136_83, x136_86, x136_88, x136_89, x136_90, x136_91, x136_92, x136_95, x136_96, x136_97, x136_100, x136_102, x136_103, x136_104, x136_107, x136_110, x136_113, x136_115, x136_118, x136_121, x136_122, x136_123, x136_126, x136_127, x136_128, x136_131, x136_133, x136_134, x136_137, x136_138, x136_141, x136_143, x136_144, x136_147, x136_150, x136_153, x136_154, x136_156, x136_159, x136_162, x136_165, x136_166, gLe_length, gLe_mark, gLe_chosen, RLe_mark, RLe_chosen, WLe_chosen, e5, k2, r0 u, g3', nt, hτ1, c1, gHa_rows, r1 u, r3 u, Kc_some, Kc_none, if_pos, if_neg, ↓reduceIte, not_true_eq_false, not_false_eq_true]
              exact y4
          · rw [cont_none a4 htr hl]
            subst hn'
            obtain ⟨τ, y1, y2, y3⟩ := ih τ2 _ _ (tries + 1) (turn + 1) (by rw [List.length_cons] at hμ ⊢; omega) (by omega) (by omega) (by omega) G2 T2 Fr e52
            refine ⟨τ, y1, y2, fun u Q => ?_⟩
            have y4 := y3 u Q
            rw [show ((((w, β, tgC wo σ0 (b2 + 3) (X + 1), S, im) :: fs).length : Nat) : Int) - 1 = (fs.length : Int) by rw [List.length_cons]; omega, et] at y4
            rw [x136_38]
            simp (disch := first | assumption | omega | exact notL_I | exact notL_N | exact notL_R | exact catS_le (Nat.le_of_ble_eq_true rfl) | exact Nat.le_of_ble_eq_true rfl | exact ooRo (by assumption) | exact ooAt (by assumption) | exact ooRu (by assumption) | exact ooLo (by assumption) | exact ooHa (by assumption) | exact ooLe (by assumption) | exact ooFn | exact ooAn | exact ooPa | exact ooTo | exact ooWa | exact ooCh | rfl) only [x136_0, x136_1, x136_4, x136_5, x136_7, x136_8, x136_10, x136_11, x136_12, x136_15, x136_18, x136_21, x136_22, x136_25, x136_26, x136_27, x136_28, x136_29, x136_32, x136_33, x136_34, x136_35, x136_36, x136_40, x136_42, x136_45, x136_47, x136_50, x136_52, x136_53, x136_56, x136_59, x136_60, x136_61, x136_62, x136_63, x136_66, x136_68, x136_69, x136_72, x136_73, x136_76, x136_78, x136_79, x136_81, x136_82, x136_83, x136_86, x136_88, x136_89, x136_90, x136_91, x136_92, x136_95, x136_96, x136_97, x136_100, x136_102, x136_103, x136_104, x136_107, x136_110, x136_113, x136_115, x136_118, x136_121, x136_122, x136_123, x136_126, x136_127, x136_128, x136_131, x136_133, x136_134, x136_137, x136_138, x136_141, x136_143, x136_144, x136_147, x136_150, x136_153, x136_154, x136_156, x136_159, x136_162, x136_165, x136_166, gLe_length, gLe_mark, gLe_chosen, RLe_mark, RLe_chosen, WLe_chosen, e5, k2, r0 u, g3', nt, hτ1, c1, gHa_rows, r1 u, Kc_some, Kc_none, if_pos, if_neg, ↓reduceIte, not_true_eq_false, not_false_eq_true]
            exact y4
end L4
