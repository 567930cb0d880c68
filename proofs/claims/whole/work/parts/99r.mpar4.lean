/-! the reference reads: atoms -/
theorem andP_r {α β : Type} {a : α} {f : α → Fa ⊕ β} : andP (.inr a) f = f a := rfl
theorem andP_l {α β : Type} {e : Fa} {f : α → Fa ⊕ β} : andP (.inl e) f = .inl e := rfl
section L4
variable {sc : Scr} {d : Nat} {σ : St} {h r sd : Int}
theorem Fpb.atk {τ ρ : St} (F : Fpb h r sd τ ρ) : ∀ c, c ≠ 373 → c ≠ 376 → c ≠ 387 → ρ c = τ c := F.1
set_option maxHeartbeats 2000000 in
theorem l_atm {most : Nat} (hd : 6 ≤ d) (W : WfM σ) (h1 : 0 ≤ h) (h2 : h ≤ 4) (r1 : 0 ≤ r) (r2 : r ≤ 9) (s1 : 0 ≤ sd) (s2 : sd ≤ 1) (hm1 : 1 ≤ most) (hm3 : most ≤ 3) :
    ∀ (f n : Nat) (acc : List At) (s : Ps) (τ : St), f + n = most + 1 → acc.length = n → n ≤ most → Fpb h r sd σ τ → WfM τ → PcI τ s → (∀ (i : Nat) (a : At), acc[i]? = some a → atR τ h r sd i = a ∧ okA (coR σ h) a) →
    (∃ as s' ρ, atmP (nxT (σ 386) (σ 373 14)) (coR σ h) most f n acc s = .inr (as, s') ∧ 1 ≤ as.length ∧ as.length ≤ most ∧ Fpb h r sd σ ρ ∧ WfM ρ ∧ PcI ρ s' ∧ ρ 376 (30 * (10 * h + r) + 2 * sd) = (as.length : Int) ∧ (∀ (i : Nat) (a : At), as[i]? = some a → atR ρ h r sd i = a ∧ okA (coR σ h) a) ∧ ∀ (u : Bool × Nat × Nat × Int) (Q : Rs → HS → Prop) (l6 l7 l8 l9 : Option V), Ex sc d 207 12 [some (vR 373), some (vI h), some (vI r), some (vI sd), some (vI ((most : Int))), some (vI ((n : Int))), l6, l7, l8, l9] [] (wH τ u) Q ↔ Q (.inl (some (vI (1)))) (wH ρ u)) ∨
    (∃ e ρ, atmP (nxT (σ 386) (σ 373 14)) (coR σ h) most f n acc s = .inl e ∧ Fpb h r sd σ ρ ∧ WfM ρ ∧ BdI ρ e ∧ ∀ (u : Bool × Nat × Nat × Int) (Q : Rs → HS → Prop) (l6 l7 l8 l9 : Option V), Ex sc d 207 12 [some (vR 373), some (vI h), some (vI r), some (vI sd), some (vI ((most : Int))), some (vI ((n : Int))), l6, l7, l8, l9] [] (wH τ u) Q ↔ Q (.inl (some (vI (0)))) (wH ρ u)) := by
  intro f
  induction f with
  | zero => intro n acc s τ fn ha hn; omega
  | succ f ih =>
    intro n acc s τ fn ha hn F Wτ H hac
    have e74 : τ 374 = σ 374 := F.1 374 (by omega) (by omega) (by omega)
    have eC := F.co (g := h)
    rcases s_aTab1 (sc := sc) (d := d - 1) (h := h) (by omega) Wτ h1 h2 H with ⟨t, τ1, q1, q2, t0, t1, qc, F1, H1, e22, x1⟩ | ⟨e, τ1, q1, F1, B1, x1⟩
    case inr =>
      rw [eC] at q1
      refine Or.inr ⟨e, τ1, by rw [atmP, q1, andP_l], F.trans F1.pb, F1.dt.wf Wτ, B1, fun u Q l6 l7 l8 l9 => ?_⟩
      rw [x207_12]
      simp (disch := first | omega | exact notL_I | exact notL_N | exact notL_R | exact oM | exact catS_le (Nat.le_of_ble_eq_true rfl) | exact Nat.le_of_ble_eq_true rfl | rfl) only [x207_0, x207_1, x207_5, x207_8, x207_9, x207_13, x207_16, x207_18, x207_19, x207_20, x207_21, x207_24, x207_27, x207_28, x207_29, x207_31, x207_33, x207_36, x207_37, x207_38, x207_40, x207_43, x207_44, x207_45, x207_48, x207_50, x207_51, x207_54, x207_55, x207_56, x207_58, x207_59, x207_62, x207_65, x207_66, x207_67, x207_68, x207_69, x207_70, x207_71, x207_72, x207_74, x207_75, x207_76, x207_77, x207_79, x207_80, x207_81, x207_82, x207_84, x207_86, x207_89, x207_90, x207_94, x207_95, x207_98, x207_99, x207_100, x207_101, x207_103, x207_104, x207_105, x207_107, x207_108, x207_109, x207_112, x207_114, x207_115, x207_118, x207_121, x207_127, x207_128, x207_130, x207_133, x207_136, x207_137, x207_138, x207_139, x207_140, x207_143, x207_144, x207_147, x207_148, x207_150, x207_153, x207_154, gM_tokenAt, H.1.2.1, x1 u, Kc_some, if_pos, if_neg, ↓reduceIte, not_true_eq_false, not_false_eq_true]
    rw [eC] at q1
    have W1 := F1.dt.wf Wτ
    have G1 : Fpb h r sd σ τ1 := F.trans F1.pb
    by_cases hnm : n = most
    · have hnm' : (n : Int) = (most : Int) := by omega
      have bd := fun u Q => s_bad (sc := sc) (d := d - 1) (σ := τ1) (k := 4) (p := s.2.1) H1.2.1 u Q
      refine Or.inr ⟨(4, s.2.1), _, by rw [atmP, q1, andP_r, if_pos hnm'], G1.trans bad_v.1.pb, bad_v.1.dt.wf W1, bad_v.2, fun u Q l6 l7 l8 l9 => ?_⟩
      rw [x207_12]
      simp (disch := first | omega | exact notL_I | exact notL_N | exact notL_R | exact oM | exact catS_le (Nat.le_of_ble_eq_true rfl) | exact Nat.le_of_ble_eq_true rfl | rfl) only [x207_0, x207_1, x207_5, x207_8, x207_9, x207_13, x207_16, x207_18, x207_19, x207_20, x207_21, x207_24, x207_27, x207_28, x207_29, x207_31, x207_33, x207_36, x207_37, x207_38, x207_40, x207_43, x207_44, x207_45, x207_48, x207_50, x207_51, x207_54, x207_55, x207_56, x207_58, x207_59, x207_62, x207_65, x207_66, x207_67, x207_68, x207_69, x207_70, x207_71, x207_72, x207_74, x207_75, x207_76, x207_77, x207_79, x207_80, x207_81, x207_82, x207_84, x207_86, x207_89, x207_90, x207_94, x207_95, x207_98, x207_99, x207_100, x207_101, x207_103, x207_104, x207_105, x207_107, x207_108, x207_109, x207_112, x207_114, x207_115, x207_118, x207_121, x207_127, x207_128, x207_130, x207_133, x207_136, x207_137, x207_138, x207_139, x207_140, x207_143, x207_144, x207_147, x207_148, x207_150, x207_153, x207_154, gM_tokenAt, H.1.2.1, x1 u, bd, Kc_some, if_pos, if_neg, ↓reduceIte, not_true_eq_false, not_false_eq_true]
    · have hnm' : ¬ (n : Int) = (most : Int) := by omega
      obtain ⟨τ2, y1, y2, y3⟩ := s_lookP (sc := sc) (d := d - 1) (by omega) W1 H1
      rw [G1.tx.1, G1.tx.2] at y2
      have W2 := y1.dt.wf W1
      have G2 : Fpb h r sd σ τ2 := G1.trans y1.pa.pb
      have e742 : τ2 374 = σ 374 := G2.1 374 (by omega) (by omega) (by omega)
      have ct : coR σ h t = σ 374 (26 * h + t) := coR_in t0 t1
      have wc := W.col h1 h2 t0 t1
      have hc1 : 1 ≤ σ 374 (26 * h + t) := by rw [e74] at qc; exact qc
      have e22' : τ2 373 22 = t := by rw [y1.2 22 (by omega) (by omega) (by omega)]; exact e22
      have sv := s_sev (sc := sc) (d := d - 1) (σ := τ2) (h := h) (t := t) (m := σ 374 (26 * h + t)) (row := false) (by omega) W2 h1 h2 t0 t1 (by rw [e742]) hc1 wc.2 y2
      rw [G2.tx.1, G2.tx.2, ← ct] at sv
      have bf : bI false = 0 := rfl
      rw [bf] at sv
      rcases sv with ⟨l, s', τ3, n1, n2, F3, H3, n5, n6, x3⟩ | ⟨e, τ3, n1, F3, B3, x3⟩
      case inr =>
        refine Or.inr ⟨e, τ3, by rw [atmP, q1, andP_r, if_neg hnm', n1, andP_l], G2.trans F3.pb, F3.dt.wf W2, B3, fun u Q l6 l7 l8 l9 => ?_⟩
        rw [x207_12]
        simp (disch := first | omega | exact notL_I | exact notL_N | exact notL_R | exact oM | exact catS_le (Nat.le_of_ble_eq_true rfl) | exact Nat.le_of_ble_eq_true rfl | rfl) only [x207_0, x207_1, x207_5, x207_8, x207_9, x207_13, x207_16, x207_18, x207_19, x207_20, x207_21, x207_24, x207_27, x207_28, x207_29, x207_31, x207_33, x207_36, x207_37, x207_38, x207_40, x207_43, x207_44, x207_45, x207_48, x207_50, x207_51, x207_54, x207_55, x207_56, x207_58, x207_59, x207_62, x207_65, x207_66, x207_67, x207_68, x207_69, x207_70, x207_71, x207_72, x207_74, x207_75, x207_76, x207_77, x207_79, x207_80, x207_81, x207_82, x207_84, x207_86, x207_89, x207_90, x207_94, x207_95, x207_98, x207_99, x207_100, x207_101, x207_103, x207_104, x207_105, x207_107, x207_108, x207_109, x207_112, x207_114, x207_115, x207_118, x207_121, x207_127, x207_128, x207_130, x207_133, x207_136, x207_137, x207_138, x207_139, x207_140, x207_143, x207_144, x207_147, x207_148, x207_150, x207_153, x207_154, gM_tokenAt, gM_read, H.1.2.1, e22, e22', x1 u, y3 u, x3 u, Kc_some, Kc_none, if_pos, if_neg, ↓reduceIte, not_true_eq_false, not_false_eq_true]
      have eR : atmP (nxT (σ 386) (σ 373 14)) (coR σ h) most (f + 1) n acc s = if s'.1 = 544 then atmP (nxT (σ 386) (σ 373 14)) (coR σ h) most f ((n : Int) + 1) (acc ++ [atL t l]) (nxT (σ 386) (σ 373 14) s'.2.2) else .inr (acc ++ [atL t l], s') := by rw [atmP, q1, andP_r, if_neg hnm', n1, andP_r]
      have G3 : Fpb h r sd σ τ3 := G2.trans F3.pb
      have W3 := F3.dt.wf W2
      have ln : (l.length : Int) = σ 374 (26 * h + t) := by rw [n2, ct]
      have pl : ∀ i : Nat, i < 3 → isPl (τ3 387 i) := fun i hi => by
        rw [n5 i hi, List.getD_eq_getElem?_getD]
        cases hg : l[i]? with
        | none => exact Or.inl ⟨by decide, by decide⟩
        | some c => exact n6 c (List.mem_of_getElem? hg)
      have p0 := pl 0 (by omega)
      have p1 := pl 1 (by omega)
      have p2 := pl 2 (by omega)
      rw [show ((0 : Nat) : Int) = 0 from rfl] at p0
      rw [show ((1 : Nat) : Int) = 1 from rfl] at p1
      rw [show ((2 : Nat) : Int) = 2 from rfl] at p2
      have eat : atL t l = (t, nrm (σ 374 (26 * h + t)) (τ3 387 0) (τ3 387 1) (τ3 387 2)) := atL_nrm ln hc1 wc.2 n5
      have okn : okA (coR σ h) (atL t l) := by
        rw [eat]
        exact ⟨t0, t1, by show 1 ≤ coR σ h t; rw [ct]; exact hc1, τ3 387 0, τ3 387 1, τ3 387 2, p0, p1, p2, by show _ = nrm (coR σ h t) _ _ _; rw [ct]⟩
      -- the atom is written
      have jr : 0 ≤ 3 * sd + (n : Int) ∧ 3 * sd + (n : Int) ≤ 5 := by omega
      have X0 : ∀ X, X = su (su (su (su τ3 376 (30 * (10 * h + r) + (3 + 4 * (3 * sd + (n : Int)))) t) 376 (30 * (10 * h + r) + (3 + 4 * (3 * sd + (n : Int)) + 1 + 0)) (τ3 387 0)) 376 (30 * (10 * h + r) + (3 + 4 * (3 * sd + (n : Int)) + 1 + (0 + 1))) (τ3 387 (0 + 1))) 376 (30 * (10 * h + r) + (3 + 4 * (3 * sd + (n : Int)) + 1 + (0 + 1 + 1))) (τ3 387 (0 + 1 + 1)) → WfM X ∧ Fpb h r sd σ X ∧ PcI X s' ∧ (∀ (i : Nat) (a : At), (acc ++ [atL t l])[i]? = some a → atR X h r sd i = a ∧ okA (coR σ h) a) := by
        rintro X rfl
        have w1 := W3.su6 (i := 10 * h + r) (f := 3 + 4 * (3 * sd + (n : Int))) (v := t) (by omega) (by omega) (by omega) (by omega) (fOk_t jr.1 jr.2 ⟨t0, t1⟩)
        have w2 := w1.su6 (i := 10 * h + r) (f := 3 + 4 * (3 * sd + (n : Int)) + 1 + 0) (v := τ3 387 0) (by omega) (by omega) (by omega) (by omega) (fOk_p jr.1 jr.2 (by omega) (by omega) p0)
        have w3 := w2.su6 (i := 10 * h + r) (f := 3 + 4 * (3 * sd + (n : Int)) + 1 + (0 + 1)) (v := τ3 387 (0 + 1)) (by omega) (by omega) (by omega) (by omega) (fOk_p jr.1 jr.2 (by omega) (by omega) (by rw [show (0 : Int) + 1 = 1 from rfl]; exact p1))
        have w4 := w3.su6 (i := 10 * h + r) (f := 3 + 4 * (3 * sd + (n : Int)) + 1 + (0 + 1 + 1)) (v := τ3 387 (0 + 1 + 1)) (by omega) (by omega) (by omega) (by omega) (fOk_p jr.1 jr.2 (by omega) (by omega) (by rw [show (0 : Int) + 1 + 1 = 2 from rfl]; exact p2))
        have g1 : Fpb h r sd τ3 (su τ3 376 (30 * (10 * h + r) + (3 + 4 * (3 * sd + (n : Int)))) t) := Fpb.su_ (by omega) (by omega) (by omega)
        have g2 := g1.trans (Fpb.su_ (h := h) (r := r) (s := sd) (f := 3 + 4 * (3 * sd + (n : Int)) + 1 + 0) (v := τ3 387 0) (by omega) (by omega) (by omega))
        have g3 := g2.trans (Fpb.su_ (h := h) (r := r) (s := sd) (f := 3 + 4 * (3 * sd + (n : Int)) + 1 + (0 + 1)) (v := τ3 387 (0 + 1)) (by omega) (by omega) (by omega))
        have g4 := g3.trans (Fpb.su_ (h := h) (r := r) (s := sd) (f := 3 + 4 * (3 * sd + (n : Int)) + 1 + (0 + 1 + 1)) (v := τ3 387 (0 + 1 + 1)) (by omega) (by omega) (by omega))
        refine ⟨w4, G3.trans g4, ?_, fun i a hi => ?_⟩
        · unfold PcI PsI
          rw [su_ne (by omega), su_ne (by omega), su_ne (by omega), su_ne (by omega)]
          exact H3
        · have hil := (List.getElem?_eq_some_iff.mp hi).1
          rw [List.length_append, List.length_singleton] at hil
          have e74' : ∀ X, Fpb h r sd σ X → X 374 = σ 374 := fun X F => F.1 374 (by omega) (by omega) (by omega)
          by_cases hin : i < acc.length
          · rw [List.getElem?_append_left hin] at hi
            have hh := hac i a hi
            refine ⟨?_, hh.2⟩
            rw [← hh.1]
            have sm : ∀ o, 3 + 4 * (3 * sd + (i : Int)) ≤ o → o ≤ 3 + 4 * (3 * sd + (i : Int)) + 3 → su (su (su (su τ3 376 (30 * (10 * h + r) + (3 + 4 * (3 * sd + (n : Int)))) t) 376 (30 * (10 * h + r) + (3 + 4 * (3 * sd + (n : Int)) + 1 + 0)) (τ3 387 0)) 376 (30 * (10 * h + r) + (3 + 4 * (3 * sd + (n : Int)) + 1 + (0 + 1))) (τ3 387 (0 + 1))) 376 (30 * (10 * h + r) + (3 + 4 * (3 * sd + (n : Int)) + 1 + (0 + 1 + 1))) (τ3 387 (0 + 1 + 1)) 376 (30 * (10 * h + r) + o) = τ 376 (30 * (10 * h + r) + o) := fun o o0 o1 => by
              rw [su_off (by omega), su_off (by omega), su_off (by omega), su_off (by omega), F3.1 376 (by omega) (by omega), y1.1 376 (by omega), F1.1 376 (by omega) (by omega)]
            unfold atR
            rw [sm _ (by omega) (by omega), sm _ (by omega) (by omega), sm _ (by omega) (by omega), sm _ (by omega) (by omega), e74' _ (G3.trans g4), e74]
          · have : i = n := by omega
            subst this
            rw [List.getElem?_append_right (by omega), ha, Nat.sub_self] at hi
            have hat : atL t l = a := Option.some.inj hi
            refine ⟨?_, hat ▸ okn⟩
            rw [← hat, eat]
            have a0 : su (su (su (su τ3 376 (30 * (10 * h + r) + (3 + 4 * (3 * sd + (i : Int)))) t) 376 (30 * (10 * h + r) + (3 + 4 * (3 * sd + (i : Int)) + 1 + 0)) (τ3 387 0)) 376 (30 * (10 * h + r) + (3 + 4 * (3 * sd + (i : Int)) + 1 + (0 + 1))) (τ3 387 (0 + 1))) 376 (30 * (10 * h + r) + (3 + 4 * (3 * sd + (i : Int)) + 1 + (0 + 1 + 1))) (τ3 387 (0 + 1 + 1)) 376 (30 * (10 * h + r) + (3 + 4 * (3 * sd + (i : Int)))) = t := by
              rw [su_off (by omega), su_off (by omega), su_off (by omega), su_eq]
            have a1 : su (su (su (su τ3 376 (30 * (10 * h + r) + (3 + 4 * (3 * sd + (i : Int)))) t) 376 (30 * (10 * h + r) + (3 + 4 * (3 * sd + (i : Int)) + 1 + 0)) (τ3 387 0)) 376 (30 * (10 * h + r) + (3 + 4 * (3 * sd + (i : Int)) + 1 + (0 + 1))) (τ3 387 (0 + 1))) 376 (30 * (10 * h + r) + (3 + 4 * (3 * sd + (i : Int)) + 1 + (0 + 1 + 1))) (τ3 387 (0 + 1 + 1)) 376 (30 * (10 * h + r) + (3 + 4 * (3 * sd + (i : Int)) + 1)) = τ3 387 0 := by
              rw [su_off (by omega), su_off (by omega), su_at, if_pos (by omega)]
            have a2 : su (su (su (su τ3 376 (30 * (10 * h + r) + (3 + 4 * (3 * sd + (i : Int)))) t) 376 (30 * (10 * h + r) + (3 + 4 * (3 * sd + (i : Int)) + 1 + 0)) (τ3 387 0)) 376 (30 * (10 * h + r) + (3 + 4 * (3 * sd + (i : Int)) + 1 + (0 + 1))) (τ3 387 (0 + 1))) 376 (30 * (10 * h + r) + (3 + 4 * (3 * sd + (i : Int)) + 1 + (0 + 1 + 1))) (τ3 387 (0 + 1 + 1)) 376 (30 * (10 * h + r) + (3 + 4 * (3 * sd + (i : Int)) + 2)) = τ3 387 1 := by
              rw [su_off (by omega), su_at, if_pos (by omega)]
              rfl
            have a3 : su (su (su (su τ3 376 (30 * (10 * h + r) + (3 + 4 * (3 * sd + (i : Int)))) t) 376 (30 * (10 * h + r) + (3 + 4 * (3 * sd + (i : Int)) + 1 + 0)) (τ3 387 0)) 376 (30 * (10 * h + r) + (3 + 4 * (3 * sd + (i : Int)) + 1 + (0 + 1))) (τ3 387 (0 + 1))) 376 (30 * (10 * h + r) + (3 + 4 * (3 * sd + (i : Int)) + 1 + (0 + 1 + 1))) (τ3 387 (0 + 1 + 1)) 376 (30 * (10 * h + r) + (3 + 4 * (3 * sd + (i : Int)) + 3)) = τ3 387 2 := by
              rw [su_at, if_pos (by omega)]
              rfl
            unfold atR
            rw [a0, a1, a2, a3, e74' _ (G3.trans g4)]
      obtain ⟨WX, GX, HX, AX⟩ := X0 _ rfl
      have run : ∀ (u : Bool × Nat × Nat × Int) (Q : Rs → HS → Prop) (l6 l7 l8 l9 : Option V), Ex sc d 207 12 [some (vR 373), some (vI h), some (vI r), some (vI sd), some (vI ((most : Int))), some (vI ((n : Int))), l6, l7, l8, l9] [] (wH τ u) Q ↔ Ex sc d 207 124 [some (vR 373), some (vI h), some (vI r), some (vI sd), some (vI ((most : Int))), some (vI ((n : Int))), some (vI s.2.1), some (vI t), some (vI (3 + 4 * (3 * sd + (n : Int)))), some (vI (0 + 1 + 1 + 1))] [] (wH (su (su (su (su τ3 376 (30 * (10 * h + r) + (3 + 4 * (3 * sd + (n : Int)))) t) 376 (30 * (10 * h + r) + (3 + 4 * (3 * sd + (n : Int)) + 1 + 0)) (τ3 387 0)) 376 (30 * (10 * h + r) + (3 + 4 * (3 * sd + (n : Int)) + 1 + (0 + 1))) (τ3 387 (0 + 1))) 376 (30 * (10 * h + r) + (3 + 4 * (3 * sd + (n : Int)) + 1 + (0 + 1 + 1))) (τ3 387 (0 + 1 + 1))) u) Q := by
        intro u Q l6 l7 l8 l9
        have st : ∀ (c : Int) (Y : St) (v : Int), 0 ≤ c → c ≤ 2 → Y 387 c = v → (Ex sc d 207 92 [some (vR 373), some (vI h), some (vI r), some (vI sd), some (vI ((most : Int))), some (vI ((n : Int))), some (vI s.2.1), some (vI t), some (vI (3 + 4 * (3 * sd + (n : Int)))), some (vI c)] [] (wH Y u) Q ↔ Ex sc d 207 92 [some (vR 373), some (vI h), some (vI r), some (vI sd), some (vI ((most : Int))), some (vI ((n : Int))), some (vI s.2.1), some (vI t), some (vI (3 + 4 * (3 * sd + (n : Int)))), some (vI (c + 1))] [] (wH (su Y 376 (30 * (10 * h + r) + (3 + 4 * (3 * sd + (n : Int)) + 1 + c)) v) u) Q) := by
          intro c Y v c0 c1 hv
          rw [x207_92]
          simp (disch := first | omega | exact notL_I | exact notL_N | exact notL_R | exact oM | exact catS_le (Nat.le_of_ble_eq_true rfl) | exact Nat.le_of_ble_eq_true rfl | rfl) only [x207_0, x207_1, x207_5, x207_8, x207_9, x207_13, x207_16, x207_18, x207_19, x207_20, x207_21, x207_24, x207_27, x207_28, x207_29, x207_31, x207_33, x207_36, x207_37, x207_38, x207_40, x207_43, x207_44, x207_45, x207_48, x207_50, x207_51, x207_54, x207_55, x207_56, x207_58, x207_59, x207_62, x207_65, x207_66, x207_67, x207_68, x207_69, x207_70, x207_71, x207_72, x207_74, x207_75, x207_76, x207_77, x207_79, x207_80, x207_81, x207_82, x207_84, x207_86, x207_89, x207_90, x207_94, x207_95, x207_98, x207_99, x207_100, x207_101, x207_103, x207_104, x207_105, x207_107, x207_108, x207_109, x207_112, x207_114, x207_115, x207_118, x207_121, x207_127, x207_128, x207_130, x207_133, x207_136, x207_137, x207_138, x207_139, x207_140, x207_143, x207_144, x207_147, x207_148, x207_150, x207_153, x207_154, gM_list, RM_list, s_setRule, hv, Kc_none, if_pos, if_neg, ↓reduceIte, not_true_eq_false, not_false_eq_true]
        have e92 : Ex sc d 207 12 [some (vR 373), some (vI h), some (vI r), some (vI sd), some (vI ((most : Int))), some (vI ((n : Int))), l6, l7, l8, l9] [] (wH τ u) Q ↔ Ex sc d 207 92 [some (vR 373), some (vI h), some (vI r), some (vI sd), some (vI ((most : Int))), some (vI ((n : Int))), some (vI s.2.1), some (vI t), some (vI (3 + 4 * (3 * sd + (n : Int)))), some (vI 0)] [] (wH (su τ3 376 (30 * (10 * h + r) + (3 + 4 * (3 * sd + (n : Int)))) t) u) Q := by
          rw [x207_12]
          simp (disch := first | omega | exact notL_I | exact notL_N | exact notL_R | exact oM | exact catS_le (Nat.le_of_ble_eq_true rfl) | exact Nat.le_of_ble_eq_true rfl | rfl) only [x207_0, x207_1, x207_5, x207_8, x207_9, x207_13, x207_16, x207_18, x207_19, x207_20, x207_21, x207_24, x207_27, x207_28, x207_29, x207_31, x207_33, x207_36, x207_37, x207_38, x207_40, x207_43, x207_44, x207_45, x207_48, x207_50, x207_51, x207_54, x207_55, x207_56, x207_58, x207_59, x207_62, x207_65, x207_66, x207_67, x207_68, x207_69, x207_70, x207_71, x207_72, x207_74, x207_75, x207_76, x207_77, x207_79, x207_80, x207_81, x207_82, x207_84, x207_86, x207_89, x207_90, x207_94, x207_95, x207_98, x207_99, x207_100, x207_101, x207_103, x207_104, x207_105, x207_107, x207_108, x207_109, x207_112, x207_114, x207_115, x207_118, x207_121, x207_127, x207_128, x207_130, x207_133, x207_136, x207_137, x207_138, x207_139, x207_140, x207_143, x207_144, x207_147, x207_148, x207_150, x207_153, x207_154, gM_tokenAt, gM_read, H.1.2.1, e22, e22', x1 u, y3 u, x3 u, s_setRule, Kc_some, Kc_none, if_pos, if_neg, ↓reduceIte, not_true_eq_false, not_false_eq_true]
        have a0 := st 0 (su τ3 376 (30 * (10 * h + r) + (3 + 4 * (3 * sd + (n : Int)))) t) (τ3 387 0) (by omega) (by omega) (by rw [su_ne (by omega)])
        have a1 := st (0 + 1) (su (su τ3 376 (30 * (10 * h + r) + (3 + 4 * (3 * sd + (n : Int)))) t) 376 (30 * (10 * h + r) + (3 + 4 * (3 * sd + (n : Int)) + 1 + 0)) (τ3 387 0)) (τ3 387 (0 + 1)) (by omega) (by omega) (by rw [su_ne (by omega), su_ne (by omega)])
        have a2 := st (0 + 1 + 1) (su (su (su τ3 376 (30 * (10 * h + r) + (3 + 4 * (3 * sd + (n : Int)))) t) 376 (30 * (10 * h + r) + (3 + 4 * (3 * sd + (n : Int)) + 1 + 0)) (τ3 387 0)) 376 (30 * (10 * h + r) + (3 + 4 * (3 * sd + (n : Int)) + 1 + (0 + 1))) (τ3 387 (0 + 1))) (τ3 387 (0 + 1 + 1)) (by omega) (by omega) (by rw [su_ne (by omega), su_ne (by omega), su_ne (by omega)])
        rw [e92, a0, a1, a2, x207_92]
        simp (disch := first | omega | exact notL_I | exact notL_N | exact notL_R | exact oM | exact catS_le (Nat.le_of_ble_eq_true rfl) | exact Nat.le_of_ble_eq_true rfl | rfl) only [x207_0, x207_1, x207_5, x207_8, x207_9, x207_13, x207_16, x207_18, x207_19, x207_20, x207_21, x207_24, x207_27, x207_28, x207_29, x207_31, x207_33, x207_36, x207_37, x207_38, x207_40, x207_43, x207_44, x207_45, x207_48, x207_50, x207_51, x207_54, x207_55, x207_56, x207_58, x207_59, x207_62, x207_65, x207_66, x207_67, x207_68, x207_69, x207_70, x207_71, x207_72, x207_74, x207_75, x207_76, x207_77, x207_79, x207_80, x207_81, x207_82, x207_84, x207_86, x207_89, x207_90, x207_94, x207_95, x207_98, x207_99, x207_100, x207_101, x207_103, x207_104, x207_105, x207_107, x207_108, x207_109, x207_112, x207_114, x207_115, x207_118, x207_121, x207_127, x207_128, x207_130, x207_133, x207_136, x207_137, x207_138, x207_139, x207_140, x207_143, x207_144, x207_147, x207_148, x207_150, x207_153, x207_154, if_pos, if_neg, ↓reduceIte, not_true_eq_false, not_false_eq_true]
      have hln : (acc ++ [atL t l]).length = n + 1 := by rw [List.length_append, List.length_singleton, ha]
      generalize su (su (su (su τ3 376 (30 * (10 * h + r) + (3 + 4 * (3 * sd + (n : Int)))) t) 376 (30 * (10 * h + r) + (3 + 4 * (3 * sd + (n : Int)) + 1 + 0)) (τ3 387 0)) 376 (30 * (10 * h + r) + (3 + 4 * (3 * sd + (n : Int)) + 1 + (0 + 1))) (τ3 387 (0 + 1))) 376 (30 * (10 * h + r) + (3 + 4 * (3 * sd + (n : Int)) + 1 + (0 + 1 + 1))) (τ3 387 (0 + 1 + 1)) = X at *
      have c44 := s_isSign (sc := sc) (d := d - 1) (c := 44) HX.1.1 HX.2.2.1 (by omega)
      have ei : ((n + 1 : Nat) : Int) = (n : Int) + 1 := by omega
      by_cases k44 : s'.1 = 544
      · simp only [if_pos (show s'.1 = 500 + 44 by omega)] at c44
        rw [if_pos k44] at eR
        rw [eR]
        obtain ⟨τ4, v1, v2, v3⟩ := s_lookP (sc := sc) (d := d - 1) (by omega) WX HX
        rw [GX.tx.1, GX.tx.2] at v2
        have nx := ih (n + 1) (acc ++ [atL t l]) _ τ4 (by omega) hln (by omega) (GX.trans v1.pa.pb) (v1.dt.wf WX) v2 (fun i a hi => by rw [v1.dt.at_]; exact AX i a hi)
        rw [ei] at nx
        have run2 : ∀ (u : Bool × Nat × Nat × Int) (Q : Rs → HS → Prop) (l6 l7 l8 l9 : Option V), Ex sc d 207 12 [some (vR 373), some (vI h), some (vI r), some (vI sd), some (vI ((most : Int))), some (vI ((n : Int))), l6, l7, l8, l9] [] (wH τ u) Q ↔ Ex sc d 207 12 [some (vR 373), some (vI h), some (vI r), some (vI sd), some (vI ((most : Int))), some (vI ((n : Int) + 1)), some (vI s.2.1), some (vI t), some (vI (3 + 4 * (3 * sd + (n : Int)))), some (vI (0 + 1 + 1 + 1))] [] (wH τ4 u) Q := by
          intro u Q l6 l7 l8 l9
          rw [run u Q l6 l7 l8 l9, x207_124]
          simp (disch := first | omega | exact notL_I | exact notL_N | exact notL_R | exact oM | exact catS_le (Nat.le_of_ble_eq_true rfl) | exact Nat.le_of_ble_eq_true rfl | rfl) only [x207_0, x207_1, x207_3, x207_5, x207_8, x207_9, x207_13, x207_16, x207_18, x207_19, x207_20, x207_21, x207_24, x207_27, x207_28, x207_29, x207_31, x207_33, x207_36, x207_37, x207_38, x207_40, x207_43, x207_44, x207_45, x207_48, x207_50, x207_51, x207_54, x207_55, x207_56, x207_58, x207_59, x207_62, x207_65, x207_66, x207_67, x207_68, x207_69, x207_70, x207_71, x207_72, x207_74, x207_75, x207_76, x207_77, x207_79, x207_80, x207_81, x207_82, x207_84, x207_86, x207_89, x207_90, x207_94, x207_95, x207_98, x207_99, x207_100, x207_101, x207_103, x207_104, x207_105, x207_107, x207_108, x207_109, x207_112, x207_114, x207_115, x207_118, x207_121, x207_127, x207_128, x207_130, x207_133, x207_136, x207_137, x207_138, x207_139, x207_140, x207_143, x207_144, x207_147, x207_148, x207_150, x207_153, x207_154, c44, v3 u, Kc_some, Kc_none, if_pos, if_neg, ↓reduceIte, not_true_eq_false, not_false_eq_true]
        rcases nx with ⟨as, s'', ρ, z1, z2, z3, z4, z5, z6, z7, z8, z9⟩ | ⟨e, ρ, z1, z2, z3, z4, z5⟩
        · exact Or.inl ⟨as, s'', ρ, z1, z2, z3, z4, z5, z6, z7, z8, fun u Q l6 l7 l8 l9 => (run2 u Q l6 l7 l8 l9).trans (z9 u Q _ _ _ _)⟩
        · exact Or.inr ⟨e, ρ, z1, z2, z3, z4, fun u Q l6 l7 l8 l9 => (run2 u Q l6 l7 l8 l9).trans (z5 u Q _ _ _ _)⟩
      · simp only [if_neg (show ¬ s'.1 = 500 + 44 by omega)] at c44
        rw [if_neg k44] at eR
        rw [eR]
        refine Or.inl ⟨_, _, su X 376 (30 * (10 * h + r) + 2 * sd) ((n : Int) + 1), rfl, by omega, by omega, GX.trans (Fpb.su_ (by omega) (by omega) (by omega)), WX.su6 (by omega) (by omega) (by omega) (by omega) ⟨fun _ => by omega, fun z => by omega, fun z => by omega, fun z => by omega, fun z => by omega⟩, ?_, by rw [su_eq, hln]; omega, fun i a hi => ?_, fun u Q l6 l7 l8 l9 => ?_⟩
        · unfold PcI PsI
          rw [su_ne (by omega)]
          exact HX
        · have hh := AX i a hi
          refine ⟨?_, hh.2⟩
          rw [← hh.1]
          have hil := (List.getElem?_eq_some_iff.mp hi).1
          have sm : ∀ o, 3 + 4 * (3 * sd + (i : Int)) ≤ o → o ≤ 3 + 4 * (3 * sd + (i : Int)) + 3 → su X 376 (30 * (10 * h + r) + 2 * sd) ((n : Int) + 1) 376 (30 * (10 * h + r) + o) = X 376 (30 * (10 * h + r) + o) := fun o o0 o1 => su_off (by omega)
          unfold atR
          rw [sm _ (by omega) (by omega), sm _ (by omega) (by omega), sm _ (by omega) (by omega), sm _ (by omega) (by omega), su_ne (by omega)]
        · rw [run u Q l6 l7 l8 l9, x207_124]
          rcases (show sd = 0 ∨ sd = 1 by omega) with rfl | rfl
          · have e20 : (2 : Int) * 0 = 0 := rfl
            rw [e20]
            simp (disch := first | omega | exact notL_I | exact notL_N | exact notL_R | exact oM | exact catS_le (Nat.le_of_ble_eq_true rfl) | exact Nat.le_of_ble_eq_true rfl | rfl) only [x207_0, x207_1, x207_3, x207_5, x207_8, x207_9, x207_13, x207_16, x207_18, x207_19, x207_20, x207_21, x207_24, x207_27, x207_28, x207_29, x207_31, x207_33, x207_36, x207_37, x207_38, x207_40, x207_43, x207_44, x207_45, x207_48, x207_50, x207_51, x207_54, x207_55, x207_56, x207_58, x207_59, x207_62, x207_65, x207_66, x207_67, x207_68, x207_69, x207_70, x207_71, x207_72, x207_74, x207_75, x207_76, x207_77, x207_79, x207_80, x207_81, x207_82, x207_84, x207_86, x207_89, x207_90, x207_94, x207_95, x207_98, x207_99, x207_100, x207_101, x207_103, x207_104, x207_105, x207_107, x207_108, x207_109, x207_112, x207_114, x207_115, x207_118, x207_121, x207_127, x207_128, x207_130, x207_133, x207_136, x207_137, x207_138, x207_139, x207_140, x207_143, x207_144, x207_147, x207_148, x207_150, x207_153, x207_154, c44, s_setRule, Kc_some, Kc_none, if_pos, if_neg, ↓reduceIte, not_true_eq_false, not_false_eq_true]
          · have e21 : (2 : Int) * 1 = 2 := rfl
            rw [e21]
            simp (disch := first | omega | exact notL_I | exact notL_N | exact notL_R | exact oM | exact catS_le (Nat.le_of_ble_eq_true rfl) | exact Nat.le_of_ble_eq_true rfl | rfl) only [x207_0, x207_1, x207_3, x207_5, x207_8, x207_9, x207_13, x207_16, x207_18, x207_19, x207_20, x207_21, x207_24, x207_27, x207_28, x207_29, x207_31, x207_33, x207_36, x207_37, x207_38, x207_40, x207_43, x207_44, x207_45, x207_48, x207_50, x207_51, x207_54, x207_55, x207_56, x207_58, x207_59, x207_62, x207_65, x207_66, x207_67, x207_68, x207_69, x207_70, x207_71, x207_72, x207_74, x207_75, x207_76, x207_77, x207_79, x207_80, x207_81, x207_82, x207_84, x207_86, x207_89, x207_90, x207_94, x207_95, x207_98, x207_99, x207_100, x207_101, x207_103, x207_104, x207_105, x207_107, x207_108, x207_109, x207_112, x207_114, x207_115, x207_118, x207_121, x207_127, x207_128, x207_130, x207_133, x207_136, x207_137, x207_138, x207_139, x207_140, x207_143, x207_144, x207_147, x207_148, x207_150, x207_153, x207_154, c44, s_setRule, Kc_some, Kc_none, if_pos, if_neg, ↓reduceIte, not_true_eq_false, not_false_eq_true]
theorem s_atm {most : Nat} {s : Ps} (hd : 6 ≤ d) (W : WfM σ) (h1 : 0 ≤ h) (h2 : h ≤ 4) (r1 : 0 ≤ r) (r2 : r ≤ 9) (s1 : 0 ≤ sd) (s2 : sd ≤ 1) (hm1 : 1 ≤ most) (hm3 : most ≤ 3) (H : PcI σ s) :
    (∃ as s' ρ, atmP (nxT (σ 386) (σ 373 14)) (coR σ h) most (most + 1) 0 [] s = .inr (as, s') ∧ 1 ≤ as.length ∧ as.length ≤ most ∧ Fpb h r sd σ ρ ∧ WfM ρ ∧ PcI ρ s' ∧ ρ 376 (30 * (10 * h + r) + 2 * sd) = (as.length : Int) ∧ (∀ (i : Nat) (a : At), as[i]? = some a → atR ρ h r sd i = a ∧ okA (coR σ h) a) ∧ RnA sc d 207 0 [some (vR 373), some (vI h), some (vI r), some (vI sd), some (vI ((most : Int))), none, none, none, none, none] σ (some (vI 1)) ρ) ∨
    (∃ e ρ, atmP (nxT (σ 386) (σ 373 14)) (coR σ h) most (most + 1) 0 [] s = .inl e ∧ Fpb h r sd σ ρ ∧ WfM ρ ∧ BdI ρ e ∧ RnA sc d 207 0 [some (vR 373), some (vI h), some (vI r), some (vI sd), some (vI ((most : Int))), none, none, none, none, none] σ (some (vI 0)) ρ) := by
  have run : ∀ (u : Bool × Nat × Nat × Int) (Q : Rs → HS → Prop), Ex sc d 207 0 [some (vR 373), some (vI h), some (vI r), some (vI sd), some (vI ((most : Int))), none, none, none, none, none] [] (wH σ u) Q ↔ Ex sc d 207 12 [some (vR 373), some (vI h), some (vI r), some (vI sd), some (vI ((most : Int))), some (vI 0), none, none, none, none] [] (wH σ u) Q := by
    intro u Q
    simp (disch := first | omega | exact notL_I | exact notL_N | exact notL_R | exact oM | exact catS_le (Nat.le_of_ble_eq_true rfl) | exact Nat.le_of_ble_eq_true rfl | rfl) only [x207_0, x207_1, x207_3, x207_5, x207_8, x207_9, x207_13, x207_16, x207_18, x207_19, x207_20, x207_21, x207_24, x207_27, x207_28, x207_29, x207_31, x207_33, x207_36, x207_37, x207_38, x207_40, x207_43, x207_44, x207_45, x207_48, x207_50, x207_51, x207_54, x207_55, x207_56, x207_58, x207_59, x207_62, x207_65, x207_66, x207_67, x207_68, x207_69, x207_70, x207_71, x207_72, x207_74, x207_75, x207_76, x207_77, x207_79, x207_80, x207_81, x207_82, x207_84, x207_86, x207_89, x207_90, x207_94, x207_95, x207_98, x207_99, x207_100, x207_101, x207_103, x207_104, x207_105, x207_107, x207_108, x207_109, x207_112, x207_114, x207_115, x207_118, x207_121, x207_127, x207_128, x207_130, x207_133, x207_136, x207_137, x207_138, x207_139, x207_140, x207_143, x207_144, x207_147, x207_148, x207_150, x207_153, x207_154, if_pos, if_neg, ↓reduceIte, not_true_eq_false, not_false_eq_true]
  have la := l_atm (sc := sc) (d := d) (σ := σ) (h := h) (r := r) (sd := sd) (most := most) hd W h1 h2 r1 r2 s1 s2 hm1 hm3 (most + 1) 0 [] s σ (by omega) rfl (by omega) Fpb.refl W H (fun i a hi => by cases hi)
  rw [Int.natCast_zero] at la
  rcases la with ⟨as, s'', ρ, z1, z2, z3, z4, z5, z6, z7, z8, z9⟩ | ⟨e, ρ, z1, z2, z3, z4, z5⟩
  · exact Or.inl ⟨as, s'', ρ, z1, z2, z3, z4, z5, z6, z7, z8, fun u Q => (run u Q).trans (z9 u Q _ _ _ _)⟩
  · exact Or.inr ⟨e, ρ, z1, z2, z3, z4, fun u Q => (run u Q).trans (z5 u Q _ _ _ _)⟩
/-- atoms that have been read, as the picture has them -/
theorem ats_of {ρ : St} {as : List At} {m : Int} (hm : m = (as.length : Int)) (ha : ∀ (i : Nat) (a : At), as[i]? = some a → atR ρ h r sd i = a) : atsF ρ h r sd m.toNat 0 = as := by
  have : ∀ (k i : Nat), i + k = as.length → atsF ρ h r sd k i = as.drop i := by
    intro k
    induction k with
    | zero => intro i hi; rw [atsF, List.drop_eq_nil_of_le (by omega)]
    | succ k ih =>
      intro i hi
      have hil : i < as.length := by omega
      rw [atsF, List.drop_eq_getElem_cons hil, ha i _ (List.getElem?_eq_getElem hil), show (i : Int) + 1 = ((i + 1 : Nat) : Int) by omega, ih (i + 1) (by omega)]
  have := this as.length 0 (by omega)
  rw [Int.natCast_zero, List.drop_zero] at this
  rw [hm, Int.toNat_natCast]
  exact this
end L4
