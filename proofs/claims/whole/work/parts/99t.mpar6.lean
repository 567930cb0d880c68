/-! the reference reads: tables -/
/-- a hall out of a text -/
def HxT (T : Tx) : Hl := (T.1, T.2.1, 0, T.2.2.1, T.2.2.2.1, T.2.2.2.2, [], fun _ => -1)
def TxOk (T : Tx) : Prop := (∀ t, 0 ≤ T.1 t ∧ T.1 t ≤ 3) ∧ tabF T.1 26 0 ≤ 6 ∧ (∀ q ∈ T.2.1, okRl T.1 q) ∧ T.2.1.length ≤ 10 ∧ okS T.1 (HxT T).2.2.2 ∧ T.2.2.2.1 = (T.2.2.1.length : Int) ∧ ∀ t, ¬ (0 ≤ t ∧ t ≤ 25) → T.1 t = 0
/-- what reading a text into the hall for it keeps -/
def Fx (σ τ : St) : Prop := RsR σ τ ∧ (∀ g, 0 ≤ g → g ≤ 3 → HQ σ g τ g) ∧ τ 393 = σ 393 ∧ τ 373 0 = σ 373 0
theorem Fx.refl {σ : St} : Fx σ σ := ⟨RsR.refl, fun _ _ _ => HQ.refl, rfl, rfl⟩
theorem Fx.trans {σ τ ρ : St} (a : Fx σ τ) (b : Fx τ ρ) : Fx σ ρ := ⟨a.1.trans b.1, fun g g0 g1 => (a.2.1 g g0 g1).trans (b.2.1 g g0 g1), b.2.2.1.trans a.2.2.1, b.2.2.2.trans a.2.2.2⟩
theorem Fpa.x {σ τ : St} (h : Fpa σ τ) : Fx σ τ := ⟨RsR.of (fun c a b => h.1 c a (by omega)) (fun j hj => h.2 j (by omega) (by omega)), fun g _ _ => HQ.of (fun c a b => h.1 c (by omega) (by omega)), h.1 393 (by omega) (by omega), h.2 0 (by omega) (by omega)⟩
theorem Ft.x {σ τ : St} (h : Ft σ τ) : Fx σ τ := h.pa.x
theorem Fx.tx {σ τ : St} (h : Fx σ τ) : τ 386 = σ 386 ∧ τ 373 14 = σ 373 14 := ⟨h.1.1, h.1.2.2.2.1⟩
theorem Dt.hl {σ τ : St} (D : Dt σ τ) (W : WfM σ) {g : Int} (g0 : 0 ≤ g) (g1 : g ≤ 4) : hlR τ g = hlR σ g := (HQ.of (fun c a b => D.1 c a (by omega))).hl W g0 g1
theorem tabF_c {f g : Int → Int} : ∀ (k : Nat) (i : Int), (∀ j, i ≤ j → j < i + k → f j = g j) → tabF f k i = tabF g k i := by
  intro k
  induction k with
  | zero => intro i _; rfl
  | succ k ih => intro i h; rw [tabF, tabF, h i (by omega) (by omega), ih (i + 1) (fun j a b => h j (by omega) (by omega))]
theorem rsF_ext2 {σ τ : St} {h : Int} : ∀ (k : Nat) (n : Int), (∀ i, n ≤ i → i < n + k → τ 377 (200 * h + i) = σ 377 (200 * h + i) ∧ (σ 377 (200 * h + i) = 1 → rwR τ h i = rwR σ h i)) → rsF τ h k n = rsF σ h k n := by
  intro k
  induction k with
  | zero => intro n _; rfl
  | succ k ih =>
    intro n H
    obtain ⟨a, b⟩ := H n (by omega) (by omega)
    rw [rsF, rsF, a, ih (n + 1) (fun i i0 i1 => H i (by omega) (by omega))]
    split
    · rename_i c
      rw [b c]
    · rfl
theorem atsF_ext2 {σ τ : St} {h r s : Int} : ∀ (k : Nat) (i : Int), (∀ j, i ≤ j → j < i + k → atR τ h r s j = atR σ h r s j) → atsF τ h r s k i = atsF σ h r s k i := by
  intro k
  induction k with
  | zero => intro i _; rfl
  | succ k ih => intro i H; rw [atsF, atsF, H i (by omega) (by omega), ih (i + 1) (fun j a b => H j (by omega) (by omega))]
/-- a new table: what there is stays -/
theorem col_keep {τ X : St} {t v : Int} (W : WfM τ) (t0 : 0 ≤ t) (t1 : t ≤ 25) (v0 : 0 ≤ v) (v3 : v ≤ 3) (hX : X = su τ 374 (104 + t) v) (ht : coR τ 4 t = 0) (ok1 : ∀ w ∈ rsR τ 4, okW (coR τ 4) w) (ok2 : ∀ q ∈ rlR τ 4, okRl (coR τ 4) q) : WfM X ∧ Fx τ X ∧ hlR X 4 = (bup (coR τ 4) t v, (hlR τ 4).2) := by
  have ne : ∀ c, c ≠ 374 → X c = τ c := fun c hc => by rw [hX, su_ne hc]
  have off : ∀ j, j ≠ 104 + t → X 374 j = τ 374 j := fun j hj => by rw [hX, su_off hj]
  have ct : τ 374 (26 * 4 + t) = 0 := (coR_in (σ := τ) (h := 4) t0 t1).symm.trans ht
  have wn := W.nxt (h := 4) (by omega) (by omega)
  have wm := W.rm (h := 4) (by omega) (by omega)
  refine ⟨?_, ⟨RsR.of (fun c a b => ne c (by omega)) (fun j _ => by rw [ne 373 (by omega)]), fun g g0 g1 => ?_, ne 393 (by omega), by rw [ne 373 (by omega)]⟩, ?_⟩
  · refine W.mk ?_ ?_ ?_ ?_ ?_ ?_ ?_ ?_ ?_ ?_ ?_ ?_ ?_
    case refine_1 =>
      intro i i0 i1
      by_cases e : i = 104 + t
      · rw [hX, e, su_eq]
        omega
      · rw [off i e]
        exact W.p4 i i0 i1
    case refine_3 =>
      intro i i0 i1
      have := W.p6 i i0 i1
      unfold okU at this ⊢
      rw [ne 376 (by omega)]
      exact this
    all_goals rw [ne _ (by omega)]
    · exact W.p5
    · exact W.p7
    · exact W.p8
    · exact W.p9
    · exact W.p0
    · exact W.p1
    · exact W.p2
    · exact W.p3
    · exact W.pa
  · exact ⟨⟨fun t a b => off _ (by omega), by rw [ne 375 (by omega)], fun t a b => by rw [ne 376 (by omega)]⟩, ⟨fun t a b => ⟨by rw [ne 377 (by omega)], by rw [ne 378 (by omega)]⟩, fun t a b => by rw [ne 379 (by omega)], by rw [ne 381 (by omega)], fun t a b => by rw [ne 385 (by omega)]⟩, ⟨fun t a b => by rw [ne 380 (by omega)], by rw [ne 382 (by omega)], by rw [ne 383 (by omega)], fun t a b => by rw [ne 384 (by omega)]⟩⟩
  · have b1 : coR X 4 = bup (coR τ 4) t v := by
      funext x
      unfold coR bup
      by_cases hx : x = t
      · subst hx
        rw [if_pos ⟨t0, t1⟩, if_pos rfl, hX, show (26 : Int) * 4 + x = 104 + x by omega, su_eq]
      · rw [if_neg hx, off _ (by omega)]
    have b2 : rsR X 4 = rsR τ 4 := by
      unfold rsR
      rw [ne 381 (by omega)]
      apply rsF_ext2
      intro i i0 i1
      refine ⟨by rw [ne 377 (by omega)], fun hth => ?_⟩
      have hm : rwR τ 4 i ∈ rsR τ 4 := (rs_memI _ 0).mpr ⟨i, i0, by omega, hth, rfl⟩
      have ow := ok1 _ hm
      have wt := W.tab (h := 4) (n := i) (by omega) (by omega) i0 (by omega)
      have o3 := ow.2.2.1
      have et : (rwR τ 4 i).2.1 = τ 378 (200 * 4 + i) := rfl
      rw [et, coR_in wt.1 wt.2] at o3
      unfold rwR
      rw [ne 378 (by omega), ne 379 (by omega), off _ (by intro e; rw [e, show (104 : Int) + t = 26 * 4 + t by omega] at o3; omega)]
    have b3 : rlR X 4 = rlR τ 4 := by
      unfold rlR
      rw [ne 375 (by omega)]
      have key : ∀ (k : Nat) (r : Int), 0 ≤ r → r + k ≤ τ 375 4 → rlF X 4 k r = rlF τ 4 k r := by
        intro k
        induction k with
        | zero => intro r _ _; rfl
        | succ k ih =>
          intro r r0 rk
          have hq : ruR τ 4 r ∈ rlR τ 4 := by
            have := rlR_get (σ := τ) (h := 4) (j := r.toNat) (by omega)
            rw [Int.toNat_of_nonneg r0] at this
            exact List.mem_of_getElem? this
          have ow := ok2 _ hq
          have wr := W.rul (h := 4) (r := r) (by omega) (by omega) r0 (by omega)
          rw [rlF, rlF, ih (r + 1) (by omega) (by omega)]
          congr 1
          have sa : ∀ (s : Int) (m : Int), 0 ≤ s → s ≤ 1 → m ≤ 3 → (∀ a ∈ atsF τ 4 r s m.toNat 0, okA (coR τ 4) a) → atsF X 4 r s m.toNat 0 = atsF τ 4 r s m.toNat 0 := by
            intro s m s0 s1 m3 hs
            apply atsF_ext2
            intro j j0 j1
            have ha := hs _ (atsF_mem (σ := τ) (h := 4) (r := r) (s := s) (i := j) m.toNat 0 j0 j1)
            obtain ⟨a1, -⟩ := W.ato (h := 4) (r := r) (s := s) (i := j) (by omega) (by omega) r0 (by omega) s0 s1 j0 (by omega)
            have o3 := ha.2.2.1
            have et : (atR τ 4 r s j).1 = τ 376 (30 * (10 * 4 + r) + (3 + 4 * (3 * s + j))) := rfl
            rw [et, coR_in a1.1 a1.2] at o3
            unfold atR
            rw [ne 376 (by omega), off _ (by intro e; rw [e, show (104 : Int) + t = 26 * 4 + t by omega] at o3; omega)]
          unfold ruR
          rw [ne 376 (by omega), sa 0 _ (by omega) (by omega) wr.1.2 ow.2.1, sa 1 _ (by omega) (by omega) wr.2.2.1.2 ow.2.2.1]
      exact key _ 0 (by omega) (by omega)
    have hc : HQc τ 4 X 4 := ⟨fun t a b => by rw [ne 380 (by omega)], by rw [ne 382 (by omega)], by rw [ne 383 (by omega)], fun t a b => by rw [ne 384 (by omega)]⟩
    have b5 : stR X 4 = stR τ 4 := hc.st W (by omega) (by omega)
    have b6 : naR X 4 = naR τ 4 := by unfold naR; rw [ne 385 (by omega)]
    have b7 : byR X 4 = byR τ 4 := by unfold byR; rw [ne 380 (by omega), ne 381 (by omega)]
    unfold hlR rnR
    rw [b1, b2, b3, b5, b6, b7, ne 382 (by omega), ne 381 (by omega)]
/-- the rules and rows of a text under a table more -/
theorem okA_bup {C : Int → Int} {t v : Int} (ht : C t = 0) {a : At} (h : okA C a) : okA (bup C t v) a := by
  obtain ⟨a1, a2, a3, X, Y, Z, x1, x2, x3, e⟩ := h
  have : bup C t v a.1 = C a.1 := by unfold bup; rw [if_neg (fun z => by rw [z] at a3; omega)]
  exact ⟨a1, a2, by rw [this]; exact a3, X, Y, Z, x1, x2, x3, by rw [this]; exact e⟩
theorem okW_bup {C : Int → Int} {t v : Int} (ht : C t = 0) {w : Rw} (h : okW C w) : okW (bup C t v) w := by
  obtain ⟨a1, a2, a3, X, Y, Z, x1, x2, x3, e⟩ := h
  have : bup C t v w.2.1 = C w.2.1 := by unfold bup; rw [if_neg (fun z => by rw [z] at a3; omega)]
  exact ⟨a1, a2, by rw [this]; exact a3, X, Y, Z, x1, x2, x3, by rw [this]; exact e⟩
theorem okRl_bup {C : Int → Int} {t v : Int} (ht : C t = 0) {q : Ru} (h : okRl C q) : okRl (bup C t v) q := ⟨h.1, fun a ha => okA_bup ht (h.2.1 a ha), fun a ha => okA_bup ht (h.2.2.1 a ha), h.2.2.2⟩
theorem tab_bup {C : Int → Int} {t v : Int} (ht : C t = 0) : ∀ (k : Nat) (i : Int), tabF (bup C t v) k i ≤ tabF C k i + 1 ∧ (t < i ∨ i + k ≤ t → tabF (bup C t v) k i = tabF C k i) := by
  intro k
  induction k with
  | zero => intro i; rw [tabF, tabF]; exact ⟨by omega, fun _ => rfl⟩
  | succ k ih =>
    intro i
    obtain ⟨a, b⟩ := ih (i + 1)
    rw [tabF, tabF]
    by_cases e : i = t
    · subst e
      have := b (by omega)
      rw [this]
      have eb : bup C i v i = v := by unfold bup; rw [if_pos rfl]
      rw [eb, ht]
      refine ⟨?_, fun h => by omega⟩
      split <;> split <;> omega
    · have eb : bup C t v i = C i := by unfold bup; rw [if_neg e]
      rw [eb]
      refine ⟨by omega, fun h => by rw [b (by omega)]⟩
section L7
variable {sc : Scr} {d : Nat} {σ : St}
theorem s_tableT {T : Tx} {s0 : Ps} (hd : 5 ≤ d) (W : WfM σ) (hT : hlR σ 4 = HxT T) (ok : TxOk T) (H : PcI σ s0) :
    (∃ T' s' ρ, tblP (nxT (σ 386) (σ 373 14)) T (nxT (σ 386) (σ 373 14) s0.2.2) = .inr (T', s') ∧ Fx σ ρ ∧ WfM ρ ∧ PcI ρ s' ∧ hlR ρ 4 = HxT T' ∧ TxOk T' ∧ T'.2 = T.2 ∧ RnA sc d 190 0 [some (vR 373), none, none] σ (some (vI 1)) ρ) ∨
    (∃ e ρ, tblP (nxT (σ 386) (σ 373 14)) T (nxT (σ 386) (σ 373 14) s0.2.2) = .inl e ∧ Fx σ ρ ∧ WfM ρ ∧ BdI ρ e ∧ RnA sc d 190 0 [some (vR 373), none, none] σ (some (vI 0)) ρ) := by
  have hC : coR σ 4 = T.1 := congrArg (fun x : Hl => x.1) hT
  obtain ⟨τ0, y1, y2, y3⟩ := s_lookP (sc := sc) (d := d - 1) (by omega) W H
  generalize nxT (σ 386) (σ 373 14) s0.2.2 = s at *
  have W0 := y1.dt.wf W
  have F0 := y1.x
  have h0 : hlR τ0 4 = HxT T := (y1.dt.hl W (by omega) (by omega)).trans hT
  have C0 : coR τ0 4 = T.1 := congrArg (fun x : Hl => x.1) h0
  unfold tblP
  rcases s_aTab0 (sc := sc) (d := d - 1) (h := 4) (by omega) W0 (by omega) (by omega) y2 with ⟨t, τ1, q1, q2, t0, t1, qc, F1, H1, e22, x1⟩ | ⟨e, τ1, q1, F1, B1, x1⟩
  case inr =>
    rcases q1 with ⟨q1, rfl⟩ | ⟨q1, q3, rfl⟩
    · refine Or.inr ⟨_, τ1, by rw [if_neg q1], F0.trans F1.x, F1.dt.wf W0, B1, fun u Q => ?_⟩
      simp (disch := first | omega | exact notL_I | exact notL_N | exact notL_R | exact oM | exact catS_le (Nat.le_of_ble_eq_true rfl) | exact Nat.le_of_ble_eq_true rfl | rfl) only [x190_0, x190_1, x190_4, x190_5, x190_8, x190_9, x190_10, x190_11, x190_12, x190_15, x190_18, x190_19, x190_20, x190_21, x190_22, x190_25, x190_27, x190_30, x190_31, x190_32, x190_33, x190_36, x190_38, x190_41, x190_42, x190_43, x190_46, x190_47, x190_50, x190_53, x190_54, x190_55, x190_56, x190_59, x190_62, x190_63, x190_64, x190_67, x190_70, x190_71, x190_72, x190_73, x190_76, x190_79, x190_80, x190_81, x190_82, x190_85, x190_88, x190_89, x190_90, x190_93, x190_95, x190_96, x190_97, x190_98, x190_101, x190_104, x190_105, x190_106, x190_107, x190_110, x190_111, x190_113, x190_116, gM_tokenAt, y2.1.2.1, y3 u, x1 u, Kc_some, Kc_none, if_pos, if_neg, ↓reduceIte, not_true_eq_false, not_false_eq_true]
    · rw [C0] at q3
      refine Or.inr ⟨_, τ1, by rw [if_pos q1, if_pos q3], F0.trans F1.x, F1.dt.wf W0, B1, fun u Q => ?_⟩
      simp (disch := first | omega | exact notL_I | exact notL_N | exact notL_R | exact oM | exact catS_le (Nat.le_of_ble_eq_true rfl) | exact Nat.le_of_ble_eq_true rfl | rfl) only [x190_0, x190_1, x190_4, x190_5, x190_8, x190_9, x190_10, x190_11, x190_12, x190_15, x190_18, x190_19, x190_20, x190_21, x190_22, x190_25, x190_27, x190_30, x190_31, x190_32, x190_33, x190_36, x190_38, x190_41, x190_42, x190_43, x190_46, x190_47, x190_50, x190_53, x190_54, x190_55, x190_56, x190_59, x190_62, x190_63, x190_64, x190_67, x190_70, x190_71, x190_72, x190_73, x190_76, x190_79, x190_80, x190_81, x190_82, x190_85, x190_88, x190_89, x190_90, x190_93, x190_95, x190_96, x190_97, x190_98, x190_101, x190_104, x190_105, x190_106, x190_107, x190_110, x190_111, x190_113, x190_116, gM_tokenAt, y2.1.2.1, y3 u, x1 u, Kc_some, Kc_none, if_pos, if_neg, ↓reduceIte, not_true_eq_false, not_false_eq_true]
  have W1 := F1.dt.wf W0
  have D1 := y1.dt.trans F1.dt
  have G1 := F0.trans F1.x
  have h1 : hlR τ1 4 = HxT T := (D1.hl W (by omega) (by omega)).trans hT
  have C1 : coR τ1 4 = T.1 := congrArg (fun x : Hl => x.1) h1
  have ct : T.1 t = 0 := by
    rw [← C0, coR_in t0 t1]
    exact qc
  have ts := fun u Q => s_tableSum (sc := sc) (σ := τ1) (u := u) (Q := Q) (d := d - 1) (h := 4) W1 (by omega) (by omega) (by omega)
  have ets : tabF (fun t => τ1 374 (26 * 4 + t)) 26 0 = tabF T.1 26 0 := tabF_c 26 0 (fun j a b => by rw [← C1, coR_in (by omega) (by omega)])
  rw [ets] at ts
  have tr : 0 ≤ tabF T.1 26 0 ∧ tabF T.1 26 0 ≤ 6 := by
    refine ⟨?_, ok.2.1⟩
    have : ∀ (k : Nat) (i : Int), 0 ≤ tabF T.1 k i := by
      intro k
      induction k with
      | zero => intro i; exact Int.le_refl _
      | succ k ih => intro i; rw [tabF]; have := ih (i + 1); split <;> omega
    exact this _ _
  have rule1 : ¬ 0 < T.1 (s.1 - 100) := by rw [← q2, ct]; omega
  rw [if_pos q1, if_neg rule1]
  have run1 : ∀ (u : Bool × Nat × Nat × Int) (Q : Rs → HS → Prop), Ex sc d 190 0 [some (vR 373), none, none] [] (wH σ u) Q ↔ Ex sc d 190 20 [some (vR 373), some (vI s.2.1), none] [] (wH τ1 u) Q := by
    intro u Q
    simp (disch := first | omega | exact notL_I | exact notL_N | exact notL_R | exact oM | exact catS_le (Nat.le_of_ble_eq_true rfl) | exact Nat.le_of_ble_eq_true rfl | rfl) only [x190_0, x190_1, x190_4, x190_5, x190_8, x190_9, x190_10, x190_11, x190_12, x190_15, x190_18, x190_19, x190_21, x190_22, x190_25, x190_27, x190_30, x190_31, x190_32, x190_33, x190_36, x190_38, x190_41, x190_42, x190_43, x190_46, x190_47, x190_50, x190_53, x190_54, x190_55, x190_56, x190_59, x190_62, x190_63, x190_64, x190_67, x190_70, x190_71, x190_72, x190_73, x190_76, x190_79, x190_80, x190_81, x190_82, x190_85, x190_88, x190_89, x190_90, x190_93, x190_95, x190_96, x190_97, x190_98, x190_101, x190_104, x190_105, x190_106, x190_107, x190_110, x190_111, x190_113, x190_116, gM_tokenAt, y2.1.2.1, y3 u, x1 u, Kc_some, Kc_none, if_pos, if_neg, ↓reduceIte, not_true_eq_false, not_false_eq_true]
  by_cases h6 : tabF T.1 26 0 = 6
  · rw [if_pos h6]
    have bd := fun u Q => s_bad (sc := sc) (d := d - 1) (σ := τ1) (k := 4) (p := s.2.1) H1.2.1 u Q
    refine Or.inr ⟨_, _, rfl, G1.trans bad_v.1.x, bad_v.1.dt.wf W1, bad_v.2, fun u Q => ?_⟩
    rw [h6] at ts
    rw [run1 u Q, x190_20]
    simp (disch := first | omega | exact notL_I | exact notL_N | exact notL_R | exact oM | exact catS_le (Nat.le_of_ble_eq_true rfl) | exact Nat.le_of_ble_eq_true rfl | rfl) only [x190_0, x190_1, x190_4, x190_5, x190_8, x190_9, x190_10, x190_11, x190_12, x190_15, x190_18, x190_19, x190_21, x190_22, x190_25, x190_27, x190_30, x190_31, x190_32, x190_33, x190_36, x190_38, x190_41, x190_42, x190_43, x190_46, x190_47, x190_50, x190_53, x190_54, x190_55, x190_56, x190_59, x190_62, x190_63, x190_64, x190_67, x190_70, x190_71, x190_72, x190_73, x190_76, x190_79, x190_80, x190_81, x190_82, x190_85, x190_88, x190_89, x190_90, x190_93, x190_95, x190_96, x190_97, x190_98, x190_101, x190_104, x190_105, x190_106, x190_107, x190_110, x190_111, x190_113, x190_116, ts, bd, Kc_some, if_pos, if_neg, ↓reduceIte, not_true_eq_false, not_false_eq_true]
  rw [if_neg h6]
  obtain ⟨τ2, v1, v2, v3⟩ := s_lookP (sc := sc) (d := d - 1) (by omega) W1 H1
  rw [G1.tx.1, G1.tx.2] at v2
  have W2 := v1.dt.wf W1
  have G2 := G1.trans v1.x
  have D2 := D1.trans v1.dt
  have run2 : ∀ (u : Bool × Nat × Nat × Int) (Q : Rs → HS → Prop), Ex sc d 190 0 [some (vR 373), none, none] [] (wH σ u) Q ↔ Ex sc d 190 46 [some (vR 373), some (vI s.2.1), some (vI t)] [] (wH τ2 u) Q := by
    intro u Q
    generalize tabF T.1 26 0 = N at *
    rw [run1 u Q, x190_20]
    simp (disch := first | omega | exact notL_I | exact notL_N | exact notL_R | exact oM | exact catS_le (Nat.le_of_ble_eq_true rfl) | exact Nat.le_of_ble_eq_true rfl | rfl) only [x190_0, x190_1, x190_4, x190_5, x190_8, x190_9, x190_10, x190_11, x190_12, x190_15, x190_18, x190_19, x190_21, x190_22, x190_25, x190_27, x190_30, x190_31, x190_32, x190_33, x190_36, x190_37, x190_38, x190_41, x190_42, x190_43, x190_47, x190_50, x190_53, x190_54, x190_55, x190_56, x190_59, x190_62, x190_63, x190_64, x190_67, x190_70, x190_71, x190_72, x190_73, x190_76, x190_79, x190_80, x190_81, x190_82, x190_85, x190_88, x190_89, x190_90, x190_93, x190_95, x190_96, x190_97, x190_98, x190_101, x190_104, x190_105, x190_106, x190_107, x190_110, x190_111, x190_113, x190_116, ts, gM_read, e22, v3 u, Kc_some, Kc_none, if_pos, if_neg, ↓reduceIte, not_true_eq_false, not_false_eq_true]
  generalize nxT (σ 386) (σ 373 14) s.2.2 = s1 at *
  have isn := s_isNum (sc := sc) (d := d - 1) (by omega) v2.1.1 v2.2.2.1
  have tk := v2.2.2.1
  by_cases hN : 300 ≤ s1.1 ∧ s1.1 ≤ 399
  case neg =>
    have hN' : ¬ isNm s1 := hN
    rw [if_neg hN']
    simp only [if_neg hN] at isn
    have bd := fun u Q => s_bad (sc := sc) (d := d - 1) (σ := τ2) (k := 1) (p := s1.2.1) v2.2.1 u Q
    refine Or.inr ⟨_, _, rfl, G2.trans bad_v.1.x, bad_v.1.dt.wf W2, bad_v.2, fun u Q => ?_⟩
    rw [run2 u Q, x190_46]
    simp (disch := first | omega | exact notL_I | exact notL_N | exact notL_R | exact oM | exact catS_le (Nat.le_of_ble_eq_true rfl) | exact Nat.le_of_ble_eq_true rfl | rfl) only [x190_0, x190_1, x190_4, x190_5, x190_8, x190_9, x190_10, x190_11, x190_12, x190_15, x190_18, x190_19, x190_21, x190_22, x190_25, x190_27, x190_30, x190_31, x190_32, x190_33, x190_36, x190_37, x190_38, x190_41, x190_42, x190_43, x190_47, x190_50, x190_53, x190_54, x190_55, x190_56, x190_59, x190_62, x190_63, x190_64, x190_67, x190_70, x190_71, x190_72, x190_73, x190_76, x190_79, x190_80, x190_81, x190_82, x190_85, x190_88, x190_89, x190_90, x190_93, x190_95, x190_96, x190_97, x190_98, x190_101, x190_104, x190_105, x190_106, x190_107, x190_110, x190_111, x190_113, x190_116, isn, gM_tokenAt, v2.1.2.1, bd, Kc_some, if_pos, if_neg, ↓reduceIte, not_true_eq_false, not_false_eq_true]
  have hN' : isNm s1 := hN
  rw [if_pos hN']
  simp only [if_pos hN] at isn
  have ii := fun u Q => s_isIn (sc := sc) (σ := τ2) (u := u) (Q := Q) (d := d - 1) (v := s1.1 - 300) (a := 1) (b := 3) ⟨by omega, by omega⟩ ⟨by decide, by decide⟩ ⟨by decide, by decide⟩
  by_cases hV : 301 ≤ s1.1 ∧ s1.1 ≤ 303
  case neg =>
    rw [if_neg hV]
    simp only [if_neg (show ¬ (1 ≤ s1.1 - 300 ∧ s1.1 - 300 ≤ 3) by omega)] at ii
    have bd := fun u Q => s_bad (sc := sc) (d := d - 1) (σ := τ2) (k := 3) (p := s1.2.1) v2.2.1 u Q
    refine Or.inr ⟨_, _, rfl, G2.trans bad_v.1.x, bad_v.1.dt.wf W2, bad_v.2, fun u Q => ?_⟩
    rw [run2 u Q, x190_46]
    simp (disch := first | omega | exact notL_I | exact notL_N | exact notL_R | exact oM | exact catS_le (Nat.le_of_ble_eq_true rfl) | exact Nat.le_of_ble_eq_true rfl | rfl) only [x190_0, x190_1, x190_4, x190_5, x190_8, x190_9, x190_10, x190_11, x190_12, x190_15, x190_18, x190_19, x190_21, x190_22, x190_25, x190_27, x190_30, x190_31, x190_32, x190_33, x190_36, x190_37, x190_38, x190_41, x190_42, x190_43, x190_47, x190_50, x190_53, x190_54, x190_55, x190_56, x190_59, x190_62, x190_63, x190_64, x190_67, x190_70, x190_71, x190_72, x190_73, x190_76, x190_79, x190_80, x190_81, x190_82, x190_85, x190_88, x190_89, x190_90, x190_93, x190_95, x190_96, x190_97, x190_98, x190_101, x190_104, x190_105, x190_106, x190_107, x190_110, x190_111, x190_113, x190_116, isn, gM_token, v2.1.1, ii, gM_tokenAt, v2.1.2.1, bd, Kc_some, if_pos, if_neg, ↓reduceIte, not_true_eq_false, not_false_eq_true]
  rw [if_pos hV]
  simp only [if_pos (show 1 ≤ s1.1 - 300 ∧ s1.1 - 300 ≤ 3 by omega)] at ii
  have h2 : hlR τ2 4 = HxT T := (D2.hl W (by omega) (by omega)).trans hT
  have C2 : coR τ2 4 = T.1 := congrArg (fun x : Hl => x.1) h2
  have R2 : rsR τ2 4 = T.2.2.1 := congrArg (fun x : Hl => x.2.2.2.1) h2
  have L2 : rlR τ2 4 = T.2.1 := congrArg (fun x : Hl => x.2.1) h2
  obtain ⟨W3, G3, V3⟩ := col_keep (τ := τ2) (t := t) (v := s1.1 - 300) W2 t0 t1 (by omega) (by omega) rfl (by rw [C2]; exact ct) (by rw [R2, C2]; exact ok.2.2.2.2.1.1) (by rw [L2, C2]; exact ok.2.2.1)
  have H3 : PcI (su τ2 374 (104 + t) (s1.1 - 300)) s1 := by
    unfold PcI PsI
    rw [su_ne (by omega)]
    exact v2
  have run3 : ∀ (u : Bool × Nat × Nat × Int) (Q : Rs → HS → Prop), Ex sc d 190 0 [some (vR 373), none, none] [] (wH σ u) Q ↔ Ex sc d 190 106 [some (vR 373), some (vI s.2.1), some (vI t)] [] (wH (su τ2 374 (104 + t) (s1.1 - 300)) u) Q := by
    intro u Q
    rw [run2 u Q, x190_46]
    simp (disch := first | omega | exact notL_I | exact notL_N | exact notL_R | exact oM | exact catS_le (Nat.le_of_ble_eq_true rfl) | exact Nat.le_of_ble_eq_true rfl | rfl) only [x190_0, x190_1, x190_4, x190_5, x190_8, x190_9, x190_10, x190_11, x190_12, x190_15, x190_18, x190_19, x190_21, x190_22, x190_25, x190_27, x190_30, x190_31, x190_32, x190_33, x190_36, x190_37, x190_38, x190_41, x190_42, x190_43, x190_47, x190_50, x190_53, x190_54, x190_55, x190_56, x190_59, x190_62, x190_63, x190_64, x190_67, x190_70, x190_71, x190_72, x190_73, x190_76, x190_79, x190_80, x190_81, x190_82, x190_85, x190_88, x190_89, x190_90, x190_93, x190_95, x190_96, x190_97, x190_98, x190_101, x190_104, x190_105, x190_107, x190_110, x190_111, x190_113, x190_116, isn, gM_token, v2.1.1, ii, gM_cols, WM_cols, Kc_some, if_pos, if_neg, ↓reduceIte, not_true_eq_false, not_false_eq_true]
  generalize su τ2 374 (104 + t) (s1.1 - 300) = τ3 at *
  obtain ⟨τ4, w1, w2, w3⟩ := s_lookP (sc := sc) (d := d - 1) (by omega) W3 H3
  rw [G3.tx.1, G3.tx.2, G2.tx.1, G2.tx.2] at w2
  have W4 := w1.dt.wf W3
  have G4 := (G2.trans G3).trans w1.x
  have eT : hlR τ3 4 = HxT (bup T.1 t (s1.1 - 300), T.2) := by
    rw [V3, C2, h2]
    rfl
  have okT : TxOk (bup T.1 t (s1.1 - 300), T.2) := by
    obtain ⟨o1, o2, o3, o4, o5, o6, o7⟩ := ok
    refine ⟨fun x => ?_, ?_, fun q hq => okRl_bup ct (o3 q hq), o4, ?_, o6, fun x hx => ?_⟩
    · show 0 ≤ bup T.1 t (s1.1 - 300) x ∧ bup T.1 t (s1.1 - 300) x ≤ 3
      unfold bup
      split
      · omega
      · exact o1 x
    · have := (tab_bup (C := T.1) (t := t) (v := s1.1 - 300) ct 26 0).1
      show tabF (bup T.1 t (s1.1 - 300)) 26 0 ≤ 6
      omega
    · exact ⟨fun w hw => okW_bup ct (o5.1 w hw), o5.2⟩
    · show bup T.1 t (s1.1 - 300) x = 0
      unfold bup
      rw [if_neg (fun e => hx (by omega))]
      exact o7 x hx
  have run4 : ∀ (u : Bool × Nat × Nat × Int) (Q : Rs → HS → Prop), Ex sc d 190 0 [some (vR 373), none, none] [] (wH σ u) Q ↔ Ex sc d 190 110 [some (vR 373), some (vI s.2.1), some (vI t)] [] (wH τ4 u) Q := by
    intro u Q
    rw [run3 u Q, x190_106]
    simp (disch := first | omega | exact notL_I | exact notL_N | exact notL_R | exact oM | exact catS_le (Nat.le_of_ble_eq_true rfl) | exact Nat.le_of_ble_eq_true rfl | rfl) only [x190_0, x190_1, x190_4, x190_5, x190_8, x190_9, x190_10, x190_11, x190_12, x190_15, x190_18, x190_19, x190_21, x190_22, x190_25, x190_27, x190_30, x190_31, x190_32, x190_33, x190_36, x190_37, x190_38, x190_41, x190_42, x190_43, x190_47, x190_50, x190_53, x190_54, x190_55, x190_56, x190_59, x190_62, x190_63, x190_64, x190_67, x190_70, x190_71, x190_72, x190_73, x190_76, x190_79, x190_80, x190_81, x190_82, x190_85, x190_88, x190_89, x190_90, x190_93, x190_95, x190_96, x190_97, x190_98, x190_101, x190_104, x190_105, x190_107, x190_111, x190_113, x190_116, w3 u, Kc_none]
  rcases s_needR (sc := sc) (d := d - 1) (c := 59) (τ0 := σ) (by omega) W4 w2 (by omega) G4.tx.1 G4.tx.2 with ⟨s2, ρ, n1, n2, n3, n4⟩ | ⟨e, ρ, n1, n2, n3, n4⟩
  · refine Or.inl ⟨_, s2, ρ, by rw [n1, andP_r, q2], G4.trans n2.x, n2.dt.wf W4, n3, ((w1.dt.trans n2.dt).hl W3 (by omega) (by omega)).trans eT, okT, rfl, fun u Q => ?_⟩
    rw [run4 u Q, x190_110]
    simp (disch := first | omega | exact notL_I | exact notL_N | exact notL_R | exact oM | exact catS_le (Nat.le_of_ble_eq_true rfl) | exact Nat.le_of_ble_eq_true rfl | rfl) only [x190_0, x190_1, x190_4, x190_5, x190_8, x190_9, x190_10, x190_11, x190_12, x190_15, x190_18, x190_19, x190_21, x190_22, x190_25, x190_27, x190_30, x190_31, x190_32, x190_33, x190_36, x190_37, x190_38, x190_41, x190_42, x190_43, x190_47, x190_50, x190_53, x190_54, x190_55, x190_56, x190_59, x190_62, x190_63, x190_64, x190_67, x190_70, x190_71, x190_72, x190_73, x190_76, x190_79, x190_80, x190_81, x190_82, x190_85, x190_88, x190_89, x190_90, x190_93, x190_95, x190_96, x190_97, x190_98, x190_101, x190_104, x190_105, x190_107, x190_111, x190_113, x190_116, n4 u, Kc_some]
  · refine Or.inr ⟨e, ρ, by rw [n1, andP_l], G4.trans n2.x, n2.dt.wf W4, n3, fun u Q => ?_⟩
    rw [run4 u Q, x190_110]
    simp (disch := first | omega | exact notL_I | exact notL_N | exact notL_R | exact oM | exact catS_le (Nat.le_of_ble_eq_true rfl) | exact Nat.le_of_ble_eq_true rfl | rfl) only [x190_0, x190_1, x190_4, x190_5, x190_8, x190_9, x190_10, x190_11, x190_12, x190_15, x190_18, x190_19, x190_21, x190_22, x190_25, x190_27, x190_30, x190_31, x190_32, x190_33, x190_36, x190_37, x190_38, x190_41, x190_42, x190_43, x190_47, x190_50, x190_53, x190_54, x190_55, x190_56, x190_59, x190_62, x190_63, x190_64, x190_67, x190_70, x190_71, x190_72, x190_73, x190_76, x190_79, x190_80, x190_81, x190_82, x190_85, x190_88, x190_89, x190_90, x190_93, x190_95, x190_96, x190_97, x190_98, x190_101, x190_104, x190_105, x190_107, x190_111, x190_113, x190_116, n4 u, Kc_some]
end L7
