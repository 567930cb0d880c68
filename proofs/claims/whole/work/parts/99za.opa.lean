/-! questions are asked, both -/
/-- after a question -/
def anA (A : AS) (L c : List Int) : AS := (A.1, (0, A.2.1.2), (0, -1), A.2.2.2.1, ((L.length : Int), c))
section Ob
variable {σ τ : St}
theorem rsR_cc {h : Int} (e : ∀ c, c = 374 ∨ c = 377 ∨ c = 378 ∨ c = 379 ∨ c = 381 → τ c = σ c) : rsR τ h = rsR σ h := by
  have rw_ : ∀ n, rwR τ h n = rwR σ h n := fun n => by unfold rwR; rw [e 374 (by omega), e 378 (by omega), e 379 (by omega)]
  have rs : ∀ (k : Nat) (n : Int), rsF τ h k n = rsF σ h k n := by
    intro k
    induction k with
    | zero => intro n; rfl
    | succ k ih => intro n; rw [rsF, rsF, e 377 (by omega), rw_, ih]
  unfold rsR
  rw [e 381 (by omega), rs]
theorem atsF_of {h r s : Int} (e4 : τ 374 = σ 374) (e6 : τ 376 = σ 376) : ∀ (k : Nat) (i : Int), atsF τ h r s k i = atsF σ h r s k i := by
  intro k
  induction k with
  | zero => intro i; rfl
  | succ k ih =>
    intro i
    have : atR τ h r s i = atR σ h r s i := by unfold atR; rw [e4, e6]
    rw [atsF, atsF, this, ih]
end Ob
section Oa
variable {sc : Scr} {d : Nat} {σ τ X : St} {A : AS}
theorem l_asked {h m : Int} {u : Bool × Nat × Nat × Int} {Q : Rs → HS → Prop} (m3 : m ≤ 3) : ∀ (k i : Nat) (S : St), (i : Int) + k = m → S 373 43 = m →
    ∃ S', (∀ c, c ≠ 399 → S' c = S c) ∧ (∀ j, j < (i : Int) → S' 399 j = S 399 j) ∧ (∀ j, (i : Int) ≤ j → j < m → S' 399 j = S 387 j) ∧ ∀ (u : Bool × Nat × Nat × Int) (Q : Rs → HS → Prop), Ex sc d 262 44 [some (vR 373), some (vI h), some (vI 1), some (vI ((i : Int)))] [] (wH S u) Q ↔ Ex sc d 262 70 [some (vR 373), some (vI h), some (vI 1), some (vI m)] [] (wH S' u) Q := by
  intro k
  induction k with
  | zero =>
    intro i S hi h43
    have ei : (i : Int) = m := by omega
    refine ⟨S, fun _ _ => rfl, fun _ _ => rfl, fun j a b => by omega, fun u Q => ?_⟩
    rw [x262_44, ei]
    simp (disch := first | omega | exact notL_I | exact notL_N | exact notL_R | exact oM | exact catS_le (Nat.le_of_ble_eq_true rfl) | exact Nat.le_of_ble_eq_true rfl | rfl) only [x262_0, x262_1, x262_2, x262_5, x262_8, x262_11, x262_12, x262_13, x262_14, x262_15, x262_16, x262_19, x262_20, x262_23, x262_24, x262_25, x262_28, x262_29, x262_32, x262_33, x262_34, x262_35, x262_36, x262_39, x262_42, x262_43, x262_45, x262_46, x262_49, x262_52, x262_53, x262_56, x262_57, x262_58, x262_61, x262_62, x262_63, x262_64, x262_67, x262_71, x262_72, x262_75, x262_78, x262_79, x262_80, x262_83, x262_84, x262_87, x262_88, x262_89, x262_90, x262_91, x262_92, x262_95, x262_96, x262_99, gM_askedMany, h43, if_pos, if_neg, ↓reduceIte, not_true_eq_false, not_false_eq_true]
  | succ k ih =>
    intro i S hi h43
    obtain ⟨S', s1, s2, s3, s4⟩ := ih (i + 1) (su S 399 i (S 387 i)) (by omega) (by rw [su_ne (by omega)]; exact h43)
    refine ⟨S', fun c hc => by rw [s1 c hc, su_ne hc], fun j hj => by rw [s2 j (by omega), su_off (by omega)], fun j j0 j1 => ?_, fun u Q => ?_⟩
    · by_cases e : j = i
      · rw [s2 j (by omega), e, su_eq]
      · rw [s3 j (by omega) j1, su_ne (by omega)]
    · rw [← s4 u Q, x262_44, show ((i + 1 : Nat) : Int) = (i : Int) + 1 by omega]
      simp (disch := first | omega | exact notL_I | exact notL_N | exact notL_R | exact oM | exact catS_le (Nat.le_of_ble_eq_true rfl) | exact Nat.le_of_ble_eq_true rfl | rfl) only [x262_0, x262_1, x262_2, x262_5, x262_8, x262_11, x262_12, x262_13, x262_14, x262_15, x262_16, x262_19, x262_20, x262_23, x262_24, x262_25, x262_28, x262_29, x262_32, x262_33, x262_34, x262_35, x262_36, x262_39, x262_42, x262_43, x262_45, x262_46, x262_49, x262_52, x262_53, x262_56, x262_57, x262_58, x262_61, x262_62, x262_63, x262_64, x262_67, x262_71, x262_72, x262_75, x262_78, x262_79, x262_80, x262_83, x262_84, x262_87, x262_88, x262_89, x262_90, x262_91, x262_92, x262_95, x262_96, x262_99, gM_askedMany, h43, gM_asked, gM_list, RM_list, WM_asked, if_pos, if_neg, ↓reduceIte, not_true_eq_false, not_false_eq_true]
set_option maxHeartbeats 1000000 in
theorem m_ask {h : Int} (hd : 90 ≤ d) (h0 : 0 ≤ h) (h2 : h ≤ 2) (VX : VR A X) (o : okAS A) :
    (∃ as L Z, qstP (nxT A.2.1.2 A.2.1.1) (A.1 h).1 (nxT A.2.1.2 A.2.1.1 0) = .inr (as, L) ∧ (∀ a ∈ as, okA (A.1 h).1 a) ∧ (1 ≤ L.length ∧ L.length ≤ 3) ∧ VR (anA A L (ansL L (hitsL (A.1 h).2.2.2.1 as bd0))) Z ∧ (∀ c, c < 373 → Z c = X c) ∧ Z 373 0 = 0 ∧ RnA sc d 262 0 [some (vR 373), some (vI h), none, none] X (some (vI ((ansL L (hitsL (A.1 h).2.2.2.1 as bd0)).length : Int))) Z) ∨
    (∃ e Z, qstP (nxT A.2.1.2 A.2.1.1) (A.1 h).1 (nxT A.2.1.2 A.2.1.1 0) = .inl e ∧ VR (tfA A e) Z ∧ (∀ c, c < 373 → Z c = X c) ∧ Z 373 0 = 0 ∧ RnA sc d 262 0 [some (vR 373), some (vI h), none, none] X (some (vI (-1))) Z) := by
  have k := o.1 h h0 h2
  have V0 := VX.th (x := 0)
  have ry := r_yes (sc := sc) (d := d - 1) (σ := X) (h := h) (by omega) h0 h2
  have fa := fun u Q => s_fails (sc := sc) (σ := X) (u := u) (Q := Q) (d := d - 1) (b := 0) (Or.inl rfl)
  have cp := fun u Q => s_copies (sc := sc) (σ := su X 373 0 0) (u := u) (Q := Q) (d := d - 1) (f := h) (t := 3) (by omega) V0.2.1.1 h0 (by omega) (by omega) (by omega) (by omega)
  have e3 : hlR (cpH (su X 373 0 0) h 3) 3 = A.1 h := (cpH_c.hl V0.2.1.1 h0 (by omega)).trans (V0.1 h h0 h2)
  have W1 := cpH_wf (t := 3) V0.2.1.1 h0 (show h ≤ 4 by omega)
  have c1 : ∀ c, c < 374 ∨ 385 < c → cpH (su X 373 0 0) h 3 c = su X 373 0 0 c := cpH_r.1
  have q1 : ∀ g, 0 ≤ g → g ≤ 2 → hlR (cpH (su X 373 0 0) h 3) g = A.1 g := fun g g0 g2 => ((cpH_q (show g ≠ 3 by omega)).hl V0.2.1.1 g0 (by omega)).trans (V0.1 g g0 g2)
  generalize cpH (su X 373 0 0) h 3 = S1 at *
  have eC : coR S1 3 = (A.1 h).1 := congrArg (fun x : Hl => x.1) e3
  have eS : rsR S1 3 = (A.1 h).2.2.2.1 := congrArg (fun x : Hl => x.2.2.2.1) e3
  have f73 : ∀ j, j ≠ 0 → S1 373 j = X 373 j := fun j hj => by rw [c1 373 (by omega), su_off hj]
  have z0 : S1 373 0 = 0 := by rw [c1 373 (by omega), su_eq]
  have fo : ∀ c, c < 373 ∨ 385 < c → S1 c = X c := fun c hc => by rw [c1 c (by omega), su_ne (by omega)]
  have sq := s_question (sc := sc) (d := d - 1) (σ := S1) (by omega) W1
  rw [fo 386 (by omega), f73 14 (by omega), VX.2.2.1.1, VX.2.2.1.2, eC] at sq
  obtain ⟨v1, ⟨v2, v2'⟩, v3, v4, v5, v6, v7, v8⟩ := id VX
  -- halls, wherever a question has been read
  have hal : ∀ ρ : St, Fpq S1 ρ → ∀ g, 0 ≤ g → g ≤ 2 → hlR ρ g = A.1 g := fun ρ F g g0 g2 => by
    have hq : HQ S1 g ρ g := ⟨⟨fun t a b => by rw [F.1 374 (by omega) (by omega) (by omega)], by rw [F.1 375 (by omega) (by omega) (by omega)], fun t a b => F.2.2 _ (by omega)⟩, ⟨fun t _ _ => ⟨by rw [F.1 377 (by omega) (by omega) (by omega)], by rw [F.1 378 (by omega) (by omega) (by omega)]⟩, fun t _ _ => by rw [F.1 379 (by omega) (by omega) (by omega)], by rw [F.1 381 (by omega) (by omega) (by omega)], fun t _ _ => by rw [F.1 385 (by omega) (by omega) (by omega)]⟩, ⟨fun t _ _ => by rw [F.1 380 (by omega) (by omega) (by omega)], by rw [F.1 382 (by omega) (by omega) (by omega)], by rw [F.1 383 (by omega) (by omega) (by omega)], fun t _ _ => by rw [F.1 384 (by omega) (by omega) (by omega)]⟩⟩
    exact (hq.hl W1 g0 (by omega)).trans (q1 g g0 g2)
  have Vq : ∀ ρ : St, Fpq S1 ρ → WfM ρ → VR A ρ := fun ρ F W => by
    have fq : ∀ c, c < 373 ∨ 385 < c → c ≠ 387 → ρ c = X c := fun c hc h7 => by rw [F.1 c (by omega) (by omega) h7, fo c hc]
    have f3 : ∀ j, j < 15 ∨ 23 < j → j ≠ 0 → ρ 373 j = X 373 j := fun j hj hz => by rw [F.2.1 j (by omega) (by omega) (by omega), f73 j hz]
    have f4 : ∀ j, j = 20 ∨ j = 21 → ρ 373 j = X 373 j := fun j hj => by rw [F.2.1 j (by omega) (by omega) (by omega), f73 j (by omega)]
    exact ⟨hal ρ F, ⟨W, by rw [fq 393 (by omega) (by omega)]; exact v2'⟩, by rw [f3 14 (by omega) (by omega), fq 386 (by omega) (by omega)]; exact v3, by rw [f4 20 (by omega), f4 21 (by omega)]; exact v4, by rw [f3 37 (by omega) (by omega), fq 396 (by omega) (by omega)]; exact v5, by rw [f3 44 (by omega) (by omega)]; exact v6, by rw [f3 42 (by omega) (by omega)]; exact v7, by rw [fq 398 (by omega) (by omega)]; exact v8⟩
  rcases sq with ⟨as, L, ρ, s1, s2, s3, s4, s5, s6, s7, s8, s9, s10, s11, s12⟩ | ⟨e, ρ, s1, s2, s3, s4, s5⟩
  · have Vρ := Vq ρ s2 s3
    unfold RnA at s12
    have te := s_tellsW (sc := sc) (d := d - 1) (σ := ρ) (e := (0, -1)) (by rw [s4]; exact ⟨by decide, by decide⟩) (by rw [s4]; rfl)
    rw [s4] at te
    have VY := Vρ.te (e := (0, -1)) (x := 0) o rfl
    have oY := te_o (σ := ρ) (e := (0, -1)) (x := 0)
    have Yne : ∀ c, c ≠ 373 → su (su (su ρ 373 20 0) 373 21 (-1)) 373 14 0 c = ρ c := fun c a => by rw [su_ne a, su_ne a, su_ne a]
    have Y23 : su (su (su ρ 373 20 0) 373 21 (-1)) 373 14 0 373 23 = (L.length : Int) := by rw [su_off (by omega), su_off (by omega), su_off (by omega)]; exact s10
    dsimp only at te VY oY
    generalize su (su (su ρ 373 20 0) 373 21 (-1)) 373 14 0 = Y at *
    obtain ⟨S2, u1, u2, u3, u4⟩ := l_asked (sc := sc) (d := d) (h := h) (m := (L.length : Int)) (u := (true, 0, 0, 0)) (Q := fun _ _ => True) (by omega) L.length 0 (su Y 373 43 (L.length : Int)) (by omega) su_eq
    rw [Int.natCast_zero] at u4
    -- asked; none found yet
    have hT : ∀ c, c ≠ 373 → c ≠ 389 → c ≠ 399 → fl (su (su S2 373 44 (L.length : Int)) 373 42 0) 389 0 26 (-1) c = Y c := fun c a b e => by rw [fl_ne b, su_ne a, su_ne a, u1 c e, su_ne a]
    have hT3 : ∀ j, j ≠ 42 → j ≠ 43 → j ≠ 44 → fl (su (su S2 373 44 (L.length : Int)) 373 42 0) 389 0 26 (-1) 373 j = Y 373 j := fun j a b e => by rw [fl_ne (by omega), su_off a, su_off e, u1 373 (by omega), su_off b]
    have hT42 : fl (su (su S2 373 44 (L.length : Int)) 373 42 0) 389 0 26 (-1) 373 42 = 0 := by rw [fl_ne (by omega), su_eq]
    have hT43 : fl (su (su S2 373 44 (L.length : Int)) 373 42 0) 389 0 26 (-1) 373 43 = (L.length : Int) := by rw [fl_ne (by omega), su_off (by omega), su_off (by omega), u1 373 (by omega), su_eq]
    have hT44 : fl (su (su S2 373 44 (L.length : Int)) 373 42 0) 389 0 26 (-1) 373 44 = (L.length : Int) := by rw [fl_ne (by omega), su_off (by omega), su_eq]
    have hT389 : ∀ v, 0 ≤ v → v ≤ 25 → fl (su (su S2 373 44 (L.length : Int)) 373 42 0) 389 0 26 (-1) 389 v = -1 := fun v v0 v1 => by rw [fl_at, if_pos (by omega)]
    have hT399 : ∀ j, 0 ≤ j → j < (L.length : Int) → fl (su (su S2 373 44 (L.length : Int)) 373 42 0) 389 0 26 (-1) 399 j = ρ 387 j := fun j j0 j1 => by rw [fl_ne (by omega), su_ne (by omega), su_ne (by omega), u3 j (by omega) j1, su_ne (by omega), Yne 387 (by omega)]
    have g43 : S2 373 43 = (L.length : Int) := by rw [u1 373 (by omega), su_eq]
    have fg := fun u Q => s_forget (sc := sc) (σ := su (su S2 373 44 (L.length : Int)) 373 42 0) (u := u) (Q := Q) (d := d - 1)
    have run1 : ∀ (u : Bool × Nat × Nat × Int) (Q : Rs → HS → Prop), Ex sc d 262 0 [some (vR 373), some (vI h), none, none] [] (wH X u) Q ↔ Ex sc d 262 87 [some (vR 373), some (vI h), some (vI 1), some (vI ((L.length : Int)))] [] (wH (fl (su (su S2 373 44 (L.length : Int)) 373 42 0) 389 0 26 (-1)) u) Q := by
      intro u Q
      have a1 : Ex sc d 262 0 [some (vR 373), some (vI h), none, none] [] (wH X u) Q ↔ Ex sc d 262 44 [some (vR 373), some (vI h), some (vI 1), some (vI 0)] [] (wH (su Y 373 43 (L.length : Int)) u) Q := by
        simp (disch := first | omega | exact notL_I | exact notL_N | exact notL_R | exact oM | exact catS_le (Nat.le_of_ble_eq_true rfl) | exact Nat.le_of_ble_eq_true rfl | rfl) only [x262_0, x262_1, x262_2, x262_5, x262_8, x262_11, x262_12, x262_13, x262_14, x262_15, x262_16, x262_19, x262_20, x262_23, x262_24, x262_25, x262_28, x262_29, x262_32, x262_33, x262_34, x262_35, x262_36, x262_39, x262_42, x262_43, x262_45, x262_46, x262_49, x262_52, x262_53, x262_56, x262_57, x262_58, x262_61, x262_62, x262_63, x262_64, x262_67, x262_71, x262_72, x262_75, x262_78, x262_79, x262_80, x262_83, x262_84, x262_88, x262_89, x262_90, x262_91, x262_92, x262_95, x262_96, x262_99, ry, fa, cp, s12, te, gM_last, Y23, pM_askedMany, Kc_some, Kc_none, if_pos, if_neg, ↓reduceIte, not_true_eq_false, not_false_eq_true]
      rw [a1, u4 u Q, x262_70]
      simp (disch := first | omega | exact notL_I | exact notL_N | exact notL_R | exact oM | exact catS_le (Nat.le_of_ble_eq_true rfl) | exact Nat.le_of_ble_eq_true rfl | rfl) only [x262_0, x262_1, x262_2, x262_5, x262_8, x262_11, x262_12, x262_13, x262_14, x262_15, x262_16, x262_19, x262_20, x262_23, x262_24, x262_25, x262_28, x262_29, x262_32, x262_33, x262_34, x262_35, x262_36, x262_39, x262_42, x262_43, x262_45, x262_46, x262_49, x262_52, x262_53, x262_56, x262_57, x262_58, x262_61, x262_62, x262_63, x262_64, x262_67, x262_71, x262_72, x262_75, x262_78, x262_79, x262_80, x262_83, x262_84, x262_88, x262_89, x262_90, x262_91, x262_92, x262_95, x262_96, x262_99, gM_askedMany, g43, pM_foundWide, pM_foundMany, fg, Kc_none]
    generalize fl (su (su S2 373 44 (L.length : Int)) 373 42 0) 389 0 26 (-1) = S3 at *
    have D : Dt Y S3 := ⟨fun c a b => hT c (by omega) (by omega) (by omega), hT3 14 (by omega) (by omega) (by omega)⟩
    have x374 : S3 374 = ρ 374 := by rw [hT 374 (by omega) (by omega) (by omega), Yne 374 (by omega)]
    have x376 : S3 376 = ρ 376 := by rw [hT 376 (by omega) (by omega) (by omega), Yne 376 (by omega)]
    have r3 : rsR S3 3 = (A.1 h).2.2.2.1 := by
      rw [rsR_cc (σ := S1) (fun c hc => by rw [hT c (by omega) (by omega) (by omega), Yne c (by omega), s2.1 c (by omega) (by omega) (by omega)])]
      exact eS
    have t3 : coR S3 3 = (A.1 h).1 := by
      rw [← eC]
      unfold coR
      rw [x374, s2.1 374 (by omega) (by omega) (by omega)]
    have a3 : atsF S3 3 0 0 (S3 376 900).toNat 0 = as := by
      rw [x376, atsF_of x374 x376]
      exact s7
    have x900 : S3 376 900 = (as.length : Int) := by rw [x376]; exact s6
    have ac : atC S3 3 0 0 (S3 376 900) := by
      intro i i0 i1
      have me := atsF_mem (σ := S3) (h := 3) (r := 0) (s := 0) (i := i) (S3 376 900).toNat 0 i0 (by omega)
      rw [a3] at me
      have ok := s8 _ me
      have ao := (D.wf VY.2.1.1).ato (h := 3) (r := 0) (s := 0) (i := i) (by omega) (by omega) (by omega) (by omega) (by omega) (by omega) i0 (by omega)
      have e : (atR S3 3 0 0 i).1 = S3 376 (30 * (10 * 3 + 0) + (3 + 4 * (3 * 0 + i))) := rfl
      have := ok.2.2.1
      rw [e, ← t3, coR_in ao.1.1 ao.1.2] at this
      exact this
    have hB : cB (S3 389) = bd0 := by
      funext v
      unfold cB bd0
      split
      · rename_i hv; exact hT389 v hv.1 (by omega)
      · rfl
    have an0 : AnI L [] S3 := ⟨hT42, fun i c h => (by cases h), List.Pairwise.nil, fun c h => (by cases h), hT43, fun j v hj => by
      have hl := (List.getElem?_eq_some_iff.mp hj).1
      rw [hT399 j (by omega) (by omega)]
      exact ⟨(s11 j v hj).1, (s11 j v hj).2.1⟩⟩
    have ask := s_askH (sc := sc) (d := d - 1) (σ := S3) (A := L) (D.wf VY.2.1.1) ac hB (fun v v0 v1 => by rw [hT389 v v0 v1]; omega) an0 s9.1 s9.2 (by rw [x900]; have := s5.2; omega) (by rw [r3]; exact k.2.2.2.2.2.1.2.2.2.2.1) (by rw [r3, t3]; exact k.2.2.2.2.2.1.1) (by rw [a3, t3]; exact s8) (fun v hv => by
      obtain ⟨j, hj, ej⟩ := List.mem_iff_getElem.mp hv
      have := (s11 j v (by rw [List.getElem?_eq_getElem hj, ej])).2.2
      rw [a3]
      exact this) (by omega)
    rw [r3, a3] at ask
    obtain ⟨Z, z1, z2, z3⟩ := ask
    unfold RnA at z3
    have Dz : Dt S3 Z := ⟨fun c a b => z1.1 c (by omega) (by omega) (by omega) (by omega) (by omega), z1.2 14 (by omega) (by omega)⟩
    obtain ⟨y1, ⟨y2, y2'⟩, y3, y4, y5, y6, y7, y8⟩ := VY
    have Zc : ∀ c, c ≠ 373 → c ≠ 389 → c ≠ 390 → c ≠ 392 → c ≠ 398 → c ≠ 399 → Z c = Y c := fun c a b e f g i => by rw [z1.1 c a b e f g, hT c a b i]
    have Z3 : ∀ j, j ≠ 30 → j ≠ 42 → j ≠ 43 → j ≠ 44 → Z 373 j = Y 373 j := fun j a b e f => by rw [z1.2 j a b, hT3 j b e f]
    have W3 := D.wf y2
    refine Or.inl ⟨as, L, Z, s1, s8, s9, ⟨fun g g0 g2 => (Dz.hl W3 g0 (by omega)).trans ((D.hl y2 g0 (by omega)).trans (y1 g g0 g2)), ⟨Dz.wf W3, by rw [Zc 393 (by omega) (by omega) (by omega) (by omega) (by omega) (by omega)]; exact y2'⟩, by rw [Z3 14 (by omega) (by omega) (by omega) (by omega), Zc 386 (by omega) (by omega) (by omega) (by omega) (by omega) (by omega)]; exact y3, by rw [Z3 20 (by omega) (by omega) (by omega) (by omega), Z3 21 (by omega) (by omega) (by omega) (by omega)]; exact y4, by rw [Z3 37 (by omega) (by omega) (by omega) (by omega), Zc 396 (by omega) (by omega) (by omega) (by omega) (by omega) (by omega)]; exact y5, by rw [z1.2 44 (by omega) (by omega)]; exact hT44, z2.1, z2.2.1⟩, fun c hc => by rw [Zc c (by omega) (by omega) (by omega) (by omega) (by omega) (by omega), oY.1 c hc, s2.1 c (by omega) (by omega) (by omega), fo c (by omega)], by rw [Z3 0 (by omega) (by omega) (by omega) (by omega), oY.2, s2.2.1 0 (by omega) (by omega) (by omega)]; exact z0, fun u Q => ?_⟩
    have z42 := z2.1
    rw [run1 u Q, x262_87]
    simp (disch := first | omega | exact notL_I | exact notL_N | exact notL_R | exact oM | exact catS_le (Nat.le_of_ble_eq_true rfl) | exact Nat.le_of_ble_eq_true rfl | rfl) only [x262_0, x262_1, x262_2, x262_5, x262_8, x262_11, x262_12, x262_13, x262_14, x262_15, x262_16, x262_19, x262_20, x262_23, x262_24, x262_25, x262_28, x262_29, x262_32, x262_33, x262_34, x262_35, x262_36, x262_39, x262_42, x262_43, x262_45, x262_46, x262_49, x262_52, x262_53, x262_56, x262_57, x262_58, x262_61, x262_62, x262_63, x262_64, x262_67, x262_71, x262_72, x262_75, x262_78, x262_79, x262_80, x262_83, x262_84, x262_88, x262_89, x262_90, x262_91, x262_92, x262_95, x262_96, x262_99, z3, gM_foundMany, z42, Kc_none]
  · have Vρ := Vq ρ s2 s3
    have f5 := fl_qst e s1
    unfold RnA at s5
    have te := s_tellsW (sc := sc) (d := d - 1) (σ := ρ) (e := e) (by rw [s4.1]; exact ⟨by omega, by omega⟩) (by rw [s4.1, if_neg (by omega)]; exact s4.2)
    rw [s4.1] at te
    have oY := te_o (σ := ρ) (e := e) (x := e.1)
    refine Or.inr ⟨e, _, s1, Vρ.te (e := e) (x := e.1) o rfl, fun c hc => by rw [oY.1 c hc, s2.1 c (by omega) (by omega) (by omega), fo c (by omega)], by rw [oY.2, s2.2.1 0 (by omega) (by omega) (by omega)]; exact z0, fun u Q => ?_⟩
    simp (disch := first | omega | exact notL_I | exact notL_N | exact notL_R | exact oM | exact catS_le (Nat.le_of_ble_eq_true rfl) | exact Nat.le_of_ble_eq_true rfl | rfl) only [x262_0, x262_1, x262_2, x262_5, x262_8, x262_11, x262_12, x262_13, x262_14, x262_15, x262_16, x262_19, x262_20, x262_23, x262_24, x262_25, x262_28, x262_29, x262_32, x262_33, x262_34, x262_35, x262_36, x262_39, x262_42, x262_43, x262_45, x262_46, x262_49, x262_52, x262_53, x262_56, x262_57, x262_58, x262_61, x262_62, x262_63, x262_64, x262_67, x262_70, x262_71, x262_72, x262_75, x262_78, x262_79, x262_80, x262_83, x262_84, x262_87, x262_88, x262_89, x262_90, x262_91, x262_92, x262_95, x262_96, x262_99, ry, fa, cp, s5, te, Kc_some, Kc_none, if_pos, if_neg, ↓reduceIte, not_true_eq_false, not_false_eq_true]
theorem ru94 (W : WfRu σ 94) (h4 : τ 94 = σ 94) (h5 : WfAt τ 95) (h8 : ∀ c, 98 ≤ c → c < 101 → τ c = σ c) : WfRu τ 94 := by
  obtain ⟨w1, w2, w3, w4, w5⟩ := W
  exact ⟨by rw [h4]; exact w1, by rw [h4]; exact w2, by rw [h4]; exact w3, h5, (w5.eq (fun c a b => h8 c a b)).1⟩
set_option maxHeartbeats 1000000 in
theorem op_ask {h : Int} (hd : 100 ≤ d) (hh : inR h) (V : VV A σ) : Lk sc d 148 [some (vR 0), some (vI h), none] 262 [some (vR 373), some (vI h), none, none] σ := by
  obtain ⟨Vc, Vr, o⟩ := id V
  by_cases hr : 0 ≤ h ∧ h ≤ 2
  · obtain ⟨h0, h2⟩ := hr
    have ha := fun u Q => s_hallAt (sc := sc) (σ := σ) (d := d - 1) (u := u) (Q := Q) h0 h2
    have ob := hpb_o h0 h2
    have hb := hpb_r h2
    have orr := ob.rows
    have oru := oRu_94
    have k := o.1 h h0 h2
    obtain ⟨T, e86, e03⟩ := Vc.tp o
    obtain ⟨τ1, a1, a2, a3, a4, a5⟩ := s_give (sc := sc) (d := d - 1) (σ := σ) (by omega) T
    rw [e86, e03] at a4
    unfold RnA at a5
    have W2 : WfHa τ1 2 := Vc.2.1.1.c (fun c x y => a1 c (by omega) (by omega) (by omega))
    have W9 : WfRu τ1 94 := Vc.2.1.2.c (fun c x y => a1 c (by omega) (by omega) (by omega))
    have eC : coC τ1 (hpb h) = (A.1 h).1 := by
      rw [coC_eq (a1 (hpb h + 1) (by omega) (by omega) (by omega))]
      exact congrArg (fun x : Hl => x.1) (Vc.1 h h0 h2).1
    rcases s_questC (sc := sc) (d := d - 1) (b := hpb h) (σ := τ1) (C := (A.1 h).1) (by omega) ob (by unfold far; omega) (by omega) k.1 eC a4 W9.2.2.2.1 with ⟨as, L, τ2, b1, b2, b3, b4, b5, b6, b7, b8⟩ | ⟨e, τ2, b1, b2, b3, b4, b5⟩
    · unfold RnA at b8
      -- atoms keep to the columns
      have okas : ∀ a ∈ as, okA (A.1 h).1 a := by
        rcases m_ask (sc := sc) (d := d) (X := σ) (by omega) h0 h2 Vr o with ⟨as', L', Z, s1, s2, _⟩ | ⟨e, Z, s1, _⟩
        · have := Sum.inr.inj (b1.symm.trans s1)
          have e1 : as = as' := congrArg Prod.fst this
          rw [e1]
          exact s2
        · rw [b1] at s1
          cases s1
      have n2 : ∀ c, c = 108 ∨ 119 ≤ c → τ2 c = σ c := fun c hc => by rw [b2.1 c (by omega) (by omega) (by omega) (by omega) (by omega), a1 c (by omega) (by omega) (by omega)]
      have W92 : WfRu τ2 94 := ru94 W9 (b2.1 94 (by omega) (by omega) (by omega) (by omega) (by omega)) b3 (fun c x y => b2.1 c (by omega) (by omega) (by omega) (by omega) (by omega))
      have W22 : WfHa τ2 2 := W2.c (fun c x y => b2.1 c (by omega) (by omega) (by omega) (by omega) (by omega))
      have Vc2 : VC (tfA A (0, -1)) τ2 := Vc.tf (T := (0, A.2.1.2)) (e := (0, -1)) n2 W22 W92 (by rw [b2.1 0 (by omega) (by omega) (by omega) (by omega) (by omega)]; exact a2) (by rw [b2.1 86 (by omega) (by omega) (by omega) (by omega) (by omega), a1 86 (by omega) (by omega) (by omega)]; exact e86) b7.1 b7.2
      have es : rsC τ2 (hpb h + 3) = (A.1 h).2.2.2.1 := congrArg (fun x : Hl => x.2.2.2.1) (Vc2.1 h h0 h2).1
      have el := asC_len (σ := τ2) (r := 95) b3.1.1
      rw [b4] at el
      have sc2 := s_collect (sc := sc) (d := d - 1) (σ := τ2) (r := hpb h + 3) (A := L) orr (by omega) (by omega) b3 (Vc2.1 h h0 h2).2.1.2.2.2.1 (by omega) (by omega) (by rw [b4, es]; exact fun a ha w hw => ok_fitT (okas a ha) (k.2.2.2.2.2.1.1 w hw)) b6
      rw [es, b4] at sc2
      obtain ⟨τ3, t1, t2, t3, t4⟩ := sc2
      unfold RnA at t4
      obtain ⟨y1, y2, y3, y4, y5, y6, y7⟩ := Vc2
      have Vc3 : VC (anA A L (ansL L (hitsL (A.1 h).2.2.2.1 as bd0))) τ3 := by
        refine ⟨fun g g0 g2 => ?_, ⟨y2.1.c (fun c x y => t1 c (by omega) (by omega) (by omega)), y2.2.c (fun c x y => t1 c (by omega) (by omega) (by omega))⟩, by rw [t1 0 (by omega) (by omega) (by omega), t1 86 (by omega) (by omega) (by omega)]; exact y3, by rw [t1 87 (by omega) (by omega) (by omega)]; exact y4, fun j j0 j1 => by rw [t1 108 (by omega) (by omega) (by omega)]; exact y5 j j0 j1, t2, t3⟩
        obtain ⟨q1, q2, q3⟩ := y1 g g0 g2
        have rg := hpb_r g2
        have ne : ∀ c, hpb g ≤ c → c < hpb g + 84 → τ3 c = τ2 c := fun c x y => t1 c (by omega) (by omega) (by omega)
        exact ⟨(hlC_c ne q2.2.1.2).trans q1, q2.c ne, by rw [ne _ (by omega) (by omega)]; exact q3⟩
      have up3 : ∀ c, 373 ≤ c → τ3 c = σ c := fun c hc => by rw [t1 c (by omega) (by omega) (by omega), n2 c (by omega)]
      rcases m_ask (sc := sc) (d := d) (X := τ3) (by omega) h0 h2 (Vr.up up3) o with ⟨as', L', Z, s1, s2, s3, s4, s5, s6, s7⟩ | ⟨e, Z, s1, _⟩
      · have ee := Sum.inr.inj (b1.symm.trans s1)
        have e1 : as = as' := congrArg Prod.fst ee
        have e2 : L = L' := congrArg Prod.snd ee
        subst e1
        subst e2
        have lc : (ansL L (hitsL (A.1 h).2.2.2.1 as bd0)).length ≤ 1600 := by
          have x0 := (ansL_ok (ask := L) (hitsL (A.1 h).2.2.2.1 as bd0)).2.2
          have x1 := hits_len (R := (A.1 h).2.2.2.1) as bd0
          have l4 := k.2.2.2.2.2.1.2.2.2.2.1
          have x2 : (A.1 h).2.2.2.1.length ^ as.length ≤ 40 ^ as.length := Nat.pow_le_pow_left l4 _
          have x3 : 40 ^ as.length ≤ 40 ^ 2 := Nat.pow_le_pow_right (by omega) (by omega)
          have x4 : (40 : Nat) ^ 2 = 1600 := by decide
          omega
        have oA : okAS (anA A L (ansL L (hitsL (A.1 h).2.2.2.1 as bd0))) := ⟨o.1, ⟨by show (0 : Int) ≤ 0; decide, by show (0 : Int) ≤ 1000; decide⟩, o.2.2.1, trivial, trivial, ⟨by show (0 : Int) ≤ (L.length : Int); omega, by show (L.length : Int) ≤ 3; omega⟩, lc, (ansL_ok (ask := L) (hitsL (A.1 h).2.2.2.1 as bd0)).2.1⟩
        have c0 := t3.1
        refine Lk.ok (v := ((ansL L (hitsL (A.1 h).2.2.2.1 as bd0)).length : Int)) ⟨by omega, by omega⟩ oA Vc3 s4 s5 s6 (fun u Q => ?_) s7
        simp (disch := first | assumption | omega | exact notL_I | exact notL_N | exact notL_R | exact catS_le (Nat.le_of_ble_eq_true rfl) | exact Nat.le_of_ble_eq_true rfl | exact ooRo (by assumption) | exact ooAt (by assumption) | exact ooRu (by assumption) | exact ooLo (by assumption) | exact ooHa (by assumption) | exact ooLe (by assumption) | exact ooFn | exact ooAn | exact ooPa | exact ooTo | exact ooWa | exact ooCh | rfl) only [x148_0, x148_1, x148_2, x148_5, x148_6, x148_7, x148_10, x148_11, x148_14, x148_15, x148_18, x148_21, x148_22, x148_25, x148_28, x148_29, x148_30, x148_31, x148_32, x148_35, x148_38, x148_39, x148_42, x148_45, x148_46, x148_49, x148_52, ha, a5, gCh_parser, gCh_told, gRu_ahead, b8, gHa_rows, t4, gCh_answers, gAn_count, c0, Kc_some, Kc_none, if_pos, if_neg, ↓reduceIte, not_true_eq_false, not_false_eq_true]
      · rw [b1] at s1
        cases s1
    · unfold RnA at b5
      have n2 : ∀ c, c = 108 ∨ 119 ≤ c → τ2 c = σ c := fun c hc => by rw [b2.1 c (by omega) (by omega) (by omega) (by omega) (by omega), a1 c (by omega) (by omega) (by omega)]
      have W92 : WfRu τ2 94 := ru94 W9 (b2.1 94 (by omega) (by omega) (by omega) (by omega) (by omega)) b3 (fun c x y => b2.1 c (by omega) (by omega) (by omega) (by omega) (by omega))
      have W22 : WfHa τ2 2 := W2.c (fun c x y => b2.1 c (by omega) (by omega) (by omega) (by omega) (by omega))
      have Vc2 : VC (tfA A e) τ2 := Vc.tf (T := (0, A.2.1.2)) (e := e) n2 W22 W92 (by rw [b2.1 0 (by omega) (by omega) (by omega) (by omega) (by omega)]; exact a2) (by rw [b2.1 86 (by omega) (by omega) (by omega) (by omega) (by omega), a1 86 (by omega) (by omega) (by omega)]; exact e86) b4.1 b4.2
      rcases m_ask (sc := sc) (d := d) (X := τ2) (by omega) h0 h2 (Vr.up (fun c hc => n2 c (by omega))) o with ⟨as', L', Z, s1, _⟩ | ⟨e', Z, s1, s4, s5, s6, s7⟩
      · rw [b1] at s1
        cases s1
      · have ee : e = e' := Sum.inl.inj (b1.symm.trans s1)
        subst ee
        refine Lk.ok (v := -1) ⟨by decide, by decide⟩ (tfA_ok o) Vc2 s4 s5 s6 (fun u Q => ?_) s7
        simp (disch := first | assumption | omega | exact notL_I | exact notL_N | exact notL_R | exact catS_le (Nat.le_of_ble_eq_true rfl) | exact Nat.le_of_ble_eq_true rfl | exact ooRo (by assumption) | exact ooAt (by assumption) | exact ooRu (by assumption) | exact ooLo (by assumption) | exact ooHa (by assumption) | exact ooLe (by assumption) | exact ooFn | exact ooAn | exact ooPa | exact ooTo | exact ooWa | exact ooCh | rfl) only [x148_0, x148_1, x148_2, x148_5, x148_6, x148_7, x148_10, x148_11, x148_14, x148_15, x148_18, x148_21, x148_22, x148_25, x148_28, x148_29, x148_30, x148_31, x148_32, x148_35, x148_38, x148_39, x148_42, x148_45, x148_46, x148_49, x148_52, ha, a5, gCh_parser, gCh_told, gRu_ahead, b5, Kc_some, Kc_none, if_pos, if_neg, ↓reduceIte, not_true_eq_false, not_false_eq_true]
  · have rn := r_no (sc := sc) (d := d - 1) (σ := σ) (h := h) (by omega) hh hr
    have fa := fun u Q => s_fails (sc := sc) (σ := σ) (u := u) (Q := Q) (d := d - 1) (b := 1) (Or.inr rfl)
    refine Lk.no V (Or.inl ⟨rfl, by decide⟩) (fun u Q => ?_) (fun u Q => ?_)
    · have nh := fun u Q => s_noHallC (sc := sc) (σ := σ) (d := d - 1) (u := u) (Q := Q) hh hr
      simp (disch := first | assumption | omega | exact notL_I | exact notL_N | exact notL_R | exact catS_le (Nat.le_of_ble_eq_true rfl) | exact Nat.le_of_ble_eq_true rfl | exact ooRo (by assumption) | exact ooAt (by assumption) | exact ooRu (by assumption) | exact ooLo (by assumption) | exact ooHa (by assumption) | exact ooLe (by assumption) | exact ooFn | exact ooAn | exact ooPa | exact ooTo | exact ooWa | exact ooCh | rfl) only [x148_0, x148_1, x148_2, x148_5, x148_6, x148_7, x148_10, x148_11, x148_14, x148_15, x148_18, x148_21, x148_22, x148_25, x148_28, x148_29, x148_30, x148_31, x148_32, x148_35, x148_38, x148_39, x148_42, x148_45, x148_46, x148_49, x148_52, nh]
      exact thrK rfl rfl
    · simp (disch := first | omega | exact notL_I | exact notL_N | exact notL_R | exact oM | exact catS_le (Nat.le_of_ble_eq_true rfl) | exact Nat.le_of_ble_eq_true rfl | rfl) only [x262_0, x262_1, x262_2, x262_5, x262_8, x262_11, x262_12, x262_13, x262_14, x262_15, x262_16, x262_19, x262_20, x262_23, x262_24, x262_25, x262_28, x262_29, x262_32, x262_33, x262_34, x262_35, x262_36, x262_39, x262_42, x262_43, x262_44, x262_45, x262_46, x262_49, x262_52, x262_53, x262_56, x262_57, x262_58, x262_61, x262_62, x262_63, x262_64, x262_67, x262_70, x262_71, x262_72, x262_75, x262_78, x262_79, x262_80, x262_83, x262_84, x262_87, x262_88, x262_89, x262_90, x262_91, x262_92, x262_95, x262_96, x262_99, rn, fa, Kc_some, if_pos, if_neg, ↓reduceIte, not_true_eq_false, not_false_eq_true]
      rfl
end Oa
