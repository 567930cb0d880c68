/-! what both begin with, and what is owed -/
def H00 : Hl := (fun _ => 0, [], 0, ([], 0, fun _ => 0, [], fun _ => -1))
def A00 : AS := (fun _ => H00, (0, fun _ => 0), (0, -1), (fun _ => -1), (0, []))
theorem sg_ch {o : Nat} (h : o < 373) : sg0 o = chP o := by
  unfold sg0
  rw [wn_out (by omega)]
  unfold wn
  rw [if_pos (by omega), Nat.sub_zero]
theorem sg_mo {o : Nat} (h : o < 31) : sg0 (373 + o) = moP o := by
  unfold sg0 wn
  rw [if_pos (by omega), Nat.add_sub_cancel_left]
theorem sg_hall {h : Int} (h0 : 0 ≤ h) (h2 : h ≤ 2) : ∀ o, o < 84 → sg0 (hpb h + o) = hallP o := by
  intro o ho
  have r := hpb_r h2
  rw [sg_ch (by omega)]
  funext j
  unfold chP
  simp (disch := omega) only [if_neg]
  have e : (hpb h + o - 121) % 84 = o := by unfold hpb; omega
  rw [e]
theorem sg_spare : ∀ o, o < 84 → sg0 (2 + o) = hallP o := by
  intro o ho
  rw [sg_ch (by omega)]
  funext j
  unfold chP
  simp (disch := omega) only [if_neg, if_pos]
  rw [Nat.add_sub_cancel_left]
theorem mP_in {n j : Int} : -1 ≤ mP n j ∧ mP n j ≤ 0 := by unfold mP; split <;> omega
/-- an empty hall, and the rest of it in order -/
theorem hall_00 {σ : St} {b : Nat} (h : ∀ o, o < 84 → σ (b + o) = hallP o) : hlC σ b = H00 ∧ WfHa σ b ∧ σ b 0 = 0 := by
  have z : ∀ o, o < 84 → o ≠ 10 → o < 14 → ∀ j, σ (b + o) j = 0 := fun o a c e j => by
    rw [h o a]
    unfold hallP
    rw [if_neg c, if_neg (by omega)]
  have hb : ∀ j, σ b j = 0 := fun j => z 0 (by omega) (by omega) (by omega) j
  have hm : ∀ j, σ (b + 10) j = mP 200 j := fun j => by rw [h 10 (by omega)]; rfl
  have wat : ∀ o, o + 2 < 84 → (∀ j, σ (b + o) j = 0 ∧ σ (b + o + 1) j = 0 ∧ σ (b + o + 2) j = 0) → WfAt σ (b + o) := fun o ho hz => by
    refine ⟨by rw [(hz 0).1]; omega, fun i _ _ => by rw [(hz i).2.1]; omega, fun i _ _ => by rw [(hz i).2.2]; omega⟩
  refine ⟨?_, ⟨by rw [hb]; omega, by rw [hb]; omega, fun t _ _ => by rw [z 1 (by omega) (by omega) (by omega)]; omega, ?_, ?_, ?_, ?_⟩, hb 0⟩
  · have c1 : coC σ b = fun _ => 0 := by
      funext t
      unfold coC
      rw [z 1 (by omega) (by omega) (by omega)]
      split <;> rfl
    have c2 : rlC σ b = [] := by unfold rlC; rw [hb]; rfl
    have c3 : rsC σ (b + 3) = [] := by unfold rsC; rw [z 3 (by omega) (by omega) (by omega)]; rfl
    have c4 : naC σ (b + 3) = fun _ => 0 := by
      funext k
      unfold naC
      rw [show b + 3 + 4 = b + 7 from rfl, z 7 (by omega) (by omega) (by omega)]
      split <;> rfl
    have c5 : stC σ (b + 8) = [] := by unfold stC; rw [z 8 (by omega) (by omega) (by omega)]; rfl
    have c6 : byC σ (b + 8) = fun _ => -1 := by
      funext k
      unfold byC
      rw [show b + 8 + 2 = b + 10 from rfl, hm]
      split
      · unfold mP; rw [if_pos (by omega)]
      · rfl
    unfold hlC rnC
    rw [c1, c2, c3, c4, c5, c6, z 8 (by omega) (by omega) (by omega), z 3 (by omega) (by omega) (by omega)]
    rfl
  · refine ⟨by rw [z 3 (by omega) (by omega) (by omega)]; omega, by rw [z 3 (by omega) (by omega) (by omega)]; omega, fun p _ _ => ⟨?_, ?_⟩, fun i _ _ => ?_, fun k _ _ => ?_⟩
    · rw [show b + 3 + 1 = b + 4 from rfl, z 4 (by omega) (by omega) (by omega)]; omega
    · rw [show b + 3 + 2 = b + 5 from rfl, z 5 (by omega) (by omega) (by omega)]; omega
    · rw [show b + 3 + 3 = b + 6 from rfl, z 6 (by omega) (by omega) (by omega)]; omega
    · rw [show b + 3 + 4 = b + 7 from rfl, z 7 (by omega) (by omega) (by omega)]; omega
  · refine ⟨by rw [z 8 (by omega) (by omega) (by omega)]; omega, by rw [z 8 (by omega) (by omega) (by omega)]; omega, fun i _ _ => ?_, fun k _ _ => ?_⟩
    · rw [show b + 8 + 1 = b + 9 from rfl, z 9 (by omega) (by omega) (by omega)]; omega
    · rw [show b + 8 + 2 = b + 10 from rfl, hm]
      have := mP_in (n := 200) (j := k)
      omega
  · exact wat 11 (by omega) (fun j => ⟨z 11 (by omega) (by omega) (by omega) j, z 12 (by omega) (by omega) (by omega) j, z 13 (by omega) (by omega) (by omega) j⟩)
  · intro k hk
    have g : ∀ o, o < 7 → ∀ j, σ (b + 14 + 7 * k + o) j = ruleP o j := fun o ho j => by
      rw [show b + 14 + 7 * k + o = b + (14 + 7 * k + o) by omega, h _ (by omega)]
      unfold hallP
      rw [if_neg (by omega), if_pos (by omega), show (14 + 7 * k + o - 14) % 7 = o by omega]
    have g0 : ∀ j, σ (b + 14 + 7 * k) j = ruleP 0 j := fun j => g 0 (by omega) j
    have gz : ∀ o, o < 7 → o ≠ 0 → ∀ j, σ (b + 14 + 7 * k + o) j = 0 := fun o ho h0 j => by rw [g o ho]; unfold ruleP; rw [if_neg h0]
    refine ⟨by rw [g0]; exact ⟨by decide, by decide⟩, by rw [g0]; exact ⟨by decide, by decide⟩, by rw [g0]; exact ⟨by decide, by decide⟩, ?_, ?_⟩
    · exact ⟨by rw [gz 1 (by omega) (by omega)]; omega, fun i _ _ => by rw [show b + 14 + 7 * k + 1 + 1 = b + 14 + 7 * k + 2 from rfl, gz 2 (by omega) (by omega)]; omega, fun i _ _ => by rw [show b + 14 + 7 * k + 1 + 2 = b + 14 + 7 * k + 3 from rfl, gz 3 (by omega) (by omega)]; omega⟩
    · exact ⟨by rw [gz 4 (by omega) (by omega)]; omega, fun i _ _ => by rw [show b + 14 + 7 * k + 4 + 1 = b + 14 + 7 * k + 5 from rfl, gz 5 (by omega) (by omega)]; omega, fun i _ _ => by rw [show b + 14 + 7 * k + 4 + 2 = b + 14 + 7 * k + 6 from rfl, gz 6 (by omega) (by omega)]; omega⟩
theorem VC_00 : VC A00 sg0 := by
  have t0 : tabF (fun _ => 0) 26 0 = 0 := by decide
  refine ⟨fun h h0 h2 => ?_, ⟨(hall_00 sg_spare).2.1, ?_⟩, ⟨by rw [sg_ch (by omega)]; rfl, by rw [sg_ch (by omega)]; rfl⟩, ⟨by rw [sg_ch (by omega)]; rfl, by rw [sg_ch (by omega)]; rfl⟩, fun k k0 k1 => ?_, by rw [sg_ch (by omega)]; rfl, ⟨by rw [sg_ch (by omega)]; rfl, fun i c hc => (by cases hc), List.Pairwise.nil, fun c hc => (by cases hc)⟩⟩
  · obtain ⟨a1, a2, a3⟩ := hall_00 (sg_hall h0 h2)
    exact ⟨a1, a2, by rw [a3]; exact t0.symm⟩
  · have g : ∀ o, o < 7 → ∀ j, sg0 (94 + o) j = ruleP o j := fun o ho j => by
      rw [sg_ch (by omega)]
      unfold chP
      simp (disch := omega) only [if_neg, if_pos]
      rw [Nat.add_sub_cancel_left]
    have g0 : ∀ j, sg0 94 j = ruleP 0 j := fun j => g 0 (by omega) j
    have gz : ∀ o, o < 7 → o ≠ 0 → ∀ j, sg0 (94 + o) j = 0 := fun o ho h0 j => by rw [g o ho]; unfold ruleP; rw [if_neg h0]
    refine ⟨by rw [g0]; exact ⟨by decide, by decide⟩, by rw [g0]; exact ⟨by decide, by decide⟩, by rw [g0]; exact ⟨by decide, by decide⟩, ?_, ?_⟩
    · exact ⟨by rw [gz 1 (by omega) (by omega)]; omega, fun i _ _ => by rw [show 94 + 1 + 1 = 94 + 2 from rfl, gz 2 (by omega) (by omega)]; omega, fun i _ _ => by rw [show 94 + 1 + 2 = 94 + 3 from rfl, gz 3 (by omega) (by omega)]; omega⟩
    · exact ⟨by rw [gz 4 (by omega) (by omega)]; omega, fun i _ _ => by rw [show 94 + 4 + 1 = 94 + 5 from rfl, gz 5 (by omega) (by omega)]; omega, fun i _ _ => by rw [show 94 + 4 + 2 = 94 + 6 from rfl, gz 6 (by omega) (by omega)]; omega⟩
  · rw [sg_ch (by omega)]
    show mP 100 k = -1
    unfold mP
    rw [if_pos (by omega)]
theorem sg_z {o : Nat} (h : o < 31) (h0 : o ≠ 0) (h7 : o ≠ 7) : ∀ j, sg0 (373 + o) j = 0 := fun j => by
  rw [sg_mo h]
  unfold moP
  rw [if_neg h0, if_neg h7]
theorem VR_00 : VR A00 sg0 := by
  have z4 : ∀ j, sg0 374 j = 0 := sg_z (o := 1) (by omega) (by omega) (by omega)
  have z5 : ∀ j, sg0 375 j = 0 := sg_z (o := 2) (by omega) (by omega) (by omega)
  have z6 : ∀ j, sg0 376 j = 0 := sg_z (o := 3) (by omega) (by omega) (by omega)
  have z7 : ∀ j, sg0 377 j = 0 := sg_z (o := 4) (by omega) (by omega) (by omega)
  have z8 : ∀ j, sg0 378 j = 0 := sg_z (o := 5) (by omega) (by omega) (by omega)
  have z9 : ∀ j, sg0 379 j = 0 := sg_z (o := 6) (by omega) (by omega) (by omega)
  have z1 : ∀ j, sg0 381 j = 0 := sg_z (o := 8) (by omega) (by omega) (by omega)
  have z2 : ∀ j, sg0 382 j = 0 := sg_z (o := 9) (by omega) (by omega) (by omega)
  have z3 : ∀ j, sg0 383 j = 0 := sg_z (o := 10) (by omega) (by omega) (by omega)
  have za : ∀ j, sg0 385 j = 0 := sg_z (o := 12) (by omega) (by omega) (by omega)
  have zb : ∀ j, sg0 386 j = 0 := sg_z (o := 13) (by omega) (by omega) (by omega)
  have zc : ∀ j, sg0 393 j = 0 := sg_z (o := 20) (by omega) (by omega) (by omega)
  have m0 : ∀ j, sg0 380 j = mP 1000 j := fun j => by rw [show 380 = 373 + 7 from rfl, sg_mo (by omega)]; rfl
  have f0 : ∀ j, sg0 373 j = if j = 21 then -1 else 0 := fun j => by rw [show 373 = 373 + 0 from rfl, sg_mo (by omega)]; rfl
  have tm : isTm 0 := Or.inl ⟨by decide, by decide⟩
  have pl : isPl 0 := Or.inl ⟨by decide, by decide⟩
  have W : WfM sg0 := by
    refine ⟨fun i _ _ => by rw [z4]; omega, fun i _ _ => by rw [z5]; omega, fun i _ _ => ?_, fun i _ _ => Or.inl (z7 i), fun i _ _ => by rw [z8]; omega, fun i _ _ => by rw [z9]; exact tm, fun i _ _ => ?_, fun i _ _ => by rw [z1]; omega, fun i _ _ => by rw [z2]; omega, fun i _ _ => by rw [z3]; omega, fun i _ _ => Or.inl (za i), fun i _ _ => by rw [zb]; omega, by rw [f0]; exact ⟨by decide, by decide⟩⟩
    · refine ⟨by rw [z6]; omega, by rw [z6]; omega, by rw [z6]; omega, by rw [z6]; exact pl, by rw [z6]; exact pl, fun j _ _ => ⟨by rw [z6]; omega, by rw [z6]; exact pl, by rw [z6]; exact pl, by rw [z6]; exact pl⟩⟩
    · rw [m0]
      have := mP_in (n := 1000) (j := i)
      omega
  refine ⟨fun h h0 h2 => ?_, ⟨W, fun v _ _ => by rw [zc]; omega⟩, ⟨by rw [f0]; rfl, funext zb⟩, ⟨by rw [f0]; rfl, by rw [f0]; rfl⟩, ⟨by rw [f0]; exact ⟨by decide, by decide⟩, fun k _ _ => by rw [f0]; rfl⟩, by rw [f0]; rfl, by rw [f0]; rfl, fun i c hc => (by cases hc)⟩
  have c1 : coR sg0 h = fun _ => 0 := by
    funext t
    unfold coR
    rw [z4]
    split <;> rfl
  have c2 : rlR sg0 h = [] := by unfold rlR; rw [z5]; rfl
  have c3 : rsR sg0 h = [] := by unfold rsR; rw [z1]; rfl
  have c4 : naR sg0 h = fun _ => 0 := by
    funext k
    unfold naR
    rw [za]
    split <;> rfl
  have c5 : stR sg0 h = [] := by unfold stR; rw [z3]; rfl
  have c6 : byR sg0 h = fun _ => -1 := by
    funext k
    unfold byR
    rw [z1, if_neg (by omega)]
  unfold hlR rnR
  rw [c1, c2, c3, c4, c5, c6, z2, z1]
  rfl
theorem ok_00 : okAS A00 := by
  have t0 : tabF (fun _ => 0) 26 0 = 0 := by decide
  have kH : okH H00 := ⟨fun _ => ⟨show (0 : Int) ≤ 0 by decide, show (0 : Int) ≤ 3 by decide⟩, fun _ _ => rfl, by show 0 ≤ tabF (fun _ => 0) 26 0 ∧ tabF (fun _ => 0) 26 0 ≤ 6; rw [t0]; omega, fun r hr => (by cases hr), by decide, ⟨fun w hw => (by cases hw), List.Pairwise.nil, fun w hw => (by cases hw), ⟨by decide, by decide⟩, by decide, fun _ => Or.inl rfl, fun w hw => (by cases hw)⟩, ⟨by decide, by decide⟩⟩
  exact ⟨fun _ _ _ => kH, ⟨by decide, by decide⟩, fun _ _ _ => ⟨show (0 : Int) ≤ 0 by decide, show (0 : Int) ≤ 255 by decide⟩, trivial, trivial, ⟨by decide, by decide⟩, ⟨by decide, fun c hc => (by cases hc)⟩⟩
theorem VV_00 : VV A00 sg0 := ⟨VC_00, VR_00, ok_00⟩
/-- on every script the small machine ends with 1, in the room -/
theorem owed_all : ∀ sc : Scr, sc.1 ≤ 3072 → (∀ j, inR (sc.2 j)) → ∃ (n : Nat) (hs2 : HS), exec sc n 1000 274 0 [some (vS 9), none, none, none, none, none, none] [] (bH [] (fun _ => z0)) = some (.inl (some (vI 1)), hs2) ∧ hs2.2.2.2.1 ≤ 601024 ∧ hs2.2.2.2.2 ≤ 7293033 := by
  intro sc hn hr
  have h := l_law (sc := sc) (d := 1000) (by decide) hn hr 512 0 sg0 A00 uu0 none none (by decide) (by decide) (by omega) VV_00
  have h2 := (start_at (sc := sc) (d := 1000) (by decide)).mpr h
  obtain ⟨n, r, hs2, he, e1, e2, e3⟩ := h2
  subst e1
  have s := wS_sum
  have u1 : uu0.2.1 = 405 := rfl
  have u2 : uu0.2.2.1 = (wS.map csz).sum := rfl
  exact ⟨n, hs2, he, by omega, by omega⟩
