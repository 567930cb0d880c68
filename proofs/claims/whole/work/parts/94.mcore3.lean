/-! the core of the reference -/
def KpR (h : Int) (σ τ : St) : Prop := RsR σ τ ∧ (∀ g, 0 ≤ g → g ≤ 2 → g ≠ h → HQ σ g τ g) ∧ WfM τ ∧ (gdB (σ 393) → gdB (τ 393))
theorem KpR.refl {h : Int} {σ : St} (W : WfM σ) : KpR h σ σ := ⟨RsR.refl, fun _ _ _ _ => HQ.refl, W, id⟩
theorem KpR.trans {h : Int} {σ τ ρ : St} (a : KpR h σ τ) (b : KpR h τ ρ) : KpR h σ ρ := ⟨a.1.trans b.1, fun g g0 g1 hg => (a.2.1 g g0 g1 hg).trans (b.2.1 g g0 g1 hg), b.2.2.1, fun z => b.2.2.2 (a.2.2.2 z)⟩
theorem Mf.kp {h : Int} {σ τ : St} (M : Mf h σ τ) (hf : gdB (σ 393) → gdB (τ 393)) : KpR h σ τ := ⟨M.1, fun g _ _ hg => M.2.2.1 g hg, M.2.2.2.1, hf⟩
theorem Dt.kp {h : Int} {σ τ : St} (W : WfM σ) (D : Dt σ τ) (R : RsR σ τ) (hf : τ 393 = σ 393) : KpR h σ τ := ⟨R, fun g _ _ _ => HQ.of (fun c a b => D.1 c a (by omega)), D.wf W, fun z => by rw [hf]; exact z⟩
/-- a call in a hall that is there: nothing was thrown -/
theorem Kp.th {h : Int} {σ : St} (W : WfM σ) : KpR h σ (su σ 373 0 0) := Dt.kp W (Dt.dsu3 (by omega)) (RsR.su3 (by omega)) (su_ne (by omega))
theorem hl_th {σ : St} {g x : Int} (W : WfM σ) (h1 : 0 ≤ g) (h2 : g ≤ 4) : hlR (su σ 373 0 x) g = hlR σ g := (HQ.of (fun c a b => su_ne (by omega))).hl W h1 h2
theorem KpR.hl {h : Int} {σ τ : St} (K : KpR h σ τ) (W : WfM σ) {g : Int} (h1 : 0 ≤ g) (h2 : g ≤ 2) (hg : g ≠ h) : hlR τ g = hlR σ g := (K.2.1 g h1 h2 hg).hl W h1 (by omega)
section J3
variable {sc : Scr} {h : Int}
set_option maxHeartbeats 1000000 in
theorem s_coreR {σ : St} {d : Nat} (hd : 50 ≤ d) (W : WfM σ) (h1 : 0 ≤ h) (h2 : h ≤ 2) (ok : okS (coR σ h) (rnR σ h)) :
    ∃ ρ, KpR h σ ρ ∧ hlR ρ h = (coreA (hlR σ h)).2 ∧ ρ 373 0 = 0 ∧ RnA sc d 261 0 [some (vR 373), some (vI h), none, none, none, none] σ (some (vI (coreA (hlR σ h)).1)) ρ := by
  have K0 := Kp.th (h := h) W
  have e0 := hl_th (x := 0) W h1 (by omega)
  have z0 : su σ 373 0 0 373 0 = 0 := su_eq
  have fr0 : ∀ (u : Bool × Nat × Nat × Int) (Q : Rs → HS → Prop), Ex sc d 261 0 [some (vR 373), some (vI h), none, none, none, none] [] (wH σ u) Q ↔ Ex sc d 261 13 [some (vR 373), some (vI h), none, none, none, none] [] (wH (su σ 373 0 0) u) Q := by
    intro u Q
    have nh := fun u Q => s_noHall (sc := sc) (σ := σ) (u := u) (Q := Q) (d := d - 1) (h := h) (by omega) ⟨by omega, by omega⟩
    have c : 0 ≤ h ∧ h ≤ 2 := ⟨h1, h2⟩
    simp only [if_pos c] at nh
    have fs := fun u Q => s_fails (sc := sc) (σ := σ) (u := u) (Q := Q) (d := d - 1) (b := 0) (Or.inl rfl)
    simp (disch := first | omega | exact notL_I | exact notL_N | exact notL_R | exact oM | exact catS_le (Nat.le_of_ble_eq_true rfl) | exact Nat.le_of_ble_eq_true rfl | rfl) only [x261_0, x261_1, x261_2, x261_5, x261_8, x261_11, x261_12, x261_14, x261_15, x261_16, x261_19, x261_20, x261_21, x261_22, x261_24, x261_25, x261_28, x261_29, x261_30, x261_33, x261_34, x261_35, x261_36, x261_39, x261_42, x261_45, x261_48, x261_49, x261_52, x261_53, x261_54, x261_55, x261_56, x261_57, x261_60, x261_62, x261_64, x261_65, x261_68, x261_69, x261_70, x261_72, x261_75, x261_78, x261_81, x261_82, x261_84, x261_86, x261_89, x261_92, x261_93, x261_96, x261_98, x261_99, x261_100, x261_103, x261_106, x261_107, x261_109, x261_111, x261_112, x261_115, x261_116, x261_117, x261_120, x261_121, x261_122, x261_124, x261_127, x261_130, x261_131, x261_134, x261_135, x261_138, x261_140, x261_141, x261_142, x261_143, x261_146, x261_149, x261_150, x261_152, x261_154, x261_155, x261_158, x261_159, x261_160, x261_163, x261_164, x261_165, x261_167, x261_170, x261_173, x261_174, x261_177, x261_179, x261_180, x261_183, x261_186, x261_187, x261_190, x261_193, x261_195, x261_196, x261_197, x261_198, x261_201, x261_204, x261_207, x261_208, x261_209, x261_212, x261_213, x261_215, x261_217, x261_220, x261_223, x261_224, x261_227, x261_230, x261_231, x261_232, x261_234, x261_235, x261_236, x261_239, x261_242, x261_244, x261_245, x261_246, x261_247, x261_250, x261_253, x261_254, nh, fs, Kc_some, if_pos, if_neg, ↓reduceIte, not_true_eq_false, not_false_eq_true]
  have ok1 : okS (hlR σ h).1 (hlR σ h).2.2.2 := ok
  rw [← e0] at ok1 ⊢
  have ok' : okS (coR (su σ 373 0 0) h) (rnR (su σ 373 0 0) h) := ok1
  generalize su σ 373 0 0 = σ' at *
  have W' := K0.2.2.1
  have hc := cpH_c (σ := σ') (f := h) (t := 3)
  have W1 := cpH_wf (t := 3) W' h1 (by omega : h ≤ 4)
  have eh := hc.hl W' h1 (by omega : h ≤ 4)
  have er : rsR (cpH σ' h 3) 3 = rsR σ' h := congrArg (fun x : Hl => x.2.2.2.1) eh
  have ec : coR (cpH σ' h 3) 3 = coR σ' h := congrArg (fun x : Hl => x.1) eh
  have en : cpH σ' h 3 381 3 = σ' 381 h := congrArg (fun x : Hl => x.2.2.2.2.1) eh
  obtain ⟨k1, k2, k3, k4, k5, k6, k7⟩ := ok'
  obtain ⟨ρ, y1, y2, y3⟩ := l_coreR (sc := sc) (h := h) (d := d) W1 hd (fun n n0 n1 n2 => by
    have e6 : (200 : Int) * 3 + n = 600 + n := by omega
    have hm : rwR (cpH σ' h 3) 3 n ∈ rsR σ' h := by
      rw [← er]
      exact (rs_memI _ 0).mpr ⟨n, n0, by omega, by rw [e6]; exact n2, rfl⟩
    have := (k1 _ hm).2.2.1
    rw [← ec] at this
    have wt := W1.tab (h := 3) (n := n) (by omega) (by omega) n0 (by have := W1.nxt (h := 3) (by omega) (by omega); omega)
    have e2 : (rwR (cpH σ' h 3) 3 n).2.1 = cpH σ' h 3 378 (200 * 3 + n) := rfl
    rw [e2, coR_in wt.1 wt.2, e6] at this
    rw [show (26 : Int) * 3 = 78 by decide] at this
    exact this) 40 (cpH σ' h 3 381 3).toNat 0 0 (cpH σ' h 3) (by rw [er]; exact k5) (by omega) (Fc.refl W1) (by omega) (by have := W1.nxt (h := 3) (by omega) (by omega); omega)
  have eF : rsF (cpH σ' h 3) 3 (cpH σ' h 3 381 3).toNat 0 = rsR (cpH σ' h 3) 3 := rfl
  rw [eF, cF_core (by rw [er]; exact k5), er, ec] at y2 y3
  have fr1 : ∀ (u : Bool × Nat × Nat × Int) (Q : Rs → HS → Prop), Ex sc d 261 13 [some (vR 373), some (vI h), none, none, none, none] [] (wH σ' u) Q ↔ Ex sc d 261 23 [some (vR 373), some (vI h), some (vI 0), some (vI 0), none, none] [] (wH (cpH σ' h 3) u) Q := by
    intro u Q
    have cp := fun u Q => s_copies (sc := sc) (σ := σ') (u := u) (Q := Q) (d := d - 1) (f := h) (t := 3) (by omega) W' h1 (by omega) (by omega) (by omega) (by omega)
    rw [x261_13]
    simp (disch := first | omega | exact notL_I | exact notL_N | exact notL_R | exact oM | exact catS_le (Nat.le_of_ble_eq_true rfl) | exact Nat.le_of_ble_eq_true rfl | rfl) only [x261_0, x261_1, x261_2, x261_5, x261_8, x261_11, x261_12, x261_14, x261_15, x261_16, x261_19, x261_20, x261_21, x261_22, x261_24, x261_25, x261_28, x261_29, x261_30, x261_33, x261_34, x261_35, x261_36, x261_39, x261_42, x261_45, x261_48, x261_49, x261_52, x261_53, x261_54, x261_55, x261_56, x261_57, x261_60, x261_62, x261_64, x261_65, x261_68, x261_69, x261_70, x261_72, x261_75, x261_78, x261_81, x261_82, x261_84, x261_86, x261_89, x261_92, x261_93, x261_96, x261_98, x261_99, x261_100, x261_103, x261_106, x261_107, x261_109, x261_111, x261_112, x261_115, x261_116, x261_117, x261_120, x261_121, x261_122, x261_124, x261_127, x261_130, x261_131, x261_134, x261_135, x261_138, x261_140, x261_141, x261_142, x261_143, x261_146, x261_149, x261_150, x261_152, x261_154, x261_155, x261_158, x261_159, x261_160, x261_163, x261_164, x261_165, x261_167, x261_170, x261_173, x261_174, x261_177, x261_179, x261_180, x261_183, x261_186, x261_187, x261_190, x261_193, x261_195, x261_196, x261_197, x261_198, x261_201, x261_204, x261_207, x261_208, x261_209, x261_212, x261_213, x261_215, x261_217, x261_220, x261_223, x261_224, x261_227, x261_230, x261_231, x261_232, x261_234, x261_235, x261_236, x261_239, x261_242, x261_244, x261_245, x261_246, x261_247, x261_250, x261_253, x261_254, cp, Kc_none]
  have c41 : coreF (coR σ' h) 41 (rsR σ' h) = coreF (coR σ' h) 40 (rsR σ' h) := coreF_more 40 41 _ k5 (by omega)
  have Kc1 : KpR h σ' (cpH σ' h 3) := ⟨cpH_rest, fun g g0 g1 hg => cpH_q (by omega), W1, fun z => by rw [cpH_r.1 393 (by omega)]; exact z⟩
  have Fk : ∀ ρ, Fc (cpH σ' h 3) ρ → KpR h σ' ρ := fun ρ F => Kc1.trans ⟨RsR.of (fun c a b => F.1 c a (by omega) (by omega) (by omega) (by omega)) (fun j hj => F.2.1 j (by omega)), fun g g0 g1 hg => ⟨⟨fun t a b => by rw [F.1 374 (by omega) (by omega) (by omega) (by omega) (by omega)], by rw [F.1 375 (by omega) (by omega) (by omega) (by omega) (by omega)], fun t a b => by rw [F.1 376 (by omega) (by omega) (by omega) (by omega) (by omega)]⟩, ⟨fun t a b => ⟨F.2.2.1 _ (by omega), by rw [F.1 378 (by omega) (by omega) (by omega) (by omega) (by omega)]⟩, fun t a b => by rw [F.1 379 (by omega) (by omega) (by omega) (by omega) (by omega)], by rw [F.1 381 (by omega) (by omega) (by omega) (by omega) (by omega)], fun t a b => by rw [F.1 385 (by omega) (by omega) (by omega) (by omega) (by omega)]⟩, ⟨fun t a b => by rw [F.1 380 (by omega) (by omega) (by omega) (by omega) (by omega)], by rw [F.1 382 (by omega) (by omega) (by omega) (by omega) (by omega)], by rw [F.1 383 (by omega) (by omega) (by omega) (by omega) (by omega)], fun t a b => by rw [F.1 384 (by omega) (by omega) (by omega) (by omega) (by omega)]⟩⟩, F.wf W1, fun z => by rw [F.1 393 (by omega) (by omega) (by omega) (by omega) (by omega)]; exact z⟩
  have hq : HQ σ' h (cpH σ' h 3) h := cpH_q (by omega)
  have hF : HQ (cpH σ' h 3) h ρ h := ⟨⟨fun t a b => by rw [y1.1 374 (by omega) (by omega) (by omega) (by omega) (by omega)], by rw [y1.1 375 (by omega) (by omega) (by omega) (by omega) (by omega)], fun t a b => by rw [y1.1 376 (by omega) (by omega) (by omega) (by omega) (by omega)]⟩, ⟨fun t a b => ⟨y1.2.2.1 _ (by omega), by rw [y1.1 378 (by omega) (by omega) (by omega) (by omega) (by omega)]⟩, fun t a b => by rw [y1.1 379 (by omega) (by omega) (by omega) (by omega) (by omega)], by rw [y1.1 381 (by omega) (by omega) (by omega) (by omega) (by omega)], fun t a b => by rw [y1.1 385 (by omega) (by omega) (by omega) (by omega) (by omega)]⟩, ⟨fun t a b => by rw [y1.1 380 (by omega) (by omega) (by omega) (by omega) (by omega)], by rw [y1.1 382 (by omega) (by omega) (by omega) (by omega) (by omega)], by rw [y1.1 383 (by omega) (by omega) (by omega) (by omega) (by omega)], fun t a b => by rw [y1.1 384 (by omega) (by omega) (by omega) (by omega) (by omega)]⟩⟩
  have z1 : ρ 373 0 = 0 := by rw [y1.2.1 0 (by omega), cpH_r.1 373 (by omega)]; exact z0
  have hlh : hlR ρ h = hlR σ' h := (hq.trans hF).hl W' h1 (by omega)
  cases hcf : coreF (coR σ' h) 40 (rsR σ' h) with
  | none =>
    have eA : coreA (hlR σ' h) = (-1, hlR σ' h) := by
      unfold coreA
      rw [show coreF (hlR σ' h).1 41 (hlR σ' h).2.2.2.1 = none from c41.trans hcf]
    rw [eA]
    refine ⟨ρ, K0.trans (Fk ρ y1), hlh, z1, fun u Q => ?_⟩
    rw [fr0 u Q, fr1 u Q]
    exact y2 hcf u Q none none
  | some M =>
    obtain ⟨hM, run⟩ := y3 M hcf
    have eA : coreA (hlR σ' h) = (((rsR σ' h).length : Int) - M.length, (coR σ' h, rlR σ' h, σ' 382 h, M, (rnR σ' h).2)) := by
      unfold coreA
      rw [show coreF (hlR σ' h).1 41 (hlR σ' h).2.2.2.1 = some M from c41.trans hcf]
      rfl
    rw [eA]
    have Wρ := y1.wf W1
    have s77 : ∀ j, scp ρ 377 600 377 (200 * h) 200 377 j = if 200 * h ≤ j ∧ j < 200 * h + 200 then ρ 377 (j - 200 * h + 600) else ρ 377 j := fun j => scp_at
    have sne : ∀ c, c ≠ 377 → scp ρ 377 600 377 (200 * h) 200 c = ρ c := fun c hc => scp_ne hc
    generalize hτ : scp ρ 377 600 377 (200 * h) 200 = τ at *
    have Wτ : WfM τ := by
      refine Wρ.mk ?_ ?_ ?_ ?_ ?_ ?_ ?_ ?_ ?_ ?_ ?_ ?_ ?_
      all_goals try rw [sne _ (by omega)]
      · exact Wρ.p4
      · exact Wρ.p5
      · intro i i0 i1
        have := Wρ.p6 i i0 i1
        unfold okU at this ⊢
        rw [sne 376 (by omega)]
        exact this
      · intro i i0 i1
        rw [s77]
        split
        · exact Wρ.p7 _ (by omega) (by omega)
        · exact Wρ.p7 _ i0 i1
      · exact Wρ.p8
      · exact Wρ.p9
      · exact Wρ.p0
      · exact Wρ.p1
      · exact Wρ.p2
      · exact Wρ.p3
      · exact Wρ.pa
    have Kf : KpR h ρ τ := ⟨RsR.of (fun c a b => sne c (by omega)) (fun j _ => by rw [sne 373 (by omega)]), fun g g0 g1 hg => ⟨⟨fun t a b => by rw [sne 374 (by omega)], by rw [sne 375 (by omega)], fun t a b => by rw [sne 376 (by omega)]⟩, ⟨fun t a b => ⟨by rw [s77, if_neg (by omega)], by rw [sne 378 (by omega)]⟩, fun t a b => by rw [sne 379 (by omega)], by rw [sne 381 (by omega)], fun t a b => by rw [sne 385 (by omega)]⟩, ⟨fun t a b => by rw [sne 380 (by omega)], by rw [sne 382 (by omega)], by rw [sne 383 (by omega)], fun t a b => by rw [sne 384 (by omega)]⟩⟩, Wτ, fun z => by rw [sne 393 (by omega)]; exact z⟩
    refine ⟨τ, (K0.trans (Fk ρ y1)).trans Kf, ?_, by rw [sne 373 (by omega)]; exact z1, fun u Q => ?_⟩
    · have b1 : rsR τ h = M := by
        rw [← hM]
        have n1 : τ 381 h = ρ 381 3 := by
          rw [sne 381 (by omega), hF.2.1.2.2.1, hq.2.1.2.2.1, y1.1 381 (by omega) (by omega) (by omega) (by omega) (by omega), en]
        have wn := Wρ.nxt (h := 3) (by omega) (by omega)
        unfold rsR
        rw [n1]
        apply rsF_ext
        intro i i0 i1
        refine ⟨by rw [s77, if_pos (by omega)]; congr 1; omega, ?_⟩
        have r1 : rwR τ h i = rwR ρ h i := by
          unfold rwR
          rw [sne 378 (by omega), sne 374 (by omega), sne 379 (by omega)]
        rw [r1, y1.rw_, y1.rw_, hq.2.1.rw_ hq.1 W' h1 (by omega) i0 (by omega), hc.2.1.rw_ hc.1 W' h1 (by omega) i0 (by omega)]
      have b2 : coR τ h = coR σ' h := by
        have : coR τ h = coR ρ h := by unfold coR; rw [sne 374 (by omega)]
        rw [this]
        exact congrArg (fun x : Hl => x.1) hlh
      have ha : HQa ρ h τ h := HQa.of (fun c a b => sne c (by omega))
      have b3 : rlR τ h = rlR σ' h := (ha.rl Wρ h1 (by omega)).trans (congrArg (fun x : Hl => x.2.1) hlh)
      have b4 : τ 382 h = σ' 382 h := by
        rw [sne 382 (by omega)]
        exact congrArg (fun x : Hl => x.2.2.1) hlh
      have b5 : τ 381 h = σ' 381 h := by
        rw [sne 381 (by omega)]
        exact congrArg (fun x : Hl => x.2.2.2.2.1) hlh
      have b6 : naR τ h = naR σ' h := by
        have : naR τ h = naR ρ h := by unfold naR; rw [sne 385 (by omega)]
        rw [this]
        exact congrArg (fun x : Hl => x.2.2.2.2.2.1) hlh
      have hcq : HQc ρ h τ h := ⟨fun n a b => by rw [sne 380 (by omega)], by rw [sne 382 (by omega)], by rw [sne 383 (by omega)], fun n a b => by rw [sne 384 (by omega)]⟩
      have b7 : stR τ h = stR σ' h := (hcq.st Wρ h1 (by omega)).trans (congrArg (fun x : Hl => x.2.2.2.2.2.2.1) hlh)
      have b8 : byR τ h = byR σ' h := by
        have : byR τ h = byR ρ h := by unfold byR; rw [sne 380 (by omega), sne 381 (by omega)]
        rw [this]
        exact congrArg (fun x : Hl => x.2.2.2.2.2.2.2) hlh
      unfold hlR rnR
      rw [b1, b2, b3, b4, b5, b6, b7, b8]
    · obtain ⟨l5', r2⟩ := run u Q none none
      rw [fr0 u Q, fr1 u Q, r2]
      have lb := l_back0 (sc := sc) (h := h) (σ := ρ) (d := d) (u := u) (Q := Q) h1 h2 (wt := 0 + (((rsR σ' h).length : Int) - M.length)) (l3 := some (vI (cpH σ' h 3 381 3))) (l5 := l5') 200 0 (by omega) (by omega)
      rw [scp_0, hτ, Int.zero_add] at lb
      rw [Int.zero_add]
      exact lb
end J3
