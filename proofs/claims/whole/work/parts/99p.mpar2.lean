/-! the reference reads: cells -/
def okC (row : Bool) (c : Int) : Prop := if row = true then isTm c else isPl c
theorem okC_num {row : Bool} {c : Int} (h0 : 0 ≤ c) (h1 : c ≤ 99) : okC row c := by
  unfold okC
  split
  · exact Or.inl ⟨h0, h1⟩
  · exact Or.inl ⟨h0, h1⟩
section L2
variable {sc : Scr} {d : Nat} {σ : St}
theorem l_sevZ {h t m : Int} {row : Option V} {u : Bool × Nat × Nat × Int} {Q : Rs → HS → Prop} (m0 : 0 ≤ m) : ∀ (k : Nat) (c : Int), m ≤ c → c + k = 3 → (Ex sc d 199 254 [some (vR 373), some (vI h), some (vI t), row, some (vI m), some (vI c)] [] (wH (fl σ 387 m c 0) u) Q ↔ Ex sc d 199 274 [some (vR 373), some (vI h), some (vI t), row, some (vI m), some (vI 3)] [] (wH (fl σ 387 m 3 0) u) Q) := by
  intro k
  induction k with
  | zero =>
    intro c c0 ck
    obtain rfl : c = 3 := by omega
    rw [x199_254]
    simp (disch := first | omega | exact notL_I | exact notL_N | exact notL_R | exact oM | exact catS_le (Nat.le_of_ble_eq_true rfl) | exact Nat.le_of_ble_eq_true rfl | rfl) only [x199_0, x199_1, x199_3, x199_6, x199_9, x199_10, x199_11, x199_12, x199_16, x199_19, x199_20, x199_24, x199_27, x199_30, x199_31, x199_34, x199_35, x199_37, x199_40, x199_43, x199_46, x199_47, x199_50, x199_53, x199_56, x199_59, x199_62, x199_63, x199_66, x199_67, x199_69, x199_71, x199_74, x199_75, x199_76, x199_77, x199_80, x199_83, x199_84, x199_86, x199_87, x199_88, x199_89, x199_92, x199_95, x199_96, x199_97, x199_98, x199_101, x199_104, x199_105, x199_106, x199_108, x199_111, x199_114, x199_115, x199_118, x199_119, x199_122, x199_125, x199_126, x199_127, x199_128, x199_131, x199_134, x199_135, x199_136, x199_139, x199_141, x199_144, x199_145, x199_148, x199_149, x199_152, x199_153, x199_154, x199_157, x199_158, x199_161, x199_163, x199_164, x199_167, x199_170, x199_171, x199_174, x199_177, x199_178, x199_181, x199_184, x199_185, x199_188, x199_189, x199_192, x199_193, x199_197, x199_198, x199_201, x199_202, x199_204, x199_207, x199_210, x199_211, x199_213, x199_216, x199_219, x199_220, x199_221, x199_222, x199_225, x199_228, x199_229, x199_231, x199_232, x199_233, x199_234, x199_237, x199_240, x199_241, x199_242, x199_243, x199_246, x199_249, x199_252, x199_256, x199_257, x199_260, x199_261, x199_264, x199_266, x199_267, x199_268, x199_271, x199_275, x199_278, x199_279, if_pos, if_neg, ↓reduceIte, not_true_eq_false, not_false_eq_true]
  | succ k ih =>
    intro c c0 ck
    rw [x199_254, ← ih (c + 1) (by omega) (by omega), ← fl_su c0]
    simp (disch := first | omega | exact notL_I | exact notL_N | exact notL_R | exact oM | exact catS_le (Nat.le_of_ble_eq_true rfl) | exact Nat.le_of_ble_eq_true rfl | rfl) only [x199_0, x199_1, x199_3, x199_6, x199_9, x199_10, x199_11, x199_12, x199_16, x199_19, x199_20, x199_24, x199_27, x199_30, x199_31, x199_34, x199_35, x199_37, x199_40, x199_43, x199_46, x199_47, x199_50, x199_53, x199_56, x199_59, x199_62, x199_63, x199_66, x199_67, x199_69, x199_71, x199_74, x199_75, x199_76, x199_77, x199_80, x199_83, x199_84, x199_86, x199_87, x199_88, x199_89, x199_92, x199_95, x199_96, x199_97, x199_98, x199_101, x199_104, x199_105, x199_106, x199_108, x199_111, x199_114, x199_115, x199_118, x199_119, x199_122, x199_125, x199_126, x199_127, x199_128, x199_131, x199_134, x199_135, x199_136, x199_139, x199_141, x199_144, x199_145, x199_148, x199_149, x199_152, x199_153, x199_154, x199_157, x199_158, x199_161, x199_163, x199_164, x199_167, x199_170, x199_171, x199_174, x199_177, x199_178, x199_181, x199_184, x199_185, x199_188, x199_189, x199_192, x199_193, x199_197, x199_198, x199_201, x199_202, x199_204, x199_207, x199_210, x199_211, x199_213, x199_216, x199_219, x199_220, x199_221, x199_222, x199_225, x199_228, x199_229, x199_231, x199_232, x199_233, x199_234, x199_237, x199_240, x199_241, x199_242, x199_243, x199_246, x199_249, x199_252, x199_256, x199_257, x199_260, x199_261, x199_264, x199_266, x199_267, x199_268, x199_271, x199_275, x199_278, x199_279, gM_list, WM_list, if_pos, if_neg, ↓reduceIte, not_true_eq_false, not_false_eq_true]
set_option maxHeartbeats 2000000 in
theorem l_sev {h t m : Int} {row : Bool} (hd : 4 ≤ d) (W : WfM σ) (h1 : 0 ≤ h) (h2 : h ≤ 4) (t0 : 0 ≤ t) (t1 : t ≤ 25) (hm : σ 374 (26 * h + t) = m) (m1 : 1 ≤ m) (m3 : m ≤ 3) :
    ∀ (f n : Nat) (acc : List Int) (s : Ps) (τ : St), f + n = 4 → acc.length = n → (n : Int) ≤ m → Fpa σ τ → PcI τ s → (∀ (i : Nat) (c : Int), acc[i]? = some c → τ 387 i = c ∧ okC row c) →
    (∃ l s' ρ, cellsP (nxT (σ 386) (σ 373 14)) m row f n acc s = .inr (l, s') ∧ (l.length : Int) = m ∧ Fpa σ ρ ∧ PcI ρ s' ∧ (∀ i : Nat, i < 3 → ρ 387 i = l.getD i 0) ∧ (∀ c ∈ l, okC row c) ∧ ∀ (u : Bool × Nat × Nat × Int) (Q : Rs → HS → Prop) (l5 : Option V), Ex sc d 199 23 [some (vR 373), some (vI h), some (vI t), some (vI (bI row)), some (vI ((n : Int))), l5] [] (wH τ u) Q ↔ Q (.inl (some (vI (1)))) (wH ρ u)) ∨
    (∃ e ρ, cellsP (nxT (σ 386) (σ 373 14)) m row f n acc s = .inl e ∧ Fpa σ ρ ∧ BdI ρ e ∧ ∀ (u : Bool × Nat × Nat × Int) (Q : Rs → HS → Prop) (l5 : Option V), Ex sc d 199 23 [some (vR 373), some (vI h), some (vI t), some (vI (bI row)), some (vI ((n : Int))), l5] [] (wH τ u) Q ↔ Q (.inl (some (vI (0)))) (wH ρ u)) := by
  intro f
  induction f with
  | zero =>
    intro n acc s τ fn ha hn F H hac
    omega
  | succ f ih =>
    intro n acc s τ fn ha hn F H hac
    obtain ⟨⟨p1, p2, p3⟩, hw, q0, q1, q2⟩ := H
    have Wτ := F.dt.wf W
    have ctx : PcI τ s := ⟨⟨p1, p2, p3⟩, hw, q0, q1, q2⟩
    have e74 : ∀ ρ, Fpa σ ρ → ρ 374 (26 * h + t) = m := fun ρ F => by rw [F.1 374 (by omega) (by omega)]; exact hm
    have cols := fun (ρ : St) (F : Fpa σ ρ) u Q => s_colsOf (sc := sc) (σ := ρ) (u := u) (Q := Q) (d := d - 1) (h := h) (t := t) h1 h2 t0 t1
    have bad1 := fun (k : Int) (ρ : St) (s : Ps) (H : PcI ρ s) u Q => s_bad (sc := sc) (d := d - 1) (σ := ρ) (k := k) (p := s.2.1) H.2.1 u Q
    have isn := s_isNum (sc := sc) (d := d - 1) (by omega) p1 q0
    have sg63 := s_isSign (sc := sc) (d := d - 1) (c := 63) p1 q0 (by omega)
    have isv := fun u Q => s_isIn (sc := sc) (σ := τ) (u := u) (Q := Q) (d := d - 1) (v := s.1) (a := 200) (b := 225) ⟨by omega, by omega⟩ ⟨by decide, by decide⟩ ⟨by decide, by decide⟩
    rw [cellsP]
    -- behind a cell
    have tail : ∀ (c : Int) (s1 : Ps) (τ1 : St), okC row c → Fpa σ τ1 → PcI τ1 s1 → (∀ (i : Nat) (c : Int), acc[i]? = some c → τ1 387 i = c) → ((n : Int) < m) →
        (∃ l s' ρ, cellE (nxT (σ 386) (σ 373 14)) m ((n : Int) + 1) (acc ++ [c]) (nxT (σ 386) (σ 373 14) s1.2.2) (cellsP (nxT (σ 386) (σ 373 14)) m row f ((n : Int) + 1) (acc ++ [c])) = .inr (l, s') ∧ (l.length : Int) = m ∧ Fpa σ ρ ∧ PcI ρ s' ∧ (∀ i : Nat, i < 3 → ρ 387 i = l.getD i 0) ∧ (∀ c ∈ l, okC row c) ∧ ∀ (u : Bool × Nat × Nat × Int) (Q : Rs → HS → Prop) (l5 : Option V), Ex sc d 199 194 [some (vR 373), some (vI h), some (vI t), some (vI (bI row)), some (vI ((n : Int))), l5] [] (wH (su τ1 387 n c) u) Q ↔ Q (.inl (some (vI (1)))) (wH ρ u)) ∨
        (∃ e ρ, cellE (nxT (σ 386) (σ 373 14)) m ((n : Int) + 1) (acc ++ [c]) (nxT (σ 386) (σ 373 14) s1.2.2) (cellsP (nxT (σ 386) (σ 373 14)) m row f ((n : Int) + 1) (acc ++ [c])) = .inl e ∧ Fpa σ ρ ∧ BdI ρ e ∧ ∀ (u : Bool × Nat × Nat × Int) (Q : Rs → HS → Prop) (l5 : Option V), Ex sc d 199 194 [some (vR 373), some (vI h), some (vI t), some (vI (bI row)), some (vI ((n : Int))), l5] [] (wH (su τ1 387 n c) u) Q ↔ Q (.inl (some (vI (0)))) (wH ρ u)) := by
      intro c s1 τ1 oc F1 H1 hac1 hnm
      have F2 : Fpa σ (su τ1 387 n c) := F1.trans Fpa.su7
      have H2 : PcI (su τ1 387 n c) s1 := by
        unfold PcI PsI
        rw [su_ne (by omega)]
        exact H1
      have hl2 : ∀ (i : Nat) (x : Int), (acc ++ [c])[i]? = some x → su τ1 387 n c 387 i = x ∧ okC row x := by
        intro i x hi
        by_cases hin : i < acc.length
        · rw [List.getElem?_append_left hin] at hi
          rw [su_off (by omega)]
          exact ⟨hac1 i x hi, (hac i x hi).2⟩
        · have hil := (List.getElem?_eq_some_iff.mp hi).1
          rw [List.length_append, List.length_singleton] at hil
          have : i = n := by omega
          subst this
          rw [List.getElem?_append_right (by omega), ha, Nat.sub_self] at hi
          have hc : c = x := Option.some.inj hi
          rw [su_eq, hc]
          exact ⟨rfl, hc ▸ oc⟩
      have hln : (acc ++ [c]).length = n + 1 := by rw [List.length_append, List.length_singleton, ha]
      obtain ⟨τ3, g1, g2, g3⟩ := s_lookP (sc := sc) (d := d - 1) (by omega) (F2.dt.wf W) H2
      rw [F2.tx.1, F2.tx.2] at g2
      have F3 := F2.trans g1.pa
      have l3 : τ3 387 = su τ1 387 n c 387 := g1.1 387 (by omega)
      generalize su τ1 387 n c = τ2 at *
      generalize hs2 : nxT (σ 386) (σ 373 14) s1.2.2 = s2 at *
      have c44 := s_isSign (sc := sc) (d := d - 1) (c := 44) g2.1.1 g2.2.2.1 (by omega)
      have c41 := s_isSign (sc := sc) (d := d - 1) (c := 41) g2.1.1 g2.2.2.1 (by omega)
      have ei : ((n + 1 : Nat) : Int) = (n : Int) + 1 := by omega
      unfold cellE
      by_cases k44 : s2.1 = 544
      · rw [if_pos k44]
        simp only [if_pos (show s2.1 = 500 + 44 by omega)] at c44
        obtain ⟨τ4, y1, y2, y3⟩ := s_lookP (sc := sc) (d := d - 1) (by omega) (F3.dt.wf W) g2
        rw [F3.tx.1, F3.tx.2] at y2
        have F4 := F3.trans y1.pa
        have run : ∀ (u : Bool × Nat × Nat × Int) (Q : Rs → HS → Prop) (l5 : Option V), Ex sc d 199 194 [some (vR 373), some (vI h), some (vI t), some (vI (bI row)), some (vI ((n : Int))), l5] [] (wH τ2 u) Q ↔ Ex sc d 199 23 [some (vR 373), some (vI h), some (vI t), some (vI (bI row)), some (vI ((n : Int) + 1)), l5] [] (wH τ4 u) Q := by
          intro u Q l5
          rw [x199_194]
          simp (disch := first | omega | exact notL_I | exact notL_N | exact notL_R | exact oM | exact catS_le (Nat.le_of_ble_eq_true rfl) | exact Nat.le_of_ble_eq_true rfl | rfl) only [x199_0, x199_1, x199_3, x199_6, x199_9, x199_10, x199_11, x199_12, x199_14, x199_16, x199_19, x199_20, x199_24, x199_27, x199_30, x199_31, x199_34, x199_35, x199_37, x199_40, x199_43, x199_46, x199_47, x199_50, x199_53, x199_56, x199_59, x199_62, x199_63, x199_66, x199_67, x199_69, x199_71, x199_74, x199_75, x199_76, x199_77, x199_80, x199_83, x199_84, x199_86, x199_87, x199_88, x199_89, x199_92, x199_95, x199_96, x199_97, x199_98, x199_101, x199_104, x199_105, x199_106, x199_108, x199_111, x199_114, x199_115, x199_118, x199_119, x199_122, x199_125, x199_126, x199_127, x199_128, x199_131, x199_134, x199_135, x199_136, x199_139, x199_141, x199_144, x199_145, x199_148, x199_149, x199_152, x199_153, x199_154, x199_157, x199_158, x199_161, x199_163, x199_164, x199_167, x199_170, x199_171, x199_174, x199_177, x199_178, x199_181, x199_184, x199_185, x199_188, x199_189, x199_192, x199_193, x199_197, x199_198, x199_201, x199_202, x199_204, x199_207, x199_210, x199_211, x199_213, x199_216, x199_219, x199_220, x199_221, x199_222, x199_225, x199_228, x199_229, x199_231, x199_232, x199_233, x199_234, x199_237, x199_240, x199_241, x199_242, x199_243, x199_246, x199_249, x199_252, x199_256, x199_257, x199_260, x199_261, x199_264, x199_266, x199_267, x199_268, x199_271, x199_275, x199_278, x199_279, g3 u, c44, y3 u, Kc_some, Kc_none, if_pos, if_neg, ↓reduceIte, not_true_eq_false, not_false_eq_true]
        have nx := ih (n + 1) (acc ++ [c]) (nxT (σ 386) (σ 373 14) s2.2.2) τ4 (by omega) hln (by omega) F4 y2 (fun i x hi => by
          rw [y1.1 387 (by omega), l3]
          exact hl2 i x hi)
        rw [ei] at nx
        rcases nx with ⟨l, s', ρ, n1, n2, n3, n4, n5, n6, n7⟩ | ⟨e, ρ, n1, n2, n3, n4⟩
        · exact Or.inl ⟨l, s', ρ, n1, n2, n3, n4, n5, n6, fun u Q l5 => (run u Q l5).trans (n7 u Q l5)⟩
        · exact Or.inr ⟨e, ρ, n1, n2, n3, fun u Q l5 => (run u Q l5).trans (n4 u Q l5)⟩
      · rw [if_neg k44]
        simp only [if_neg (show ¬ s2.1 = 500 + 44 by omega)] at c44
        have co3 := cols τ3 F3
        rw [e74 τ3 F3] at co3
        by_cases k41 : s2.1 = 541
        · rw [if_pos k41]
          simp only [if_pos (show s2.1 = 500 + 41 by omega)] at c41
          by_cases hlt : (n : Int) + 1 < m
          · rw [if_pos hlt]
            have bd := bad1 3 τ3 s2 g2
            refine Or.inr ⟨_, _, rfl, F3.trans bad_v.1, bad_v.2, fun u Q l5 => ?_⟩
            rw [x199_194]
            simp (disch := first | omega | exact notL_I | exact notL_N | exact notL_R | exact oM | exact catS_le (Nat.le_of_ble_eq_true rfl) | exact Nat.le_of_ble_eq_true rfl | rfl) only [x199_0, x199_1, x199_3, x199_6, x199_9, x199_10, x199_11, x199_12, x199_16, x199_19, x199_20, x199_24, x199_27, x199_30, x199_31, x199_34, x199_35, x199_37, x199_40, x199_43, x199_46, x199_47, x199_50, x199_53, x199_56, x199_59, x199_62, x199_63, x199_66, x199_67, x199_69, x199_71, x199_74, x199_75, x199_76, x199_77, x199_80, x199_83, x199_84, x199_86, x199_87, x199_88, x199_89, x199_92, x199_95, x199_96, x199_97, x199_98, x199_101, x199_104, x199_105, x199_106, x199_108, x199_111, x199_114, x199_115, x199_118, x199_119, x199_122, x199_125, x199_126, x199_127, x199_128, x199_131, x199_134, x199_135, x199_136, x199_139, x199_141, x199_144, x199_145, x199_148, x199_149, x199_152, x199_153, x199_154, x199_157, x199_158, x199_161, x199_163, x199_164, x199_167, x199_170, x199_171, x199_174, x199_177, x199_178, x199_181, x199_184, x199_185, x199_188, x199_189, x199_192, x199_193, x199_197, x199_198, x199_201, x199_202, x199_204, x199_207, x199_210, x199_211, x199_213, x199_216, x199_219, x199_220, x199_221, x199_222, x199_225, x199_228, x199_229, x199_231, x199_232, x199_233, x199_234, x199_237, x199_240, x199_241, x199_242, x199_243, x199_246, x199_249, x199_252, x199_256, x199_257, x199_260, x199_261, x199_264, x199_266, x199_267, x199_268, x199_271, x199_275, x199_278, x199_279, g3 u, c44, c41, co3, gM_tokenAt, g2.1.2.1, bd, Kc_some, Kc_none, if_pos, if_neg, ↓reduceIte, not_true_eq_false, not_false_eq_true]
          · rw [if_neg hlt]
            have hnm2 : (n : Int) + 1 = m := by omega
            have F5 : Fpa σ (fl τ3 387 m 3 0) := F3.trans ⟨fun c _ b => fl_ne b, fun j _ _ => by rw [fl_ne (by omega)]⟩
            have H5 : PcI (fl τ3 387 m 3 0) s2 := by
              unfold PcI PsI
              rw [fl_ne (by omega)]
              exact g2
            obtain ⟨τ6, y1, y2, y3⟩ := s_lookP (sc := sc) (d := d - 1) (by omega) (F5.dt.wf W) H5
            rw [F5.tx.1, F5.tx.2] at y2
            refine Or.inl ⟨_, _, τ6, rfl, by rw [hln]; omega, F5.trans y1.pa, y2, fun i hi => ?_, fun x hx => ?_, fun u Q l5 => ?_⟩
            · rw [y1.1 387 (by omega), fl_at]
              by_cases him : m ≤ (i : Int)
              · rw [if_pos ⟨him, by omega⟩, List.getD_eq_getElem?_getD, List.getElem?_eq_none (by omega)]
                rfl
              · rw [if_neg (fun z => him z.1), l3]
                have hil : i < (acc ++ [c]).length := by omega
                rw [List.getD_eq_getElem?_getD, List.getElem?_eq_getElem hil]
                exact (hl2 i _ (List.getElem?_eq_getElem hil)).1
            · obtain ⟨i, hi, ex⟩ := List.mem_iff_getElem.mp hx
              exact (hl2 i x (by rw [List.getElem?_eq_getElem hi, ex])).2
            · have fz := l_sevZ (sc := sc) (d := d) (σ := τ3) (u := u) (Q := Q) (h := h) (t := t) (m := m) (row := some (vI (bI row))) (by omega) (3 - m).toNat m (by omega) (by omega)
              rw [fl_0] at fz
              rw [x199_194]
              simp (disch := first | omega | exact notL_I | exact notL_N | exact notL_R | exact oM | exact catS_le (Nat.le_of_ble_eq_true rfl) | exact Nat.le_of_ble_eq_true rfl | rfl) only [x199_0, x199_1, x199_3, x199_6, x199_9, x199_10, x199_11, x199_12, x199_16, x199_19, x199_20, x199_24, x199_27, x199_30, x199_31, x199_34, x199_35, x199_37, x199_40, x199_43, x199_46, x199_47, x199_50, x199_53, x199_56, x199_59, x199_62, x199_63, x199_66, x199_67, x199_69, x199_71, x199_74, x199_75, x199_76, x199_77, x199_80, x199_83, x199_84, x199_86, x199_87, x199_88, x199_89, x199_92, x199_95, x199_96, x199_97, x199_98, x199_101, x199_104, x199_105, x199_106, x199_108, x199_111, x199_114, x199_115, x199_118, x199_119, x199_122, x199_125, x199_126, x199_127, x199_128, x199_131, x199_134, x199_135, x199_136, x199_139, x199_141, x199_144, x199_145, x199_148, x199_149, x199_152, x199_153, x199_154, x199_157, x199_158, x199_161, x199_163, x199_164, x199_167, x199_170, x199_171, x199_174, x199_177, x199_178, x199_181, x199_184, x199_185, x199_188, x199_189, x199_192, x199_193, x199_197, x199_198, x199_201, x199_202, x199_204, x199_207, x199_210, x199_211, x199_213, x199_216, x199_219, x199_220, x199_221, x199_222, x199_225, x199_228, x199_229, x199_231, x199_232, x199_233, x199_234, x199_237, x199_240, x199_241, x199_242, x199_243, x199_246, x199_249, x199_252, x199_256, x199_257, x199_260, x199_261, x199_264, x199_266, x199_267, x199_268, x199_271, x199_275, x199_278, x199_279, g3 u, c44, c41, co3, hnm2, Kc_some, Kc_none, if_pos, if_neg, ↓reduceIte, not_true_eq_false, not_false_eq_true]
              rw [x199_250]
              simp (disch := first | omega | exact notL_I | exact notL_N | exact notL_R | exact oM | exact catS_le (Nat.le_of_ble_eq_true rfl) | exact Nat.le_of_ble_eq_true rfl | rfl) only [x199_0, x199_1, x199_3, x199_6, x199_9, x199_10, x199_11, x199_12, x199_16, x199_19, x199_20, x199_24, x199_27, x199_30, x199_31, x199_34, x199_35, x199_37, x199_40, x199_43, x199_46, x199_47, x199_50, x199_53, x199_56, x199_59, x199_62, x199_63, x199_66, x199_67, x199_69, x199_71, x199_74, x199_75, x199_76, x199_77, x199_80, x199_83, x199_84, x199_86, x199_87, x199_88, x199_89, x199_92, x199_95, x199_96, x199_97, x199_98, x199_101, x199_104, x199_105, x199_106, x199_108, x199_111, x199_114, x199_115, x199_118, x199_119, x199_122, x199_125, x199_126, x199_127, x199_128, x199_131, x199_134, x199_135, x199_136, x199_139, x199_141, x199_144, x199_145, x199_148, x199_149, x199_152, x199_153, x199_154, x199_157, x199_158, x199_161, x199_163, x199_164, x199_167, x199_170, x199_171, x199_174, x199_177, x199_178, x199_181, x199_184, x199_185, x199_188, x199_189, x199_192, x199_193, x199_197, x199_198, x199_201, x199_202, x199_204, x199_207, x199_210, x199_211, x199_213, x199_216, x199_219, x199_220, x199_221, x199_222, x199_225, x199_228, x199_229, x199_231, x199_232, x199_233, x199_234, x199_237, x199_240, x199_241, x199_242, x199_243, x199_246, x199_249, x199_252, x199_256, x199_257, x199_260, x199_261, x199_264, x199_266, x199_267, x199_268, x199_271, x199_275, x199_278, x199_279]
              rw [fz, x199_274]
              simp (disch := first | omega | exact notL_I | exact notL_N | exact notL_R | exact oM | exact catS_le (Nat.le_of_ble_eq_true rfl) | exact Nat.le_of_ble_eq_true rfl | rfl) only [x199_0, x199_1, x199_3, x199_6, x199_9, x199_10, x199_11, x199_12, x199_16, x199_19, x199_20, x199_24, x199_27, x199_30, x199_31, x199_34, x199_35, x199_37, x199_40, x199_43, x199_46, x199_47, x199_50, x199_53, x199_56, x199_59, x199_62, x199_63, x199_66, x199_67, x199_69, x199_71, x199_74, x199_75, x199_76, x199_77, x199_80, x199_83, x199_84, x199_86, x199_87, x199_88, x199_89, x199_92, x199_95, x199_96, x199_97, x199_98, x199_101, x199_104, x199_105, x199_106, x199_108, x199_111, x199_114, x199_115, x199_118, x199_119, x199_122, x199_125, x199_126, x199_127, x199_128, x199_131, x199_134, x199_135, x199_136, x199_139, x199_141, x199_144, x199_145, x199_148, x199_149, x199_152, x199_153, x199_154, x199_157, x199_158, x199_161, x199_163, x199_164, x199_167, x199_170, x199_171, x199_174, x199_177, x199_178, x199_181, x199_184, x199_185, x199_188, x199_189, x199_192, x199_193, x199_197, x199_198, x199_201, x199_202, x199_204, x199_207, x199_210, x199_211, x199_213, x199_216, x199_219, x199_220, x199_221, x199_222, x199_225, x199_228, x199_229, x199_231, x199_232, x199_233, x199_234, x199_237, x199_240, x199_241, x199_242, x199_243, x199_246, x199_249, x199_252, x199_256, x199_257, x199_260, x199_261, x199_264, x199_266, x199_267, x199_268, x199_271, x199_275, x199_278, x199_279, y3 u, Kc_none]
        · rw [if_neg k41]
          simp only [if_neg (show ¬ s2.1 = 500 + 41 by omega)] at c41
          have bd := bad1 1 τ3 s2 g2
          refine Or.inr ⟨_, _, rfl, F3.trans bad_v.1, bad_v.2, fun u Q l5 => ?_⟩
          rw [x199_194]
          simp (disch := first | omega | exact notL_I | exact notL_N | exact notL_R | exact oM | exact catS_le (Nat.le_of_ble_eq_true rfl) | exact Nat.le_of_ble_eq_true rfl | rfl) only [x199_0, x199_1, x199_3, x199_6, x199_9, x199_10, x199_11, x199_12, x199_16, x199_19, x199_20, x199_24, x199_27, x199_30, x199_31, x199_34, x199_35, x199_37, x199_40, x199_43, x199_46, x199_47, x199_50, x199_53, x199_56, x199_59, x199_62, x199_63, x199_66, x199_67, x199_69, x199_71, x199_74, x199_75, x199_76, x199_77, x199_80, x199_83, x199_84, x199_86, x199_87, x199_88, x199_89, x199_92, x199_95, x199_96, x199_97, x199_98, x199_101, x199_104, x199_105, x199_106, x199_108, x199_111, x199_114, x199_115, x199_118, x199_119, x199_122, x199_125, x199_126, x199_127, x199_128, x199_131, x199_134, x199_135, x199_136, x199_139, x199_141, x199_144, x199_145, x199_148, x199_149, x199_152, x199_153, x199_154, x199_157, x199_158, x199_161, x199_163, x199_164, x199_167, x199_170, x199_171, x199_174, x199_177, x199_178, x199_181, x199_184, x199_185, x199_188, x199_189, x199_192, x199_193, x199_197, x199_198, x199_201, x199_202, x199_204, x199_207, x199_210, x199_211, x199_213, x199_216, x199_219, x199_220, x199_221, x199_222, x199_225, x199_228, x199_229, x199_231, x199_232, x199_233, x199_234, x199_237, x199_240, x199_241, x199_242, x199_243, x199_246, x199_249, x199_252, x199_256, x199_257, x199_260, x199_261, x199_264, x199_266, x199_267, x199_268, x199_271, x199_275, x199_278, x199_279, g3 u, c44, c41, gM_tokenAt, g2.1.2.1, bd, Kc_some, Kc_none, if_pos, if_neg, ↓reduceIte, not_true_eq_false, not_false_eq_true]
    have co := cols τ F
    rw [e74 τ F] at co
    have bdK := fun k => bad1 k τ s ctx
    by_cases hN : 300 ≤ s.1 ∧ s.1 ≤ 399
    · -- a number
      rw [if_pos (Or.inl hN)]
      simp only [if_pos hN] at isn
      simp only [if_neg (show ¬ s.1 = 500 + 63 by omega)] at sg63
      by_cases hnm : (n : Int) = m
      · rw [if_pos hnm]
        refine Or.inr ⟨_, _, rfl, F.trans bad_v.1, bad_v.2, fun u Q l5 => ?_⟩
        rw [x199_23]
        simp (disch := first | omega | exact notL_I | exact notL_N | exact notL_R | exact oM | exact catS_le (Nat.le_of_ble_eq_true rfl) | exact Nat.le_of_ble_eq_true rfl | rfl) only [x199_0, x199_1, x199_3, x199_6, x199_9, x199_10, x199_11, x199_12, x199_16, x199_19, x199_20, x199_24, x199_27, x199_30, x199_31, x199_34, x199_35, x199_37, x199_40, x199_43, x199_46, x199_47, x199_50, x199_53, x199_56, x199_59, x199_62, x199_63, x199_66, x199_67, x199_69, x199_71, x199_74, x199_75, x199_76, x199_77, x199_80, x199_83, x199_84, x199_86, x199_87, x199_88, x199_89, x199_92, x199_95, x199_96, x199_97, x199_98, x199_101, x199_104, x199_105, x199_106, x199_108, x199_111, x199_114, x199_115, x199_118, x199_119, x199_122, x199_125, x199_126, x199_127, x199_128, x199_131, x199_134, x199_135, x199_136, x199_139, x199_141, x199_144, x199_145, x199_148, x199_149, x199_152, x199_153, x199_154, x199_157, x199_158, x199_161, x199_163, x199_164, x199_167, x199_170, x199_171, x199_174, x199_177, x199_178, x199_181, x199_184, x199_185, x199_188, x199_189, x199_192, x199_193, x199_197, x199_198, x199_201, x199_202, x199_204, x199_207, x199_210, x199_211, x199_213, x199_216, x199_219, x199_220, x199_221, x199_222, x199_225, x199_228, x199_229, x199_231, x199_232, x199_233, x199_234, x199_237, x199_240, x199_241, x199_242, x199_243, x199_246, x199_249, x199_252, x199_256, x199_257, x199_260, x199_261, x199_264, x199_266, x199_267, x199_268, x199_271, x199_275, x199_278, x199_279, isn, co, gM_tokenAt, p2, bdK, Kc_some, if_pos, if_neg, ↓reduceIte, not_true_eq_false, not_false_eq_true]
      · rw [if_neg hnm, if_neg (show ¬ s.1 = 563 by omega)]
        have ec : (if isNm s then s.1 - 300 else 2000 + (s.1 - 200)) = s.1 - 300 := if_pos hN
        rw [ec]
        have run : ∀ (u : Bool × Nat × Nat × Int) (Q : Rs → HS → Prop) (l5 : Option V), Ex sc d 199 23 [some (vR 373), some (vI h), some (vI t), some (vI (bI row)), some (vI ((n : Int))), l5] [] (wH τ u) Q ↔ Ex sc d 199 194 [some (vR 373), some (vI h), some (vI t), some (vI (bI row)), some (vI ((n : Int))), some (vI 1)] [] (wH (su τ 387 n (s.1 - 300)) u) Q := by
          intro u Q l5
          rw [x199_23]
          simp (disch := first | omega | exact notL_I | exact notL_N | exact notL_R | exact oM | exact catS_le (Nat.le_of_ble_eq_true rfl) | exact Nat.le_of_ble_eq_true rfl | rfl) only [x199_0, x199_1, x199_3, x199_6, x199_9, x199_10, x199_11, x199_12, x199_16, x199_19, x199_20, x199_24, x199_27, x199_30, x199_31, x199_34, x199_35, x199_37, x199_40, x199_43, x199_46, x199_47, x199_50, x199_53, x199_56, x199_59, x199_62, x199_63, x199_66, x199_67, x199_69, x199_71, x199_74, x199_75, x199_76, x199_77, x199_80, x199_83, x199_84, x199_86, x199_87, x199_88, x199_89, x199_92, x199_95, x199_96, x199_97, x199_98, x199_101, x199_104, x199_105, x199_106, x199_108, x199_111, x199_114, x199_115, x199_118, x199_119, x199_122, x199_125, x199_126, x199_127, x199_128, x199_131, x199_134, x199_135, x199_136, x199_139, x199_141, x199_144, x199_145, x199_148, x199_149, x199_152, x199_153, x199_154, x199_157, x199_158, x199_161, x199_163, x199_164, x199_167, x199_170, x199_171, x199_174, x199_177, x199_178, x199_181, x199_184, x199_185, x199_188, x199_189, x199_192, x199_193, x199_197, x199_198, x199_201, x199_202, x199_204, x199_207, x199_210, x199_211, x199_213, x199_216, x199_219, x199_220, x199_221, x199_222, x199_225, x199_228, x199_229, x199_231, x199_232, x199_233, x199_234, x199_237, x199_240, x199_241, x199_242, x199_243, x199_246, x199_249, x199_252, x199_256, x199_257, x199_260, x199_261, x199_264, x199_266, x199_267, x199_268, x199_271, x199_275, x199_278, x199_279, isn, sg63, co, gM_list, WM_list, gM_token, p1, Kc_some, if_pos, if_neg, ↓reduceIte, not_true_eq_false, not_false_eq_true]
        rcases tail (s.1 - 300) s τ (okC_num (by omega) (by omega)) F ctx (fun i c hi => (hac i c hi).1) (by omega) with ⟨l, s', ρ, n1, n2, n3, n4, n5, n6, n7⟩ | ⟨e, ρ, n1, n2, n3, n4⟩
        · exact Or.inl ⟨l, s', ρ, n1, n2, n3, n4, n5, n6, fun u Q l5 => (run u Q l5).trans (n7 u Q _)⟩
        · exact Or.inr ⟨e, ρ, n1, n2, n3, fun u Q l5 => (run u Q l5).trans (n4 u Q _)⟩
    · simp only [if_neg hN] at isn
      cases row with
      | true =>
        by_cases hQ : s.1 = 563
        · rw [if_pos (Or.inr (by rw [if_pos rfl]; exact hQ))]
          simp only [if_pos (show s.1 = 500 + 63 by omega)] at sg63
          by_cases hnm : (n : Int) = m
          · rw [if_pos hnm]
            refine Or.inr ⟨_, _, rfl, F.trans bad_v.1, bad_v.2, fun u Q l5 => ?_⟩
            rw [x199_23]
            simp (disch := first | omega | exact notL_I | exact notL_N | exact notL_R | exact oM | exact catS_le (Nat.le_of_ble_eq_true rfl) | exact Nat.le_of_ble_eq_true rfl | rfl) only [x199_0, x199_1, x199_3, x199_6, x199_9, x199_10, x199_11, x199_12, x199_16, x199_19, x199_20, x199_24, x199_27, x199_30, x199_31, x199_34, x199_35, x199_37, x199_40, x199_43, x199_46, x199_47, x199_50, x199_53, x199_56, x199_59, x199_62, x199_63, x199_66, x199_67, x199_69, x199_71, x199_74, x199_75, x199_76, x199_77, x199_80, x199_83, x199_84, x199_86, x199_87, x199_88, x199_89, x199_92, x199_95, x199_96, x199_97, x199_98, x199_101, x199_104, x199_105, x199_106, x199_108, x199_111, x199_114, x199_115, x199_118, x199_119, x199_122, x199_125, x199_126, x199_127, x199_128, x199_131, x199_134, x199_135, x199_136, x199_139, x199_141, x199_144, x199_145, x199_148, x199_149, x199_152, x199_153, x199_154, x199_157, x199_158, x199_161, x199_163, x199_164, x199_167, x199_170, x199_171, x199_174, x199_177, x199_178, x199_181, x199_184, x199_185, x199_188, x199_189, x199_192, x199_193, x199_197, x199_198, x199_201, x199_202, x199_204, x199_207, x199_210, x199_211, x199_213, x199_216, x199_219, x199_220, x199_221, x199_222, x199_225, x199_228, x199_229, x199_231, x199_232, x199_233, x199_234, x199_237, x199_240, x199_241, x199_242, x199_243, x199_246, x199_249, x199_252, x199_256, x199_257, x199_260, x199_261, x199_264, x199_266, x199_267, x199_268, x199_271, x199_275, x199_278, x199_279, isn, sg63, co, gM_tokenAt, p2, bdK, bI_t, Kc_some, if_pos, if_neg, ↓reduceIte, not_true_eq_false, not_false_eq_true]
          · rw [if_neg hnm, if_pos hQ]
            obtain ⟨τ1, y1, y2, y3⟩ := s_lookP (sc := sc) (d := d - 1) (by omega) Wτ ctx
            rw [F.tx.1, F.tx.2] at y2
            have F1 := F.trans y1.pa
            generalize hs1 : nxT (σ 386) (σ 373 14) s.2.2 = s1 at *
            have isn1 := s_isNum (sc := sc) (d := d - 1) (by omega) y2.1.1 y2.2.2.1
            by_cases hN1 : 300 ≤ s1.1 ∧ s1.1 ≤ 399
            · rw [if_pos hN1]
              simp only [if_pos hN1] at isn1
              have run : ∀ (u : Bool × Nat × Nat × Int) (Q : Rs → HS → Prop) (l5 : Option V), Ex sc d 199 23 [some (vR 373), some (vI h), some (vI t), some (vI (bI true)), some (vI ((n : Int))), l5] [] (wH τ u) Q ↔ Ex sc d 199 194 [some (vR 373), some (vI h), some (vI t), some (vI (bI true)), some (vI ((n : Int))), some (vI 1)] [] (wH (su τ1 387 n (1000 + (s1.1 - 300))) u) Q := by
                intro u Q l5
                have ev : 1000 + s1.1 - 300 = 1000 + (s1.1 - 300) := by omega
                rw [x199_23]
                simp (disch := first | omega | exact notL_I | exact notL_N | exact notL_R | exact oM | exact catS_le (Nat.le_of_ble_eq_true rfl) | exact Nat.le_of_ble_eq_true rfl | rfl) only [x199_0, x199_1, x199_3, x199_6, x199_9, x199_10, x199_11, x199_12, x199_16, x199_19, x199_20, x199_24, x199_27, x199_30, x199_31, x199_34, x199_35, x199_37, x199_40, x199_43, x199_46, x199_47, x199_50, x199_53, x199_56, x199_59, x199_62, x199_63, x199_66, x199_67, x199_69, x199_71, x199_74, x199_75, x199_76, x199_77, x199_80, x199_83, x199_84, x199_86, x199_87, x199_88, x199_89, x199_92, x199_95, x199_96, x199_97, x199_98, x199_101, x199_104, x199_105, x199_106, x199_108, x199_111, x199_114, x199_115, x199_118, x199_119, x199_122, x199_125, x199_126, x199_127, x199_128, x199_131, x199_134, x199_135, x199_136, x199_139, x199_141, x199_144, x199_145, x199_148, x199_149, x199_152, x199_153, x199_154, x199_157, x199_158, x199_161, x199_163, x199_164, x199_167, x199_170, x199_171, x199_174, x199_177, x199_178, x199_181, x199_184, x199_185, x199_188, x199_189, x199_192, x199_193, x199_197, x199_198, x199_201, x199_202, x199_204, x199_207, x199_210, x199_211, x199_213, x199_216, x199_219, x199_220, x199_221, x199_222, x199_225, x199_228, x199_229, x199_231, x199_232, x199_233, x199_234, x199_237, x199_240, x199_241, x199_242, x199_243, x199_246, x199_249, x199_252, x199_256, x199_257, x199_260, x199_261, x199_264, x199_266, x199_267, x199_268, x199_271, x199_275, x199_278, x199_279, isn, sg63, co, y3 u, isn1, gM_list, WM_list, gM_token, y2.1.1, ev, bI_t, Kc_some, Kc_none, if_pos, if_neg, ↓reduceIte, not_true_eq_false, not_false_eq_true]
              have tl := tail (1000 + (s1.1 - 300)) s1 τ1 (Or.inr ⟨by omega, by omega⟩) F1 y2 (fun i c hi => by rw [y1.1 387 (by omega)]; exact (hac i c hi).1) (by omega)
              rcases tl with ⟨l, s', ρ, n1, n2, n3, n4, n5, n6, n7⟩ | ⟨e, ρ, n1, n2, n3, n4⟩
              · exact Or.inl ⟨l, s', ρ, n1, n2, n3, n4, n5, n6, fun u Q l5 => (run u Q l5).trans (n7 u Q _)⟩
              · exact Or.inr ⟨e, ρ, n1, n2, n3, fun u Q l5 => (run u Q l5).trans (n4 u Q _)⟩
            · rw [if_neg hN1]
              simp only [if_neg hN1] at isn1
              have bd := bad1 1 τ1 s1 y2
              refine Or.inr ⟨_, _, rfl, F1.trans bad_v.1, bad_v.2, fun u Q l5 => ?_⟩
              rw [x199_23]
              simp (disch := first | omega | exact notL_I | exact notL_N | exact notL_R | exact oM | exact catS_le (Nat.le_of_ble_eq_true rfl) | exact Nat.le_of_ble_eq_true rfl | rfl) only [x199_0, x199_1, x199_3, x199_6, x199_9, x199_10, x199_11, x199_12, x199_16, x199_19, x199_20, x199_24, x199_27, x199_30, x199_31, x199_34, x199_35, x199_37, x199_40, x199_43, x199_46, x199_47, x199_50, x199_53, x199_56, x199_59, x199_62, x199_63, x199_66, x199_67, x199_69, x199_71, x199_74, x199_75, x199_76, x199_77, x199_80, x199_83, x199_84, x199_86, x199_87, x199_88, x199_89, x199_92, x199_95, x199_96, x199_97, x199_98, x199_101, x199_104, x199_105, x199_106, x199_108, x199_111, x199_114, x199_115, x199_118, x199_119, x199_122, x199_125, x199_126, x199_127, x199_128, x199_131, x199_134, x199_135, x199_136, x199_139, x199_141, x199_144, x199_145, x199_148, x199_149, x199_152, x199_153, x199_154, x199_157, x199_158, x199_161, x199_163, x199_164, x199_167, x199_170, x199_171, x199_174, x199_177, x199_178, x199_181, x199_184, x199_185, x199_188, x199_189, x199_192, x199_193, x199_197, x199_198, x199_201, x199_202, x199_204, x199_207, x199_210, x199_211, x199_213, x199_216, x199_219, x199_220, x199_221, x199_222, x199_225, x199_228, x199_229, x199_231, x199_232, x199_233, x199_234, x199_237, x199_240, x199_241, x199_242, x199_243, x199_246, x199_249, x199_252, x199_256, x199_257, x199_260, x199_261, x199_264, x199_266, x199_267, x199_268, x199_271, x199_275, x199_278, x199_279, isn, sg63, co, y3 u, isn1, gM_tokenAt, y2.1.2.1, bd, bI_t, Kc_some, Kc_none, if_pos, if_neg, ↓reduceIte, not_true_eq_false, not_false_eq_true]
        · rw [if_neg (fun z => z.elim hN (fun y => hQ (by rw [if_pos rfl] at y; exact y)))]
          simp only [if_neg (show ¬ s.1 = 500 + 63 by omega)] at sg63
          refine Or.inr ⟨_, _, rfl, F.trans bad_v.1, bad_v.2, fun u Q l5 => ?_⟩
          rw [x199_23]
          simp (disch := first | omega | exact notL_I | exact notL_N | exact notL_R | exact oM | exact catS_le (Nat.le_of_ble_eq_true rfl) | exact Nat.le_of_ble_eq_true rfl | rfl) only [x199_0, x199_1, x199_3, x199_6, x199_9, x199_10, x199_11, x199_12, x199_16, x199_19, x199_20, x199_24, x199_27, x199_30, x199_31, x199_34, x199_35, x199_37, x199_40, x199_43, x199_46, x199_47, x199_50, x199_53, x199_56, x199_59, x199_62, x199_63, x199_66, x199_67, x199_69, x199_71, x199_74, x199_75, x199_76, x199_77, x199_80, x199_83, x199_84, x199_86, x199_87, x199_88, x199_89, x199_92, x199_95, x199_96, x199_97, x199_98, x199_101, x199_104, x199_105, x199_106, x199_108, x199_111, x199_114, x199_115, x199_118, x199_119, x199_122, x199_125, x199_126, x199_127, x199_128, x199_131, x199_134, x199_135, x199_136, x199_139, x199_141, x199_144, x199_145, x199_148, x199_149, x199_152, x199_153, x199_154, x199_157, x199_158, x199_161, x199_163, x199_164, x199_167, x199_170, x199_171, x199_174, x199_177, x199_178, x199_181, x199_184, x199_185, x199_188, x199_189, x199_192, x199_193, x199_197, x199_198, x199_201, x199_202, x199_204, x199_207, x199_210, x199_211, x199_213, x199_216, x199_219, x199_220, x199_221, x199_222, x199_225, x199_228, x199_229, x199_231, x199_232, x199_233, x199_234, x199_237, x199_240, x199_241, x199_242, x199_243, x199_246, x199_249, x199_252, x199_256, x199_257, x199_260, x199_261, x199_264, x199_266, x199_267, x199_268, x199_271, x199_275, x199_278, x199_279, isn, sg63, gM_tokenAt, p2, bdK, bI_t, Kc_some, if_pos, if_neg, ↓reduceIte, not_true_eq_false, not_false_eq_true]
      | false =>
        by_cases hV : 200 ≤ s.1 ∧ s.1 ≤ 225
        · rw [if_pos (Or.inr (by rw [if_neg (by simp)]; exact hV))]
          simp only [if_pos hV] at isv
          simp only [if_neg (show ¬ s.1 = 500 + 63 by omega)] at sg63
          by_cases hnm : (n : Int) = m
          · rw [if_pos hnm]
            refine Or.inr ⟨_, _, rfl, F.trans bad_v.1, bad_v.2, fun u Q l5 => ?_⟩
            rw [x199_23]
            simp (disch := first | omega | exact notL_I | exact notL_N | exact notL_R | exact oM | exact catS_le (Nat.le_of_ble_eq_true rfl) | exact Nat.le_of_ble_eq_true rfl | rfl) only [x199_0, x199_1, x199_3, x199_6, x199_9, x199_10, x199_11, x199_12, x199_16, x199_19, x199_20, x199_24, x199_27, x199_30, x199_31, x199_34, x199_35, x199_37, x199_40, x199_43, x199_46, x199_47, x199_50, x199_53, x199_56, x199_59, x199_62, x199_63, x199_66, x199_67, x199_69, x199_71, x199_74, x199_75, x199_76, x199_77, x199_80, x199_83, x199_84, x199_86, x199_87, x199_88, x199_89, x199_92, x199_95, x199_96, x199_97, x199_98, x199_101, x199_104, x199_105, x199_106, x199_108, x199_111, x199_114, x199_115, x199_118, x199_119, x199_122, x199_125, x199_126, x199_127, x199_128, x199_131, x199_134, x199_135, x199_136, x199_139, x199_141, x199_144, x199_145, x199_148, x199_149, x199_152, x199_153, x199_154, x199_157, x199_158, x199_161, x199_163, x199_164, x199_167, x199_170, x199_171, x199_174, x199_177, x199_178, x199_181, x199_184, x199_185, x199_188, x199_189, x199_192, x199_193, x199_197, x199_198, x199_201, x199_202, x199_204, x199_207, x199_210, x199_211, x199_213, x199_216, x199_219, x199_220, x199_221, x199_222, x199_225, x199_228, x199_229, x199_231, x199_232, x199_233, x199_234, x199_237, x199_240, x199_241, x199_242, x199_243, x199_246, x199_249, x199_252, x199_256, x199_257, x199_260, x199_261, x199_264, x199_266, x199_267, x199_268, x199_271, x199_275, x199_278, x199_279, isn, isv, co, gM_token, p1, gM_tokenAt, p2, bdK, bI_f, Kc_some, if_pos, if_neg, ↓reduceIte, not_true_eq_false, not_false_eq_true]
          · rw [if_neg hnm, if_neg (show ¬ s.1 = 563 by omega)]
            have ec : (if isNm s then s.1 - 300 else 2000 + (s.1 - 200)) = 2000 + (s.1 - 200) := if_neg hN
            rw [ec]
            have run : ∀ (u : Bool × Nat × Nat × Int) (Q : Rs → HS → Prop) (l5 : Option V), Ex sc d 199 23 [some (vR 373), some (vI h), some (vI t), some (vI (bI false)), some (vI ((n : Int))), l5] [] (wH τ u) Q ↔ Ex sc d 199 194 [some (vR 373), some (vI h), some (vI t), some (vI (bI false)), some (vI ((n : Int))), some (vI 1)] [] (wH (su τ 387 n (2000 + (s.1 - 200))) u) Q := by
              intro u Q l5
              have ev : 2000 + s.1 - 200 = 2000 + (s.1 - 200) := by omega
              rw [x199_23]
              simp (disch := first | omega | exact notL_I | exact notL_N | exact notL_R | exact oM | exact catS_le (Nat.le_of_ble_eq_true rfl) | exact Nat.le_of_ble_eq_true rfl | rfl) only [x199_0, x199_1, x199_3, x199_6, x199_9, x199_10, x199_11, x199_12, x199_16, x199_19, x199_20, x199_24, x199_27, x199_30, x199_31, x199_34, x199_35, x199_37, x199_40, x199_43, x199_46, x199_47, x199_50, x199_53, x199_56, x199_59, x199_62, x199_63, x199_66, x199_67, x199_69, x199_71, x199_74, x199_75, x199_76, x199_77, x199_80, x199_83, x199_84, x199_86, x199_87, x199_88, x199_89, x199_92, x199_95, x199_96, x199_97, x199_98, x199_101, x199_104, x199_105, x199_106, x199_108, x199_111, x199_114, x199_115, x199_118, x199_119, x199_122, x199_125, x199_126, x199_127, x199_128, x199_131, x199_134, x199_135, x199_136, x199_139, x199_141, x199_144, x199_145, x199_148, x199_149, x199_152, x199_153, x199_154, x199_157, x199_158, x199_161, x199_163, x199_164, x199_167, x199_170, x199_171, x199_174, x199_177, x199_178, x199_181, x199_184, x199_185, x199_188, x199_189, x199_192, x199_193, x199_197, x199_198, x199_201, x199_202, x199_204, x199_207, x199_210, x199_211, x199_213, x199_216, x199_219, x199_220, x199_221, x199_222, x199_225, x199_228, x199_229, x199_231, x199_232, x199_233, x199_234, x199_237, x199_240, x199_241, x199_242, x199_243, x199_246, x199_249, x199_252, x199_256, x199_257, x199_260, x199_261, x199_264, x199_266, x199_267, x199_268, x199_271, x199_275, x199_278, x199_279, isn, isv, sg63, co, gM_list, WM_list, gM_token, p1, ev, bI_f, Kc_some, if_pos, if_neg, ↓reduceIte, not_true_eq_false, not_false_eq_true]
            rcases tail (2000 + (s.1 - 200)) s τ (Or.inr ⟨by omega, by omega⟩) F ctx (fun i c hi => (hac i c hi).1) (by omega) with ⟨l, s', ρ, n1, n2, n3, n4, n5, n6, n7⟩ | ⟨e, ρ, n1, n2, n3, n4⟩
            · exact Or.inl ⟨l, s', ρ, n1, n2, n3, n4, n5, n6, fun u Q l5 => (run u Q l5).trans (n7 u Q _)⟩
            · exact Or.inr ⟨e, ρ, n1, n2, n3, fun u Q l5 => (run u Q l5).trans (n4 u Q _)⟩
        · rw [if_neg (fun z => z.elim hN (fun y => hV (by rw [if_neg (by simp)] at y; exact y)))]
          simp only [if_neg hV] at isv
          refine Or.inr ⟨_, _, rfl, F.trans bad_v.1, bad_v.2, fun u Q l5 => ?_⟩
          rw [x199_23]
          simp (disch := first | omega | exact notL_I | exact notL_N | exact notL_R | exact oM | exact catS_le (Nat.le_of_ble_eq_true rfl) | exact Nat.le_of_ble_eq_true rfl | rfl) only [x199_0, x199_1, x199_3, x199_6, x199_9, x199_10, x199_11, x199_12, x199_16, x199_19, x199_20, x199_24, x199_27, x199_30, x199_31, x199_34, x199_35, x199_37, x199_40, x199_43, x199_46, x199_47, x199_50, x199_53, x199_56, x199_59, x199_62, x199_63, x199_66, x199_67, x199_69, x199_71, x199_74, x199_75, x199_76, x199_77, x199_80, x199_83, x199_84, x199_86, x199_87, x199_88, x199_89, x199_92, x199_95, x199_96, x199_97, x199_98, x199_101, x199_104, x199_105, x199_106, x199_108, x199_111, x199_114, x199_115, x199_118, x199_119, x199_122, x199_125, x199_126, x199_127, x199_128, x199_131, x199_134, x199_135, x199_136, x199_139, x199_141, x199_144, x199_145, x199_148, x199_149, x199_152, x199_153, x199_154, x199_157, x199_158, x199_161, x199_163, x199_164, x199_167, x199_170, x199_171, x199_174, x199_177, x199_178, x199_181, x199_184, x199_185, x199_188, x199_189, x199_192, x199_193, x199_197, x199_198, x199_201, x199_202, x199_204, x199_207, x199_210, x199_211, x199_213, x199_216, x199_219, x199_220, x199_221, x199_222, x199_225, x199_228, x199_229, x199_231, x199_232, x199_233, x199_234, x199_237, x199_240, x199_241, x199_242, x199_243, x199_246, x199_249, x199_252, x199_256, x199_257, x199_260, x199_261, x199_264, x199_266, x199_267, x199_268, x199_271, x199_275, x199_278, x199_279, isn, isv, gM_token, p1, gM_tokenAt, p2, bdK, bI_f, Kc_some, if_pos, if_neg, ↓reduceIte, not_true_eq_false, not_false_eq_true]
theorem s_sev {h t m : Int} {row : Bool} {s : Ps} (hd : 5 ≤ d) (W : WfM σ) (h1 : 0 ≤ h) (h2 : h ≤ 4) (t0 : 0 ≤ t) (t1 : t ≤ 25) (hm : σ 374 (26 * h + t) = m) (m1 : 1 ≤ m) (m3 : m ≤ 3) (H : PcI σ s) :
    (∃ l s' ρ, sevP (nxT (σ 386) (σ 373 14)) m row s = .inr (l, s') ∧ (l.length : Int) = m ∧ Fpa σ ρ ∧ PcI ρ s' ∧ (∀ i : Nat, i < 3 → ρ 387 i = l.getD i 0) ∧ (∀ c ∈ l, okC row c) ∧ RnA sc d 199 0 [some (vR 373), some (vI h), some (vI t), some (vI (bI row)), none, none] σ (some (vI 1)) ρ) ∨
    (∃ e ρ, sevP (nxT (σ 386) (σ 373 14)) m row s = .inl e ∧ Fpa σ ρ ∧ BdI ρ e ∧ RnA sc d 199 0 [some (vR 373), some (vI h), some (vI t), some (vI (bI row)), none, none] σ (some (vI 0)) ρ) := by
  unfold sevP
  rcases s_need (sc := sc) (d := d - 1) (c := 40) (by omega) W H (by omega) with ⟨s1, τ, e1, F, H1, r1⟩ | ⟨e, τ, e1, F, B, r1⟩
  · rw [e1]
    have F1 := F.pa
    have ls := l_sev (sc := sc) (d := d) (σ := σ) (h := h) (t := t) (m := m) (row := row) (by omega) W h1 h2 t0 t1 hm m1 m3 4 0 [] s1 τ (by omega) rfl (by omega) F1 H1 (fun i c hi => by cases hi)
    rw [Int.natCast_zero] at ls
    have run : ∀ (u : Bool × Nat × Nat × Int) (Q : Rs → HS → Prop), Ex sc d 199 0 [some (vR 373), some (vI h), some (vI t), some (vI (bI row)), none, none] [] (wH σ u) Q ↔ Ex sc d 199 23 [some (vR 373), some (vI h), some (vI t), some (vI (bI row)), some (vI 0), none] [] (wH τ u) Q := by
      intro u Q
      simp (disch := first | omega | exact notL_I | exact notL_N | exact notL_R | exact oM | exact catS_le (Nat.le_of_ble_eq_true rfl) | exact Nat.le_of_ble_eq_true rfl | rfl) only [x199_0, x199_1, x199_3, x199_6, x199_9, x199_10, x199_11, x199_12, x199_14, x199_16, x199_19, x199_20, x199_24, x199_27, x199_30, x199_31, x199_34, x199_35, x199_37, x199_40, x199_43, x199_46, x199_47, x199_50, x199_53, x199_56, x199_59, x199_62, x199_63, x199_66, x199_67, x199_69, x199_71, x199_74, x199_75, x199_76, x199_77, x199_80, x199_83, x199_84, x199_86, x199_87, x199_88, x199_89, x199_92, x199_95, x199_96, x199_97, x199_98, x199_101, x199_104, x199_105, x199_106, x199_108, x199_111, x199_114, x199_115, x199_118, x199_119, x199_122, x199_125, x199_126, x199_127, x199_128, x199_131, x199_134, x199_135, x199_136, x199_139, x199_141, x199_144, x199_145, x199_148, x199_149, x199_152, x199_153, x199_154, x199_157, x199_158, x199_161, x199_163, x199_164, x199_167, x199_170, x199_171, x199_174, x199_177, x199_178, x199_181, x199_184, x199_185, x199_188, x199_189, x199_192, x199_193, x199_197, x199_198, x199_201, x199_202, x199_204, x199_207, x199_210, x199_211, x199_213, x199_216, x199_219, x199_220, x199_221, x199_222, x199_225, x199_228, x199_229, x199_231, x199_232, x199_233, x199_234, x199_237, x199_240, x199_241, x199_242, x199_243, x199_246, x199_249, x199_252, x199_256, x199_257, x199_260, x199_261, x199_264, x199_266, x199_267, x199_268, x199_271, x199_275, x199_278, x199_279, r1 u, Kc_some, if_pos, if_neg, ↓reduceIte, not_true_eq_false, not_false_eq_true]
    rcases ls with ⟨l, s', ρ, n1, n2, n3, n4, n5, n6, n7⟩ | ⟨e, ρ, n1, n2, n3, n4⟩
    · exact Or.inl ⟨l, s', ρ, n1, n2, n3, n4, n5, n6, fun u Q => (run u Q).trans (n7 u Q none)⟩
    · exact Or.inr ⟨e, ρ, n1, n2, n3, fun u Q => (run u Q).trans (n4 u Q none)⟩
  · rw [e1]
    refine Or.inr ⟨e, τ, rfl, F, B, fun u Q => ?_⟩
    simp (disch := first | omega | exact notL_I | exact notL_N | exact notL_R | exact oM | exact catS_le (Nat.le_of_ble_eq_true rfl) | exact Nat.le_of_ble_eq_true rfl | rfl) only [x199_0, x199_1, x199_3, x199_6, x199_9, x199_10, x199_11, x199_12, x199_16, x199_19, x199_20, x199_24, x199_27, x199_30, x199_31, x199_34, x199_35, x199_37, x199_40, x199_43, x199_46, x199_47, x199_50, x199_53, x199_56, x199_59, x199_62, x199_63, x199_66, x199_67, x199_69, x199_71, x199_74, x199_75, x199_76, x199_77, x199_80, x199_83, x199_84, x199_86, x199_87, x199_88, x199_89, x199_92, x199_95, x199_96, x199_97, x199_98, x199_101, x199_104, x199_105, x199_106, x199_108, x199_111, x199_114, x199_115, x199_118, x199_119, x199_122, x199_125, x199_126, x199_127, x199_128, x199_131, x199_134, x199_135, x199_136, x199_139, x199_141, x199_144, x199_145, x199_148, x199_149, x199_152, x199_153, x199_154, x199_157, x199_158, x199_161, x199_163, x199_164, x199_167, x199_170, x199_171, x199_174, x199_177, x199_178, x199_181, x199_184, x199_185, x199_188, x199_189, x199_192, x199_193, x199_197, x199_198, x199_201, x199_202, x199_204, x199_207, x199_210, x199_211, x199_213, x199_216, x199_219, x199_220, x199_221, x199_222, x199_225, x199_228, x199_229, x199_231, x199_232, x199_233, x199_234, x199_237, x199_240, x199_241, x199_242, x199_243, x199_246, x199_249, x199_252, x199_256, x199_257, x199_260, x199_261, x199_264, x199_266, x199_267, x199_268, x199_271, x199_275, x199_278, x199_279, r1 u, Kc_some, if_pos, if_neg, ↓reduceIte, not_true_eq_false, not_false_eq_true]
end L2
