/-! runs of the reference: which atoms behind are new -/
def pvM (σ : St) (h r j c : Int) : Int := if c < σ 374 (26 * h + σ 376 (30 * (10 * h + r) + (3 + 4 * (3 * 1 + j)))) then worthB (σ 389) (σ 376 (30 * (10 * h + r) + (3 + 4 * (3 * 1 + j) + (1 + c)))) else 0
section M6
variable {sc : Scr} {σ : St} {h r : Int}
theorem gr_pv {j : Int} (W : WfM σ) (h1 : 0 ≤ h) (h2 : h ≤ 4) (r1 : 0 ≤ r) (r2 : r ≤ 9) (j0 : 0 ≤ j) (j1 : j ≤ 2) (hm : 1 ≤ σ 374 (26 * h + σ 376 (30 * (10 * h + r) + (3 + 4 * (3 * 1 + j))))) : grA (cB (σ 389)) (atR σ h r 1 j) = (σ 376 (30 * (10 * h + r) + (3 + 4 * (3 * 1 + j))), nrm (σ 374 (26 * h + σ 376 (30 * (10 * h + r) + (3 + 4 * (3 * 1 + j))))) (pvM σ h r j 0) (pvM σ h r j 1) (pvM σ h r j 2)) := by
  obtain ⟨a1, p1, p2, p3⟩ := W.ato (s := 1) h1 h2 r1 r2 (by omega) (by omega) j0 j1
  have neg : worthB (cB (σ 389)) (-1) = -1 := by unfold worthB; rw [if_neg (by decide)]
  have e1 : worthB (cB (σ 389)) (σ 376 (30 * (10 * h + r) + (3 + 4 * (3 * 1 + j) + 1))) = pvM σ h r j 0 := by
    unfold pvM
    rw [if_pos (by omega), worthB_c p1]
    rfl
  have e2 : (2 : Int) ≤ σ 374 (26 * h + σ 376 (30 * (10 * h + r) + (3 + 4 * (3 * 1 + j)))) → worthB (cB (σ 389)) (σ 376 (30 * (10 * h + r) + (3 + 4 * (3 * 1 + j) + 2))) = pvM σ h r j 1 := fun m => by
    unfold pvM
    rw [if_pos (by omega), worthB_c p2]
    rfl
  have e3 : (3 : Int) ≤ σ 374 (26 * h + σ 376 (30 * (10 * h + r) + (3 + 4 * (3 * 1 + j)))) → worthB (cB (σ 389)) (σ 376 (30 * (10 * h + r) + (3 + 4 * (3 * 1 + j) + 3))) = pvM σ h r j 2 := fun m => by
    unfold pvM
    rw [if_pos (by omega), worthB_c p3]
    rfl
  unfold grA atR nrm
  dsimp only
  rw [e1]
  by_cases m2 : 2 ≤ σ 374 (26 * h + σ 376 (30 * (10 * h + r) + (3 + 4 * (3 * 1 + j))))
  · by_cases m3 : 3 ≤ σ 374 (26 * h + σ 376 (30 * (10 * h + r) + (3 + 4 * (3 * 1 + j))))
    · rw [if_pos m2, if_pos m3, if_pos m2, if_pos m3, e2 m2, e3 m3]
    · rw [if_pos m2, if_neg m3, if_pos m2, if_neg m3, e2 m2, neg]
  · have m3 : ¬ 3 ≤ σ 374 (26 * h + σ 376 (30 * (10 * h + r) + (3 + 4 * (3 * 1 + j)))) := by omega
    rw [if_neg m2, if_neg m3, if_neg m2, if_neg m3, neg]
theorem pv_in {j c : Int} (W : WfM σ) (hg : gdB (σ 389)) (h1 : 0 ≤ h) (h2 : h ≤ 4) (r1 : 0 ≤ r) (r2 : r ≤ 9) (j0 : 0 ≤ j) (j1 : j ≤ 2) (c0 : 0 ≤ c) (c1 : c ≤ 2) : -1 ≤ pvM σ h r j c ∧ pvM σ h r j c ≤ 1099 := by
  obtain ⟨a1, p1, p2, p3⟩ := W.ato (s := 1) h1 h2 r1 r2 (by omega) (by omega) j0 j1
  unfold pvM
  split
  · rcases (show c = 0 ∨ c = 1 ∨ c = 2 by omega) with rfl | rfl | rfl
    · exact worthB_gd p1 hg
    · exact worthB_gd p2 hg
    · exact worthB_gd p3 hg
  · omega
theorem gr_eq {i j : Int} (W : WfM σ) (h1 : 0 ≤ h) (h2 : h ≤ 4) (r1 : 0 ≤ r) (r2 : r ≤ 9) (i0 : 0 ≤ i) (i1 : i ≤ 2) (j0 : 0 ≤ j) (j1 : j ≤ 2) (hi : 1 ≤ σ 374 (26 * h + σ 376 (30 * (10 * h + r) + (3 + 4 * (3 * 1 + i))))) (hj : 1 ≤ σ 374 (26 * h + σ 376 (30 * (10 * h + r) + (3 + 4 * (3 * 1 + j))))) : grA (cB (σ 389)) (atR σ h r 1 j) = grA (cB (σ 389)) (atR σ h r 1 i) ↔ σ 376 (30 * (10 * h + r) + (3 + 4 * (3 * 1 + j))) = σ 376 (30 * (10 * h + r) + (3 + 4 * (3 * 1 + i))) ∧ pvM σ h r j 0 = pvM σ h r i 0 ∧ pvM σ h r j 1 = pvM σ h r i 1 ∧ pvM σ h r j 2 = pvM σ h r i 2 := by
  rw [gr_pv W h1 h2 r1 r2 i0 i1 hi, gr_pv W h1 h2 r1 r2 j0 j1 hj, Prod.mk.injEq]
  constructor
  · rintro ⟨e, e2⟩
    have e2' := e2
    rw [e] at e2'
    obtain ⟨q0, q1, q2⟩ := nrm_eq.mp e2'
    refine ⟨e, q0, ?_, ?_⟩
    · by_cases m : 2 ≤ σ 374 (26 * h + σ 376 (30 * (10 * h + r) + (3 + 4 * (3 * 1 + i))))
      · exact q1 m
      · unfold pvM
        rw [e, if_neg (by omega), if_neg (by omega)]
    · by_cases m : 3 ≤ σ 374 (26 * h + σ 376 (30 * (10 * h + r) + (3 + 4 * (3 * 1 + i))))
      · exact q2 m
      · unfold pvM
        rw [e, if_neg (by omega), if_neg (by omega)]
  · rintro ⟨e, q0, q1, q2⟩
    refine ⟨e, ?_⟩
    rw [e]
    exact nrm_eq.mpr ⟨q0, fun _ => q1, fun _ => q2⟩
def smF (f g : Int → Int) : Nat → Int → Int → Int
  | 0, _, s => s
  | k + 1, c, s => smF f g k (c + 1) (if s = 1 ∧ f c = g c then 1 else 0)
theorem l_same {i j : Int} {d : Nat} {l4 l5 : Option V} {u : Bool × Nat × Nat × Int} {Q : Rs → HS → Prop} (hd : 3 ≤ d) (W : WfM σ) (hg : gdB (σ 389)) (h1 : 0 ≤ h) (h2 : h ≤ 4) (r1 : 0 ≤ r) (r2 : r ≤ 9) (i0 : 0 ≤ i) (i1 : i ≤ 2) (j0 : 0 ≤ j) (j1 : j ≤ 2) : ∀ (k : Nat) (c s : Int), 0 ≤ c → c + k = 3 → s = 0 ∨ s = 1 → (Ex sc d 249 90 [some (vR 373), some (vI h), some (vI r), some (vI i), l4, l5, some (vI j), some (vI s), some (vI c)] [] (wH σ u) Q ↔ Ex sc d 249 136 [some (vR 373), some (vI h), some (vI r), some (vI i), l4, l5, some (vI j), some (vI (smF (pvM σ h r j) (pvM σ h r i) k c s)), some (vI 3)] [] (wH σ u) Q) := by
  intro k
  induction k with
  | zero =>
    intro c s c0 ck hs
    obtain rfl : c = 3 := by omega
    rw [x249_90, smF]
    simp (disch := first | omega | exact notL_I | exact notL_N | exact notL_R | exact oM | exact catS_le (Nat.le_of_ble_eq_true rfl) | exact Nat.le_of_ble_eq_true rfl | rfl) only [x249_0, x249_1, x249_2, x249_3, x249_4, x249_5, x249_6, x249_9, x249_11, x249_12, x249_13, x249_15, x249_16, x249_17, x249_18, x249_19, x249_20, x249_23, x249_24, x249_25, x249_26, x249_27, x249_28, x249_31, x249_32, x249_33, x249_34, x249_35, x249_36, x249_39, x249_42, x249_43, x249_46, x249_47, x249_48, x249_49, x249_51, x249_52, x249_54, x249_56, x249_57, x249_60, x249_62, x249_65, x249_66, x249_67, x249_68, x249_69, x249_71, x249_72, x249_75, x249_77, x249_80, x249_81, x249_84, x249_85, x249_87, x249_88, x249_92, x249_93, x249_96, x249_98, x249_101, x249_102, x249_103, x249_104, x249_106, x249_108, x249_111, x249_112, x249_113, x249_114, x249_115, x249_117, x249_120, x249_123, x249_124, x249_127, x249_128, x249_130, x249_133, x249_138, x249_141, x249_142, x249_145, x249_146, x249_148, x249_151, x249_154, x249_156, if_pos, if_neg, ↓reduceIte, not_true_eq_false, not_false_eq_true]
  | succ k ih =>
    intro c s c0 ck hs
    have pj : ∀ (u : Bool × Nat × Nat × Int) (Q : Rs → HS → Prop), Ex sc (d - 1) 250 0 [some (vR 373), some (vI h), some (vI r), some (vI j), some (vI c)] [] (wH σ u) Q ↔ Q (.inl (some (vI (pvM σ h r j c)))) (wH σ u) := fun u Q => s_placed (sc := sc) (σ := σ) (d := d - 1) (u := u) (Q := Q) (i := j) (c := c) (by omega) W h1 h2 r1 r2 j0 j1 c0 (by omega)
    have pi : ∀ (u : Bool × Nat × Nat × Int) (Q : Rs → HS → Prop), Ex sc (d - 1) 250 0 [some (vR 373), some (vI h), some (vI r), some (vI i), some (vI c)] [] (wH σ u) Q ↔ Q (.inl (some (vI (pvM σ h r i c)))) (wH σ u) := fun u Q => s_placed (sc := sc) (σ := σ) (d := d - 1) (u := u) (Q := Q) (i := i) (c := c) (by omega) W h1 h2 r1 r2 i0 i1 c0 (by omega)
    have vj := pv_in (j := j) (c := c) W hg h1 h2 r1 r2 j0 j1 c0 (by omega)
    have vi := pv_in (j := i) (c := c) W hg h1 h2 r1 r2 i0 i1 c0 (by omega)
    have i1' := fun s hs => ih (c + 1) s (by omega) (by omega) hs
    rw [x249_90, smF]
    rcases hs with rfl | rfl
    · rw [if_neg (by omega)]
      simp (disch := first | omega | exact notL_I | exact notL_N | exact notL_R | exact oM | exact catS_le (Nat.le_of_ble_eq_true rfl) | exact Nat.le_of_ble_eq_true rfl | rfl) only [x249_0, x249_1, x249_2, x249_3, x249_4, x249_5, x249_6, x249_9, x249_11, x249_12, x249_13, x249_15, x249_16, x249_17, x249_18, x249_19, x249_20, x249_23, x249_24, x249_25, x249_26, x249_27, x249_28, x249_31, x249_32, x249_33, x249_34, x249_35, x249_36, x249_39, x249_42, x249_43, x249_46, x249_47, x249_48, x249_49, x249_51, x249_52, x249_54, x249_56, x249_57, x249_60, x249_62, x249_65, x249_66, x249_67, x249_68, x249_69, x249_71, x249_72, x249_75, x249_77, x249_80, x249_81, x249_84, x249_85, x249_87, x249_88, x249_92, x249_93, x249_96, x249_98, x249_101, x249_102, x249_103, x249_104, x249_106, x249_108, x249_111, x249_112, x249_113, x249_114, x249_115, x249_117, x249_120, x249_123, x249_124, x249_127, x249_128, x249_130, x249_133, x249_138, x249_141, x249_142, x249_145, x249_146, x249_148, x249_151, x249_154, x249_156, if_pos, if_neg, ↓reduceIte, not_true_eq_false, not_false_eq_true]
      exact i1' 0 (Or.inl rfl)
    · by_cases e : pvM σ h r j c = pvM σ h r i c
      · rw [if_pos ⟨rfl, e⟩]
        simp (disch := first | omega | exact notL_I | exact notL_N | exact notL_R | exact oM | exact catS_le (Nat.le_of_ble_eq_true rfl) | exact Nat.le_of_ble_eq_true rfl | rfl) only [x249_0, x249_1, x249_2, x249_3, x249_4, x249_5, x249_6, x249_9, x249_11, x249_12, x249_13, x249_15, x249_16, x249_17, x249_18, x249_19, x249_20, x249_23, x249_24, x249_25, x249_26, x249_27, x249_28, x249_31, x249_32, x249_33, x249_34, x249_35, x249_36, x249_39, x249_42, x249_43, x249_46, x249_47, x249_48, x249_49, x249_51, x249_52, x249_54, x249_56, x249_57, x249_60, x249_62, x249_65, x249_66, x249_67, x249_68, x249_69, x249_71, x249_72, x249_75, x249_77, x249_80, x249_81, x249_84, x249_85, x249_87, x249_88, x249_92, x249_93, x249_96, x249_98, x249_101, x249_102, x249_103, x249_104, x249_106, x249_108, x249_111, x249_112, x249_113, x249_114, x249_115, x249_117, x249_120, x249_123, x249_124, x249_127, x249_128, x249_130, x249_133, x249_138, x249_141, x249_142, x249_145, x249_146, x249_148, x249_151, x249_154, x249_156, pj, pi, Kc_some, e, if_pos, if_neg, ↓reduceIte, not_true_eq_false, not_false_eq_true]
        exact i1' 1 (Or.inr rfl)
      · rw [if_neg (fun z => e z.2)]
        simp (disch := first | omega | exact notL_I | exact notL_N | exact notL_R | exact oM | exact catS_le (Nat.le_of_ble_eq_true rfl) | exact Nat.le_of_ble_eq_true rfl | rfl) only [x249_0, x249_1, x249_2, x249_3, x249_4, x249_5, x249_6, x249_9, x249_11, x249_12, x249_13, x249_15, x249_16, x249_17, x249_18, x249_19, x249_20, x249_23, x249_24, x249_25, x249_26, x249_27, x249_28, x249_31, x249_32, x249_33, x249_34, x249_35, x249_36, x249_39, x249_42, x249_43, x249_46, x249_47, x249_48, x249_49, x249_51, x249_52, x249_54, x249_56, x249_57, x249_60, x249_62, x249_65, x249_66, x249_67, x249_68, x249_69, x249_71, x249_72, x249_75, x249_77, x249_80, x249_81, x249_84, x249_85, x249_87, x249_88, x249_92, x249_93, x249_96, x249_98, x249_101, x249_102, x249_103, x249_104, x249_106, x249_108, x249_111, x249_112, x249_113, x249_114, x249_115, x249_117, x249_120, x249_123, x249_124, x249_127, x249_128, x249_130, x249_133, x249_138, x249_141, x249_142, x249_145, x249_146, x249_148, x249_151, x249_154, x249_156, pj, pi, Kc_some, if_pos, if_neg, ↓reduceIte, not_true_eq_false, not_false_eq_true]
        exact i1' 0 (Or.inl rfl)
theorem sm_v {f g : Int → Int} {s : Int} (hs : s = 0 ∨ s = 1) : smF f g 3 0 s = if s = 1 ∧ f 0 = g 0 ∧ f 1 = g 1 ∧ f 2 = g 2 then 1 else 0 := by
  show (if (if (if s = 1 ∧ f 0 = g 0 then (1 : Int) else 0) = 1 ∧ f (0 + 1) = g (0 + 1) then (1 : Int) else 0) = 1 ∧ f (0 + 1 + 1) = g (0 + 1 + 1) then (1 : Int) else 0) = _
  rw [show (0 : Int) + 1 = 1 from rfl, show (1 : Int) + 1 = 2 from rfl]
  by_cases a : s = 1 ∧ f 0 = g 0
  · by_cases b : f 1 = g 1
    · by_cases c : f 2 = g 2
      · simp [a.1, a.2, b, c]
      · simp [a.1, a.2, b, c]
    · simp [a.1, a.2, b]
  · have : ¬ (s = 1 ∧ f 0 = g 0 ∧ f 1 = g 1 ∧ f 2 = g 2) := fun z => a ⟨z.1, z.2.1⟩
    rw [if_neg this, if_neg a]
    simp
theorem l_isNew {i : Int} {d : Nat} {u : Bool × Nat × Nat × Int} {Q : Rs → HS → Prop} (hd : 3 ≤ d) (W : WfM σ) (hg : gdB (σ 389)) (hc : atC σ h r 1 (σ 376 (30 * (10 * h + r) + 2))) (h1 : 0 ≤ h) (h2 : h ≤ 4) (r1 : 0 ≤ r) (r2 : r ≤ 9) (i0 : 0 ≤ i) (i1 : i < σ 376 (30 * (10 * h + r) + 2)) : ∀ (k : Nat) (j : Int) (l7 l8 : Option V), 0 ≤ j → j + k = i → notL l7 = true → (Ex sc d 249 54 [some (vR 373), some (vI h), some (vI r), some (vI i), some (vI (σ 376 (30 * (10 * h + r) + (3 + 4 * (3 * 1 + i))))), some (vI 1), some (vI j), l7, l8] [] (wH σ u) Q ↔ Q (.inl (some (vI (bI (decide (grA (cB (σ 389)) (atR σ h r 1 i) ∉ (atsF σ h r 1 k j).map (grA (cB (σ 389))))))))) (wH σ u)) := by
  have wr := W.rul h1 h2 r1 r2
  obtain ⟨ai, -⟩ := W.ato (s := 1) h1 h2 r1 r2 (by omega) (by omega) i0 (by omega)
  intro k
  induction k with
  | zero =>
    intro j l7 l8 j0 jk n7
    rw [x249_54, atsF, decide_eq_true (by simp), bI_t]
    simp (disch := first | omega | exact notL_I | exact notL_N | exact notL_R | exact oM | exact catS_le (Nat.le_of_ble_eq_true rfl) | exact Nat.le_of_ble_eq_true rfl | rfl) only [x249_0, x249_1, x249_2, x249_3, x249_4, x249_5, x249_6, x249_9, x249_11, x249_12, x249_13, x249_15, x249_16, x249_17, x249_18, x249_19, x249_20, x249_23, x249_24, x249_25, x249_26, x249_27, x249_28, x249_31, x249_32, x249_33, x249_34, x249_35, x249_36, x249_39, x249_42, x249_43, x249_46, x249_47, x249_48, x249_49, x249_51, x249_52, x249_56, x249_57, x249_60, x249_62, x249_65, x249_66, x249_67, x249_68, x249_69, x249_71, x249_72, x249_75, x249_77, x249_80, x249_81, x249_84, x249_85, x249_87, x249_88, x249_92, x249_93, x249_96, x249_98, x249_101, x249_102, x249_103, x249_104, x249_106, x249_108, x249_111, x249_112, x249_113, x249_114, x249_115, x249_117, x249_120, x249_123, x249_124, x249_127, x249_128, x249_130, x249_133, x249_138, x249_141, x249_142, x249_145, x249_146, x249_148, x249_151, x249_154, x249_156, if_pos, if_neg, ↓reduceIte, not_true_eq_false, not_false_eq_true]
  | succ k ih =>
    intro j l7 l8 j0 jk n7
    obtain ⟨aj, -⟩ := W.ato (s := 1) (i := j) h1 h2 r1 r2 (by omega) (by omega) j0 (by omega)
    have z0 : 3 + 4 * (3 * 1 + j) + 0 = 3 + 4 * (3 * 1 + j) := by omega
    have hgr := gr_eq (σ := σ) (i := i) (j := j) W h1 h2 r1 r2 i0 (by omega) j0 (by omega) (hc i i0 i1) (hc j j0 (by omega))
    have ls := fun s hs => l_same (sc := sc) (d := d) (σ := σ) (u := u) (Q := Q) (i := i) (j := j) (l4 := some (vI (σ 376 (30 * (10 * h + r) + (3 + 4 * (3 * 1 + i)))))) (l5 := some (vI 1)) hd W hg h1 h2 r1 r2 i0 (by omega) j0 (by omega) 3 0 s (by omega) (by omega) hs
    rw [atsF, List.map_cons]
    by_cases ht : σ 376 (30 * (10 * h + r) + (3 + 4 * (3 * 1 + j))) = σ 376 (30 * (10 * h + r) + (3 + 4 * (3 * 1 + i)))
    · have l1 := ls 1 (Or.inr rfl)
      rw [sm_v (Or.inr rfl)] at l1
      by_cases hs : pvM σ h r j 0 = pvM σ h r i 0 ∧ pvM σ h r j 1 = pvM σ h r i 1 ∧ pvM σ h r j 2 = pvM σ h r i 2
      · rw [if_pos ⟨rfl, hs⟩] at l1
        have heq := hgr.mpr ⟨ht, hs⟩
        rw [decide_eq_false (by rw [heq]; simp), bI_f, x249_54]
        simp (disch := first | omega | exact notL_I | exact notL_N | exact notL_R | exact oM | exact catS_le (Nat.le_of_ble_eq_true rfl) | exact Nat.le_of_ble_eq_true rfl | rfl) only [x249_0, x249_1, x249_2, x249_3, x249_4, x249_5, x249_6, x249_9, x249_11, x249_12, x249_13, x249_15, x249_16, x249_17, x249_18, x249_19, x249_20, x249_23, x249_24, x249_25, x249_26, x249_27, x249_28, x249_31, x249_32, x249_33, x249_34, x249_35, x249_36, x249_39, x249_42, x249_43, x249_46, x249_47, x249_48, x249_49, x249_51, x249_52, x249_56, x249_57, x249_60, x249_62, x249_65, x249_66, x249_67, x249_68, x249_69, x249_71, x249_72, x249_75, x249_77, x249_80, x249_81, x249_84, x249_85, x249_87, x249_88, x249_92, x249_93, x249_96, x249_98, x249_101, x249_102, x249_103, x249_104, x249_106, x249_108, x249_111, x249_112, x249_113, x249_114, x249_115, x249_117, x249_120, x249_123, x249_124, x249_127, x249_128, x249_130, x249_133, x249_138, x249_141, x249_142, x249_145, x249_146, x249_148, x249_151, x249_154, x249_156, s_atom, z0, ht, Kc_some, if_pos, if_neg, ↓reduceIte, not_true_eq_false, not_false_eq_true]
        rw [l1]
        simp (disch := first | omega | exact notL_I | exact notL_N | exact notL_R | exact oM | exact catS_le (Nat.le_of_ble_eq_true rfl) | exact Nat.le_of_ble_eq_true rfl | rfl) only [x249_0, x249_1, x249_2, x249_3, x249_4, x249_5, x249_6, x249_9, x249_11, x249_12, x249_13, x249_15, x249_16, x249_17, x249_18, x249_19, x249_20, x249_23, x249_24, x249_25, x249_26, x249_27, x249_28, x249_31, x249_32, x249_33, x249_34, x249_35, x249_36, x249_39, x249_42, x249_43, x249_46, x249_47, x249_48, x249_49, x249_51, x249_52, x249_56, x249_57, x249_60, x249_62, x249_65, x249_66, x249_67, x249_68, x249_69, x249_71, x249_72, x249_75, x249_77, x249_80, x249_81, x249_84, x249_85, x249_87, x249_88, x249_92, x249_93, x249_96, x249_98, x249_101, x249_102, x249_103, x249_104, x249_106, x249_108, x249_111, x249_112, x249_113, x249_114, x249_115, x249_117, x249_120, x249_123, x249_124, x249_127, x249_128, x249_130, x249_133, x249_136, x249_138, x249_141, x249_142, x249_145, x249_146, x249_148, x249_151, x249_154, x249_156, if_pos, if_neg, ↓reduceIte, not_true_eq_false, not_false_eq_true]
        rw [x249_54]
        by_cases hlast : j + 1 < i
        · simp (disch := first | omega | exact notL_I | exact notL_N | exact notL_R | exact oM | exact catS_le (Nat.le_of_ble_eq_true rfl) | exact Nat.le_of_ble_eq_true rfl | rfl) only [x249_0, x249_1, x249_2, x249_3, x249_4, x249_5, x249_6, x249_9, x249_11, x249_12, x249_13, x249_15, x249_16, x249_17, x249_18, x249_19, x249_20, x249_23, x249_24, x249_25, x249_26, x249_27, x249_28, x249_31, x249_32, x249_33, x249_34, x249_35, x249_36, x249_39, x249_42, x249_43, x249_46, x249_47, x249_48, x249_49, x249_51, x249_52, x249_56, x249_57, x249_60, x249_62, x249_65, x249_66, x249_67, x249_68, x249_69, x249_71, x249_72, x249_75, x249_77, x249_80, x249_81, x249_84, x249_85, x249_87, x249_88, x249_92, x249_93, x249_96, x249_98, x249_101, x249_102, x249_103, x249_104, x249_106, x249_108, x249_111, x249_112, x249_113, x249_114, x249_115, x249_117, x249_120, x249_123, x249_124, x249_127, x249_128, x249_130, x249_133, x249_138, x249_141, x249_142, x249_145, x249_146, x249_148, x249_151, x249_154, x249_156, if_pos, if_neg, ↓reduceIte, not_true_eq_false, not_false_eq_true]
        · simp (disch := first | omega | exact notL_I | exact notL_N | exact notL_R | exact oM | exact catS_le (Nat.le_of_ble_eq_true rfl) | exact Nat.le_of_ble_eq_true rfl | rfl) only [x249_0, x249_1, x249_2, x249_3, x249_4, x249_5, x249_6, x249_9, x249_11, x249_12, x249_13, x249_15, x249_16, x249_17, x249_18, x249_19, x249_20, x249_23, x249_24, x249_25, x249_26, x249_27, x249_28, x249_31, x249_32, x249_33, x249_34, x249_35, x249_36, x249_39, x249_42, x249_43, x249_46, x249_47, x249_48, x249_49, x249_51, x249_52, x249_56, x249_57, x249_60, x249_62, x249_65, x249_66, x249_67, x249_68, x249_69, x249_71, x249_72, x249_75, x249_77, x249_80, x249_81, x249_84, x249_85, x249_87, x249_88, x249_92, x249_93, x249_96, x249_98, x249_101, x249_102, x249_103, x249_104, x249_106, x249_108, x249_111, x249_112, x249_113, x249_114, x249_115, x249_117, x249_120, x249_123, x249_124, x249_127, x249_128, x249_130, x249_133, x249_138, x249_141, x249_142, x249_145, x249_146, x249_148, x249_151, x249_154, x249_156, if_pos, if_neg, ↓reduceIte, not_true_eq_false, not_false_eq_true]
      · rw [if_neg (fun z => hs z.2)] at l1
        have hne : grA (cB (σ 389)) (atR σ h r 1 j) ≠ grA (cB (σ 389)) (atR σ h r 1 i) := fun z => hs (hgr.mp z).2
        have ed : decide (grA (cB (σ 389)) (atR σ h r 1 i) ∉ grA (cB (σ 389)) (atR σ h r 1 j) :: (atsF σ h r 1 k (j + 1)).map (grA (cB (σ 389)))) = decide (grA (cB (σ 389)) (atR σ h r 1 i) ∉ (atsF σ h r 1 k (j + 1)).map (grA (cB (σ 389)))) := decide_eq_decide.mpr ⟨fun z y => z (List.mem_cons_of_mem _ y), fun z y => (List.mem_cons.mp y).elim (fun e => hne e.symm) z⟩
        rw [ed, x249_54]
        simp (disch := first | omega | exact notL_I | exact notL_N | exact notL_R | exact oM | exact catS_le (Nat.le_of_ble_eq_true rfl) | exact Nat.le_of_ble_eq_true rfl | rfl) only [x249_0, x249_1, x249_2, x249_3, x249_4, x249_5, x249_6, x249_9, x249_11, x249_12, x249_13, x249_15, x249_16, x249_17, x249_18, x249_19, x249_20, x249_23, x249_24, x249_25, x249_26, x249_27, x249_28, x249_31, x249_32, x249_33, x249_34, x249_35, x249_36, x249_39, x249_42, x249_43, x249_46, x249_47, x249_48, x249_49, x249_51, x249_52, x249_56, x249_57, x249_60, x249_62, x249_65, x249_66, x249_67, x249_68, x249_69, x249_71, x249_72, x249_75, x249_77, x249_80, x249_81, x249_84, x249_85, x249_87, x249_88, x249_92, x249_93, x249_96, x249_98, x249_101, x249_102, x249_103, x249_104, x249_106, x249_108, x249_111, x249_112, x249_113, x249_114, x249_115, x249_117, x249_120, x249_123, x249_124, x249_127, x249_128, x249_130, x249_133, x249_138, x249_141, x249_142, x249_145, x249_146, x249_148, x249_151, x249_154, x249_156, s_atom, z0, ht, Kc_some, if_pos, if_neg, ↓reduceIte, not_true_eq_false, not_false_eq_true]
        rw [l1]
        simp (disch := first | omega | exact notL_I | exact notL_N | exact notL_R | exact oM | exact catS_le (Nat.le_of_ble_eq_true rfl) | exact Nat.le_of_ble_eq_true rfl | rfl) only [x249_0, x249_1, x249_2, x249_3, x249_4, x249_5, x249_6, x249_9, x249_11, x249_12, x249_13, x249_15, x249_16, x249_17, x249_18, x249_19, x249_20, x249_23, x249_24, x249_25, x249_26, x249_27, x249_28, x249_31, x249_32, x249_33, x249_34, x249_35, x249_36, x249_39, x249_42, x249_43, x249_46, x249_47, x249_48, x249_49, x249_51, x249_52, x249_56, x249_57, x249_60, x249_62, x249_65, x249_66, x249_67, x249_68, x249_69, x249_71, x249_72, x249_75, x249_77, x249_80, x249_81, x249_84, x249_85, x249_87, x249_88, x249_92, x249_93, x249_96, x249_98, x249_101, x249_102, x249_103, x249_104, x249_106, x249_108, x249_111, x249_112, x249_113, x249_114, x249_115, x249_117, x249_120, x249_123, x249_124, x249_127, x249_128, x249_130, x249_133, x249_136, x249_138, x249_141, x249_142, x249_145, x249_146, x249_148, x249_151, x249_154, x249_156, if_pos, if_neg, ↓reduceIte, not_true_eq_false, not_false_eq_true]
        exact ih (j + 1) _ _ (by omega) (by omega) notL_I
    · have l1 := ls 0 (Or.inl rfl)
      rw [sm_v (Or.inl rfl), if_neg (by omega)] at l1
      have hne : grA (cB (σ 389)) (atR σ h r 1 j) ≠ grA (cB (σ 389)) (atR σ h r 1 i) := fun z => ht (hgr.mp z).1
      have ed : decide (grA (cB (σ 389)) (atR σ h r 1 i) ∉ grA (cB (σ 389)) (atR σ h r 1 j) :: (atsF σ h r 1 k (j + 1)).map (grA (cB (σ 389)))) = decide (grA (cB (σ 389)) (atR σ h r 1 i) ∉ (atsF σ h r 1 k (j + 1)).map (grA (cB (σ 389)))) := decide_eq_decide.mpr ⟨fun z y => z (List.mem_cons_of_mem _ y), fun z y => (List.mem_cons.mp y).elim (fun e => hne e.symm) z⟩
      rw [ed, x249_54]
      simp (disch := first | omega | exact notL_I | exact notL_N | exact notL_R | exact oM | exact catS_le (Nat.le_of_ble_eq_true rfl) | exact Nat.le_of_ble_eq_true rfl | rfl) only [x249_0, x249_1, x249_2, x249_3, x249_4, x249_5, x249_6, x249_9, x249_11, x249_12, x249_13, x249_15, x249_16, x249_17, x249_18, x249_19, x249_20, x249_23, x249_24, x249_25, x249_26, x249_27, x249_28, x249_31, x249_32, x249_33, x249_34, x249_35, x249_36, x249_39, x249_42, x249_43, x249_46, x249_47, x249_48, x249_49, x249_51, x249_52, x249_56, x249_57, x249_60, x249_62, x249_65, x249_66, x249_67, x249_68, x249_69, x249_71, x249_72, x249_75, x249_77, x249_80, x249_81, x249_84, x249_85, x249_87, x249_88, x249_92, x249_93, x249_96, x249_98, x249_101, x249_102, x249_103, x249_104, x249_106, x249_108, x249_111, x249_112, x249_113, x249_114, x249_115, x249_117, x249_120, x249_123, x249_124, x249_127, x249_128, x249_130, x249_133, x249_138, x249_141, x249_142, x249_145, x249_146, x249_148, x249_151, x249_154, x249_156, s_atom, z0, Kc_some, if_pos, if_neg, ↓reduceIte, not_true_eq_false, not_false_eq_true]
      rw [l1]
      simp (disch := first | omega | exact notL_I | exact notL_N | exact notL_R | exact oM | exact catS_le (Nat.le_of_ble_eq_true rfl) | exact Nat.le_of_ble_eq_true rfl | rfl) only [x249_0, x249_1, x249_2, x249_3, x249_4, x249_5, x249_6, x249_9, x249_11, x249_12, x249_13, x249_15, x249_16, x249_17, x249_18, x249_19, x249_20, x249_23, x249_24, x249_25, x249_26, x249_27, x249_28, x249_31, x249_32, x249_33, x249_34, x249_35, x249_36, x249_39, x249_42, x249_43, x249_46, x249_47, x249_48, x249_49, x249_51, x249_52, x249_56, x249_57, x249_60, x249_62, x249_65, x249_66, x249_67, x249_68, x249_69, x249_71, x249_72, x249_75, x249_77, x249_80, x249_81, x249_84, x249_85, x249_87, x249_88, x249_92, x249_93, x249_96, x249_98, x249_101, x249_102, x249_103, x249_104, x249_106, x249_108, x249_111, x249_112, x249_113, x249_114, x249_115, x249_117, x249_120, x249_123, x249_124, x249_127, x249_128, x249_130, x249_133, x249_136, x249_138, x249_141, x249_142, x249_145, x249_146, x249_148, x249_151, x249_154, x249_156, if_pos, if_neg, ↓reduceIte, not_true_eq_false, not_false_eq_true]
      exact ih (j + 1) _ _ (by omega) (by omega) notL_I
theorem s_isNewR {i : Int} {d : Nat} {u : Bool × Nat × Nat × Int} {Q : Rs → HS → Prop} (hd : 3 ≤ d) (W : WfM σ) (hg : gdB (σ 389)) (hc : atC σ h r 1 (σ 376 (30 * (10 * h + r) + 2))) (h1 : 0 ≤ h) (h2 : h ≤ 4) (r1 : 0 ≤ r) (r2 : r ≤ 9) (i0 : 0 ≤ i) (i1 : i < σ 376 (30 * (10 * h + r) + 2)) : Ex sc d 249 0 [some (vR 373), some (vI h), some (vI r), some (vI i), none, none, none, none, none] [] (wH σ u) Q ↔ Q (.inl (some (vI (bI (decide (findL (rsR σ h) (grA (cB (σ 389)) (atR σ h r 1 i)) = none ∧ grA (cB (σ 389)) (atR σ h r 1 i) ∉ (atsF σ h r 1 i.toNat 0).map (grA (cB (σ 389))))))))) (wH σ u) := by
  have wr := W.rul h1 h2 r1 r2
  obtain ⟨ai, -⟩ := W.ato (s := 1) h1 h2 r1 r2 (by omega) (by omega) i0 (by omega)
  have z0 : 3 + 4 * (3 * 1 + i) + 0 = 3 + 4 * (3 * 1 + i) := by omega
  have P := fun (c : Int) (c0 : 0 ≤ c) (c1 : c ≤ 2) u Q => s_placed (sc := sc) (σ := σ) (d := d - 1) (u := u) (Q := Q) (i := i) (c := c) (by omega) W h1 h2 r1 r2 i0 (by omega) c0 c1
  have V := fun (c : Int) (c0 : 0 ≤ c) (c1 : c ≤ 2) => pv_in (j := i) (c := c) W hg h1 h2 r1 r2 i0 (by omega) c0 c1
  have p0 : ∀ (u : Bool × Nat × Nat × Int) (Q : Rs → HS → Prop), Ex sc (d - 1) 250 0 [some (vR 373), some (vI h), some (vI r), some (vI i), some (vI 0)] [] (wH σ u) Q ↔ Q (.inl (some (vI (pvM σ h r i 0)))) (wH σ u) := P 0 (by omega) (by omega)
  have p1 : ∀ (u : Bool × Nat × Nat × Int) (Q : Rs → HS → Prop), Ex sc (d - 1) 250 0 [some (vR 373), some (vI h), some (vI r), some (vI i), some (vI 1)] [] (wH σ u) Q ↔ Q (.inl (some (vI (pvM σ h r i 1)))) (wH σ u) := P 1 (by omega) (by omega)
  have p2 : ∀ (u : Bool × Nat × Nat × Int) (Q : Rs → HS → Prop), Ex sc (d - 1) 250 0 [some (vR 373), some (vI h), some (vI r), some (vI i), some (vI 2)] [] (wH σ u) Q ↔ Q (.inl (some (vI (pvM σ h r i 2)))) (wH σ u) := P 2 (by omega) (by omega)
  have v0 := V 0 (by omega) (by omega)
  have v1 := V 1 (by omega) (by omega)
  have v2 := V 2 (by omega) (by omega)
  have fr := fun u Q => s_find (sc := sc) (σ := σ) (u := u) (Q := Q) (d := d - 1) (h := h) (t := σ 376 (30 * (10 * h + r) + (3 + 4 * (3 * 1 + i)))) (x := pvM σ h r i 0) (y := pvM σ h r i 1) (z := pvM σ h r i 2) W (by omega) h1 h2 ai.1 ai.2 ⟨by omega, by omega⟩ ⟨by omega, by omega⟩ ⟨by omega, by omega⟩
  rw [← gr_pv W h1 h2 r1 r2 i0 (by omega) (hc i i0 i1)] at fr
  cases hf : findL (rsR σ h) (grA (cB (σ 389)) (atR σ h r 1 i)) with
  | some w =>
    rw [hf] at fr
    have hw := rsR_num W h1 h2 (find_some hf).1
    have hv : numO (some w) = w.1 := rfl
    rw [decide_eq_false (by simp), bI_f]
    simp (disch := first | omega | exact notL_I | exact notL_N | exact notL_R | exact oM | exact catS_le (Nat.le_of_ble_eq_true rfl) | exact Nat.le_of_ble_eq_true rfl | rfl) only [x249_0, x249_1, x249_2, x249_3, x249_4, x249_5, x249_6, x249_9, x249_11, x249_12, x249_13, x249_15, x249_16, x249_17, x249_18, x249_19, x249_20, x249_23, x249_24, x249_25, x249_26, x249_27, x249_28, x249_31, x249_32, x249_33, x249_34, x249_35, x249_36, x249_39, x249_42, x249_43, x249_46, x249_47, x249_48, x249_49, x249_51, x249_52, x249_56, x249_57, x249_60, x249_62, x249_65, x249_66, x249_67, x249_68, x249_69, x249_71, x249_72, x249_75, x249_77, x249_80, x249_81, x249_84, x249_85, x249_87, x249_88, x249_92, x249_93, x249_96, x249_98, x249_101, x249_102, x249_103, x249_104, x249_106, x249_108, x249_111, x249_112, x249_113, x249_114, x249_115, x249_117, x249_120, x249_123, x249_124, x249_127, x249_128, x249_130, x249_133, x249_138, x249_141, x249_142, x249_145, x249_146, x249_148, x249_151, x249_154, x249_156, s_atom, z0, p0, p1, p2, fr, hv, Kc_some, if_pos, if_neg, ↓reduceIte, not_true_eq_false, not_false_eq_true]
  | none =>
    rw [hf] at fr
    have hv : numO none = -1 := rfl
    have li := l_isNew (sc := sc) (d := d) (u := u) (Q := Q) (σ := σ) (h := h) (r := r) (i := i) hd W hg hc h1 h2 r1 r2 i0 i1 i.toNat 0 none none (by omega) (by omega) notL_N
    simp only [true_and]
    refine Iff.trans ?_ li
    simp (disch := first | omega | exact notL_I | exact notL_N | exact notL_R | exact oM | exact catS_le (Nat.le_of_ble_eq_true rfl) | exact Nat.le_of_ble_eq_true rfl | rfl) only [x249_0, x249_1, x249_2, x249_3, x249_4, x249_5, x249_6, x249_9, x249_11, x249_12, x249_13, x249_15, x249_16, x249_17, x249_18, x249_19, x249_20, x249_23, x249_24, x249_25, x249_26, x249_27, x249_28, x249_31, x249_32, x249_33, x249_34, x249_35, x249_36, x249_39, x249_42, x249_43, x249_46, x249_47, x249_48, x249_49, x249_51, x249_52, x249_56, x249_57, x249_60, x249_62, x249_65, x249_66, x249_67, x249_68, x249_69, x249_71, x249_72, x249_75, x249_77, x249_80, x249_81, x249_84, x249_85, x249_87, x249_88, x249_92, x249_93, x249_96, x249_98, x249_101, x249_102, x249_103, x249_104, x249_106, x249_108, x249_111, x249_112, x249_113, x249_114, x249_115, x249_117, x249_120, x249_123, x249_124, x249_127, x249_128, x249_130, x249_133, x249_138, x249_141, x249_142, x249_145, x249_146, x249_148, x249_151, x249_154, x249_156, s_atom, z0, p0, p1, p2, fr, hv, Kc_some, if_pos, if_neg, ↓reduceIte, not_true_eq_false, not_false_eq_true]
end M6
