/-! the reference's constructor (wip/whole/gen16.py) -/
def moO (b : Nat) : Sh := (2, 12, 0, [(1, b + 1), (2, b + 2), (3, b + 3), (4, b + 4), (5, b + 5), (6, b + 6), (7, b + 7), (8, b + 8), (9, b + 9), (10, b + 10), (11, b + 11), (12, b + 12), (13, b + 13), (24, b + 14), (25, b + 15), (26, b + 16), (27, b + 17), (28, b + 18), (29, b + 19), (33, b + 20), (34, b + 21), (35, b + 22), (38, b + 23), (39, b + 24), (40, b + 25), (41, b + 26), (45, b + 27), (46, b + 28), (47, b + 29), (48, b + 30)])
def moT : List Sh := [(0, 0, 130, []), (0, 0, 5, []), (0, 0, 1500, []), (0, 0, 1000, []), (0, 0, 1000, []), (0, 0, 3000, []), (0, 0, 1000, []), (0, 0, 5, []), (0, 0, 5, []), (0, 0, 5, []), (0, 0, 5120, []), (0, 1, 500, []), (0, 0, 1000, []), (0, 0, 3, []), (0, 1, 100, []), (0, 0, 26, []), (0, 0, 3, []), (0, 0, 3, []), (0, 0, 234, []), (0, 0, 26, []), (0, 0, 100, []), (0, 0, 200, []), (0, 0, 100, []), (0, 1, 200, []), (0, 0, 4803, []), (0, 0, 3, []), (0, 1, 6084, []), (0, 1, 6084, []), (0, 0, 78, []), (0, 1, 6084, [])]
def moS (b : Nat) : List Sh := moO b :: moT
def moP (o : Nat) (j : Int) : Int := if o = 0 then (if j = 21 then -1 else 0) else if o = 7 then mP 1000 j else 0
section Mo
variable {sc : Scr} {d : Nat} {L : List Sh} {σ : St} {Q : Rs → HS → Prop}
theorem mg_1 {f : V → Prop} : Gf (bH (L ++ moS L.length) σ) 12 L.length 1 f = f (vR (L.length + 1)) := Gf_br (c := 12) (k := 1) rfl
theorem mw_1 {i x : Int} {f : HS → Prop} (h0 : 0 ≤ i) (h1 : i < 130) : Wa (bH (L ++ moS L.length) σ) 0 (L.length + 1) i x f = f (bH (L ++ moS L.length) (su σ (L.length + 1) i x)) := Wa_b (n := 130) (by unfold moS moT; simp [List.getD]) (by unfold moS moT; simp) (by decide) h0 h1
theorem mg_2 {f : V → Prop} : Gf (bH (L ++ moS L.length) σ) 12 L.length 2 f = f (vR (L.length + 2)) := Gf_br (c := 12) (k := 2) rfl
theorem mw_2 {i x : Int} {f : HS → Prop} (h0 : 0 ≤ i) (h1 : i < 5) : Wa (bH (L ++ moS L.length) σ) 0 (L.length + 2) i x f = f (bH (L ++ moS L.length) (su σ (L.length + 2) i x)) := Wa_b (n := 5) (by unfold moS moT; simp [List.getD]) (by unfold moS moT; simp) (by decide) h0 h1
theorem mg_4 {f : V → Prop} : Gf (bH (L ++ moS L.length) σ) 12 L.length 4 f = f (vR (L.length + 4)) := Gf_br (c := 12) (k := 4) rfl
theorem mw_4 {i x : Int} {f : HS → Prop} (h0 : 0 ≤ i) (h1 : i < 1000) : Wa (bH (L ++ moS L.length) σ) 0 (L.length + 4) i x f = f (bH (L ++ moS L.length) (su σ (L.length + 4) i x)) := Wa_b (n := 1000) (by unfold moS moT; simp [List.getD]) (by unfold moS moT; simp) (by decide) h0 h1
theorem mg_7 {f : V → Prop} : Gf (bH (L ++ moS L.length) σ) 12 L.length 7 f = f (vR (L.length + 7)) := Gf_br (c := 12) (k := 7) rfl
theorem mw_7 {i x : Int} {f : HS → Prop} (h0 : 0 ≤ i) (h1 : i < 1000) : Wa (bH (L ++ moS L.length) σ) 0 (L.length + 7) i x f = f (bH (L ++ moS L.length) (su σ (L.length + 7) i x)) := Wa_b (n := 1000) (by unfold moS moT; simp [List.getD]) (by unfold moS moT; simp) (by decide) h0 h1
theorem mg_12 {f : V → Prop} : Gf (bH (L ++ moS L.length) σ) 12 L.length 12 f = f (vR (L.length + 12)) := Gf_br (c := 12) (k := 12) rfl
theorem mw_12 {i x : Int} {f : HS → Prop} (h0 : 0 ≤ i) (h1 : i < 500) : Wa (bH (L ++ moS L.length) σ) 1 (L.length + 12) i x f = f (bH (L ++ moS L.length) (su σ (L.length + 12) i x)) := Wa_b (n := 500) (by unfold moS moT; simp [List.getD]) (by unfold moS moT; simp) (by decide) h0 h1
theorem mg_8 {f : V → Prop} : Gf (bH (L ++ moS L.length) σ) 12 L.length 8 f = f (vR (L.length + 8)) := Gf_br (c := 12) (k := 8) rfl
theorem mw_8 {i x : Int} {f : HS → Prop} (h0 : 0 ≤ i) (h1 : i < 5) : Wa (bH (L ++ moS L.length) σ) 0 (L.length + 8) i x f = f (bH (L ++ moS L.length) (su σ (L.length + 8) i x)) := Wa_b (n := 5) (by unfold moS moT; simp [List.getD]) (by unfold moS moT; simp) (by decide) h0 h1
theorem mg_9 {f : V → Prop} : Gf (bH (L ++ moS L.length) σ) 12 L.length 9 f = f (vR (L.length + 9)) := Gf_br (c := 12) (k := 9) rfl
theorem mw_9 {i x : Int} {f : HS → Prop} (h0 : 0 ≤ i) (h1 : i < 5) : Wa (bH (L ++ moS L.length) σ) 0 (L.length + 9) i x f = f (bH (L ++ moS L.length) (su σ (L.length + 9) i x)) := Wa_b (n := 5) (by unfold moS moT; simp [List.getD]) (by unfold moS moT; simp) (by decide) h0 h1
theorem mg_10 {f : V → Prop} : Gf (bH (L ++ moS L.length) σ) 12 L.length 10 f = f (vR (L.length + 10)) := Gf_br (c := 12) (k := 10) rfl
theorem mw_10 {i x : Int} {f : HS → Prop} (h0 : 0 ≤ i) (h1 : i < 5) : Wa (bH (L ++ moS L.length) σ) 0 (L.length + 10) i x f = f (bH (L ++ moS L.length) (su σ (L.length + 10) i x)) := Wa_b (n := 5) (by unfold moS moT; simp [List.getD]) (by unfold moS moT; simp) (by decide) h0 h1
theorem oMo : isObj (bH (L ++ moS L.length) σ) 12 (vR L.length) = true := oB (c := 12) (m := 0)
/-- a hall of the reference, emptied while all are empty -/
theorem l_em1 {h : Int} (h1 : 0 ≤ h) (h2 : h ≤ 4) (hz4 : σ (L.length + 4) = z0) : ∀ (k : Nat) (i : Int), 0 ≤ i → i + k = 200 →
    (Ex sc d 176 2 [some (vR L.length), some (vI h), some (vI i)] [] (bH (L ++ moS L.length) (fl σ (L.length + 7) (200 * h) (200 * h + i) (-1))) Q ↔ Ex sc d 176 41 [some (vR L.length), some (vI h), some (vI 200)] [] (bH (L ++ moS L.length) (fl σ (L.length + 7) (200 * h) (200 * h + 200) (-1))) Q) := by
  intro k
  induction k with
  | zero =>
    intro i i0 ik
    obtain rfl : i = 200 := by omega
    rw [x176_2]
    simp (disch := first | omega | exact notL_I | exact notL_N | exact notL_R | exact oM | exact catS_le (Nat.le_of_ble_eq_true rfl) | exact Nat.le_of_ble_eq_true rfl | rfl) only [x176_0, x176_1, x176_3, x176_6, x176_9, x176_10, x176_13, x176_16, x176_17, x176_18, x176_19, x176_20, x176_21, x176_22, x176_23, x176_26, x176_29, x176_30, x176_31, x176_32, x176_33, x176_34, x176_35, x176_38, x176_42, x176_43, x176_44, x176_46, x176_49, x176_50, x176_53, x176_55, x176_56, x176_57, x176_58, x176_59, x176_60, x176_61, x176_64, x176_67, x176_68, x176_71, x176_72, x176_73, x176_74, x176_75, x176_78, x176_79, x176_80, x176_81, x176_82, x176_85, x176_86, x176_87, x176_88, if_pos, if_neg, ↓reduceIte, not_true_eq_false, not_false_eq_true]
  | succ k ih =>
    intro i i0 ik
    have hz5 : fl σ (L.length + 7) (200 * h) (200 * h + i) (-1) (L.length + 4) = z0 := by rw [fl_ne (by omega)]; exact hz4
    have sz := su_z (i := 200 * h + i) hz5
    rw [x176_2]
    simp (disch := first | omega | exact notL_I | exact notL_N | exact notL_R | exact oM | exact catS_le (Nat.le_of_ble_eq_true rfl) | exact Nat.le_of_ble_eq_true rfl | rfl) only [x176_0, x176_1, x176_3, x176_6, x176_9, x176_10, x176_13, x176_16, x176_17, x176_18, x176_19, x176_20, x176_21, x176_22, x176_23, x176_26, x176_29, x176_30, x176_31, x176_32, x176_33, x176_34, x176_35, x176_38, x176_42, x176_43, x176_44, x176_46, x176_49, x176_50, x176_53, x176_55, x176_56, x176_57, x176_58, x176_59, x176_60, x176_61, x176_64, x176_67, x176_68, x176_71, x176_72, x176_73, x176_74, x176_75, x176_78, x176_79, x176_80, x176_81, x176_82, x176_85, x176_86, x176_87, x176_88, mg_4, mg_7, mw_4, mw_7, sz, fl_su, if_pos, if_neg, ↓reduceIte, not_true_eq_false, not_false_eq_true]
    rw [Int.add_assoc]
    exact ih (i + 1) (by omega) (by omega)
theorem l_em2 {h : Int} (h1 : 0 ≤ h) (h2 : h ≤ 4) (hz : ∀ o, o ≠ 7 → 1 ≤ o → o ≤ 30 → σ (L.length + o) = z0) : ∀ (k : Nat) (i : Int), 0 ≤ i → i + k = 100 →
    (Ex sc d 176 43 [some (vR L.length), some (vI h), some (vI i)] [] (bH (L ++ moS L.length) σ) Q ↔ Q (.inl none) (bH (L ++ moS L.length) σ)) := by
  have y8 := fun i => su_z (i := i) (hz 8 (by omega) (by omega) (by omega))
  have y9 := fun i => su_z (i := i) (hz 9 (by omega) (by omega) (by omega))
  have ya := fun i => su_z (i := i) (hz 10 (by omega) (by omega) (by omega))
  have yc := fun i => su_z (i := i) (hz 12 (by omega) (by omega) (by omega))
  intro k
  induction k with
  | zero =>
    intro i i0 ik
    obtain rfl : i = 100 := by omega
    rw [x176_43]
    simp (disch := first | omega | exact notL_I | exact notL_N | exact notL_R | exact oM | exact catS_le (Nat.le_of_ble_eq_true rfl) | exact Nat.le_of_ble_eq_true rfl | rfl) only [x176_0, x176_1, x176_2, x176_3, x176_6, x176_9, x176_10, x176_13, x176_16, x176_17, x176_18, x176_19, x176_20, x176_21, x176_22, x176_23, x176_26, x176_29, x176_30, x176_31, x176_32, x176_33, x176_34, x176_35, x176_38, x176_41, x176_42, x176_44, x176_46, x176_49, x176_50, x176_53, x176_55, x176_56, x176_57, x176_58, x176_59, x176_60, x176_61, x176_64, x176_67, x176_68, x176_71, x176_72, x176_73, x176_74, x176_75, x176_78, x176_79, x176_80, x176_81, x176_82, x176_85, x176_86, x176_87, x176_88, mg_8, mg_9, mg_10, mw_8, mw_9, mw_10, y8, y9, ya, if_pos, if_neg, ↓reduceIte, not_true_eq_false, not_false_eq_true]
  | succ k ih =>
    intro i i0 ik
    rw [x176_43]
    simp (disch := first | omega | exact notL_I | exact notL_N | exact notL_R | exact oM | exact catS_le (Nat.le_of_ble_eq_true rfl) | exact Nat.le_of_ble_eq_true rfl | rfl) only [x176_0, x176_1, x176_2, x176_3, x176_6, x176_9, x176_10, x176_13, x176_16, x176_17, x176_18, x176_19, x176_20, x176_21, x176_22, x176_23, x176_26, x176_29, x176_30, x176_31, x176_32, x176_33, x176_34, x176_35, x176_38, x176_41, x176_42, x176_44, x176_46, x176_49, x176_50, x176_53, x176_55, x176_56, x176_57, x176_58, x176_59, x176_60, x176_61, x176_64, x176_67, x176_68, x176_71, x176_72, x176_73, x176_74, x176_75, x176_78, x176_79, x176_80, x176_81, x176_82, x176_85, x176_86, x176_87, x176_88, mg_12, mw_12, yc, if_pos, if_neg, ↓reduceIte, not_true_eq_false, not_false_eq_true]
    exact ih (i + 1) (by omega) (by omega)
theorem l_cl {h : Int} (h1 : 0 ≤ h) (h2 : h ≤ 4) (hz1 : σ (L.length + 1) = z0) : ∀ (k : Nat) (i : Int), 0 ≤ i → i + k = 26 →
    (Ex sc d 175 2 [some (vR L.length), some (vI h), some (vI i)] [] (bH (L ++ moS L.length) σ) Q ↔ Ex sc d 175 26 [some (vR L.length), some (vI h), some (vI 26)] [] (bH (L ++ moS L.length) σ) Q) := by
  have y1 := fun i => su_z (i := i) hz1
  intro k
  induction k with
  | zero =>
    intro i i0 ik
    obtain rfl : i = 26 := by omega
    rw [x175_2]
    simp (disch := first | omega | exact notL_I | exact notL_N | exact notL_R | exact oM | exact catS_le (Nat.le_of_ble_eq_true rfl) | exact Nat.le_of_ble_eq_true rfl | rfl) only [x175_0, x175_1, x175_3, x175_5, x175_8, x175_9, x175_12, x175_14, x175_15, x175_16, x175_17, x175_18, x175_19, x175_20, x175_23, x175_27, x175_30, x175_31, x175_32, x175_33, x175_34, x175_35, x175_38, if_pos, if_neg, ↓reduceIte, not_true_eq_false, not_false_eq_true]
  | succ k ih =>
    intro i i0 ik
    rw [x175_2]
    simp (disch := first | omega | exact notL_I | exact notL_N | exact notL_R | exact oM | exact catS_le (Nat.le_of_ble_eq_true rfl) | exact Nat.le_of_ble_eq_true rfl | rfl) only [x175_0, x175_1, x175_3, x175_5, x175_8, x175_9, x175_12, x175_14, x175_15, x175_16, x175_17, x175_18, x175_19, x175_20, x175_23, x175_27, x175_30, x175_31, x175_32, x175_33, x175_34, x175_35, x175_38, mg_1, mw_1, y1, if_pos, if_neg, ↓reduceIte, not_true_eq_false, not_false_eq_true]
    exact ih (i + 1) (by omega) (by omega)
theorem k_clear {h : Int} (hd : 1 ≤ d) (h1 : 0 ≤ h) (h2 : h ≤ 4) (hz : ∀ o, o ≠ 7 → 1 ≤ o → o ≤ 30 → σ (L.length + o) = z0) : Ex sc d 175 0 [some (vR L.length), some (vI h), none] [] (bH (L ++ moS L.length) σ) Q ↔ Q (.inl none) (bH (L ++ moS L.length) (fl σ (L.length + 7) (200 * h) (200 * h + 200) (-1))) := by
  have a1 := fun (Q : Rs → HS → Prop) => l_cl (sc := sc) (d := d) (L := L) (σ := σ) (Q := Q) h1 h2 (hz 1 (by omega) (by omega) (by omega)) 26 0 (by omega) (by omega)
  have a2 := fun (Q : Rs → HS → Prop) => l_em1 (sc := sc) (d := d - 1) (L := L) (σ := σ) (Q := Q) h1 h2 (hz 4 (by omega) (by omega) (by omega)) 200 0 (by omega) (by omega)
  rw [Int.add_zero, fl_0] at a2
  have a3 := fun (Q : Rs → HS → Prop) => l_em2 (sc := sc) (d := d - 1) (L := L) (σ := fl σ (L.length + 7) (200 * h) (200 * h + 200) (-1)) (Q := Q) h1 h2 (fun o a b c => by rw [fl_ne (by omega)]; exact hz o a b c) 100 0 (by omega) (by omega)
  have em : ∀ (Q : Rs → HS → Prop), Ex sc (d - 1) 176 0 [some (vR L.length), some (vI h), none] [] (bH (L ++ moS L.length) σ) Q ↔ Q (.inl none) (bH (L ++ moS L.length) (fl σ (L.length + 7) (200 * h) (200 * h + 200) (-1))) := by
    intro Q
    rw [← a3 Q]
    refine Iff.trans ?_ ((a2 Q).trans ?_)
    · simp (disch := first | omega | exact notL_I | exact notL_N | exact notL_R | exact oM | exact catS_le (Nat.le_of_ble_eq_true rfl) | exact Nat.le_of_ble_eq_true rfl | rfl) only [x176_0, x176_1]
    · simp (disch := first | omega | exact notL_I | exact notL_N | exact notL_R | exact oM | exact catS_le (Nat.le_of_ble_eq_true rfl) | exact Nat.le_of_ble_eq_true rfl | rfl) only [x176_41, x176_42]
  have y2 := fun i => su_z (i := i) (hz 2 (by omega) (by omega) (by omega))
  refine Iff.trans ?_ ((a1 Q).trans ?_)
  · simp (disch := first | omega | exact notL_I | exact notL_N | exact notL_R | exact oM | exact catS_le (Nat.le_of_ble_eq_true rfl) | exact Nat.le_of_ble_eq_true rfl | rfl) only [x175_0, x175_1]
  · rw [x175_26]
    simp (disch := first | omega | exact notL_I | exact notL_N | exact notL_R | exact oMo | exact catS_le (Nat.le_of_ble_eq_true rfl) | exact Nat.le_of_ble_eq_true rfl | rfl) only [x175_0, x175_1, x175_3, x175_5, x175_8, x175_9, x175_12, x175_14, x175_15, x175_16, x175_17, x175_18, x175_19, x175_20, x175_23, x175_27, x175_30, x175_31, x175_32, x175_33, x175_34, x175_35, x175_38, mg_2, mw_2, y2, em, Kc_none, if_pos, if_neg, ↓reduceIte, not_true_eq_false, not_false_eq_true]
theorem l_moB (hd : 2 ≤ d) (hz : ∀ o, 1 ≤ o → o ≤ 30 → σ (L.length + o) = z0) : ∀ (k i : Nat), i + k = 5 →
    (Ex sc d 174 259 [some (vR L.length), some (vI (i : Int))] [] (bH (L ++ moS L.length) (fl σ (L.length + 7) 0 (200 * (i : Int)) (-1))) Q ↔ Q (.inl none) (bH (L ++ moS L.length) (fl σ (L.length + 7) 0 1000 (-1)))) := by
  intro k
  induction k with
  | zero =>
    intro i ik
    have hi : i = 5 := by omega
    subst hi
    rw [x174_259]
    simp (disch := first | omega | exact notL_I | exact notL_N | exact notL_R | exact oM | exact catS_le (Nat.le_of_ble_eq_true rfl) | exact Nat.le_of_ble_eq_true rfl | rfl) only [x174_0, x174_1, x174_4, x174_5, x174_8, x174_10, x174_13, x174_14, x174_15, x174_17, x174_20, x174_21, x174_24, x174_26, x174_29, x174_30, x174_33, x174_35, x174_38, x174_39, x174_42, x174_44, x174_47, x174_48, x174_51, x174_53, x174_56, x174_57, x174_60, x174_62, x174_65, x174_66, x174_67, x174_69, x174_72, x174_73, x174_74, x174_76, x174_79, x174_80, x174_81, x174_83, x174_86, x174_87, x174_90, x174_92, x174_95, x174_96, x174_99, x174_101, x174_104, x174_105, x174_108, x174_110, x174_113, x174_114, x174_115, x174_118, x174_119, x174_120, x174_122, x174_125, x174_126, x174_128, x174_130, x174_133, x174_134, x174_136, x174_138, x174_141, x174_142, x174_143, x174_145, x174_148, x174_149, x174_150, x174_152, x174_155, x174_156, x174_159, x174_161, x174_164, x174_165, x174_167, x174_169, x174_172, x174_173, x174_175, x174_177, x174_180, x174_181, x174_184, x174_186, x174_189, x174_190, x174_192, x174_194, x174_197, x174_198, x174_201, x174_203, x174_206, x174_207, x174_210, x174_212, x174_215, x174_216, x174_217, x174_219, x174_222, x174_223, x174_226, x174_228, x174_231, x174_232, x174_235, x174_237, x174_240, x174_241, x174_243, x174_245, x174_248, x174_249, x174_252, x174_254, x174_257, x174_258, x174_260, x174_261, x174_264, x174_265, x174_266, x174_269, x174_272, x174_275, if_pos, if_neg, ↓reduceIte, not_true_eq_false, not_false_eq_true]
    exact Iff.rfl
  | succ k ih =>
    intro i ik
    have h := ih (i + 1) (by omega)
    rw [show ((i + 1 : Nat) : Int) = (i : Int) + 1 by omega] at h
    have kc := fun (Q : Rs → HS → Prop) => k_clear (sc := sc) (d := d - 1) (L := L) (σ := fl σ (L.length + 7) 0 (200 * (i : Int)) (-1)) (Q := Q) (h := (i : Int)) (by omega) (by omega) (by omega) (fun o a b c => by rw [fl_ne (by omega)]; exact hz o b c)
    have e : fl (fl σ (L.length + 7) 0 (200 * (i : Int)) (-1)) (L.length + 7) (200 * (i : Int)) (200 * (i : Int) + 200) (-1) = fl σ (L.length + 7) 0 (200 * ((i : Int) + 1)) (-1) := by
      funext id j
      by_cases h1 : id = L.length + 7
      · subst h1
        rw [fl_at, fl_at, fl_at]
        by_cases h2 : 200 * (i : Int) ≤ j ∧ j < 200 * (i : Int) + 200
        · rw [if_pos h2, if_pos (by omega)]
        · rw [if_neg h2]
          by_cases h3 : 0 ≤ j ∧ j < 200 * (i : Int)
          · rw [if_pos h3, if_pos (by omega)]
          · rw [if_neg h3, if_neg (by omega)]
      · rw [fl_ne h1, fl_ne h1, fl_ne h1]
    rw [e] at kc
    rw [x174_259]
    simp (disch := first | omega | exact notL_I | exact notL_N | exact notL_R | exact oMo | exact catS_le (Nat.le_of_ble_eq_true rfl) | exact Nat.le_of_ble_eq_true rfl | rfl) only [x174_0, x174_1, x174_4, x174_5, x174_8, x174_10, x174_13, x174_14, x174_15, x174_17, x174_20, x174_21, x174_24, x174_26, x174_29, x174_30, x174_33, x174_35, x174_38, x174_39, x174_42, x174_44, x174_47, x174_48, x174_51, x174_53, x174_56, x174_57, x174_60, x174_62, x174_65, x174_66, x174_67, x174_69, x174_72, x174_73, x174_74, x174_76, x174_79, x174_80, x174_81, x174_83, x174_86, x174_87, x174_90, x174_92, x174_95, x174_96, x174_99, x174_101, x174_104, x174_105, x174_108, x174_110, x174_113, x174_114, x174_115, x174_118, x174_119, x174_120, x174_122, x174_125, x174_126, x174_128, x174_130, x174_133, x174_134, x174_136, x174_138, x174_141, x174_142, x174_143, x174_145, x174_148, x174_149, x174_150, x174_152, x174_155, x174_156, x174_159, x174_161, x174_164, x174_165, x174_167, x174_169, x174_172, x174_173, x174_175, x174_177, x174_180, x174_181, x174_184, x174_186, x174_189, x174_190, x174_192, x174_194, x174_197, x174_198, x174_201, x174_203, x174_206, x174_207, x174_210, x174_212, x174_215, x174_216, x174_217, x174_219, x174_222, x174_223, x174_226, x174_228, x174_231, x174_232, x174_235, x174_237, x174_240, x174_241, x174_243, x174_245, x174_248, x174_249, x174_252, x174_254, x174_257, x174_258, x174_260, x174_261, x174_264, x174_265, x174_266, x174_269, x174_272, x174_275, kc, Kc_none, if_pos, if_neg, ↓reduceIte, not_true_eq_false, not_false_eq_true]
    exact h
set_option maxRecDepth 20000 in
theorem k_mo (hd : 2 ≤ d) : Ct sc d 174 12 [none] 31 moS moP := by
  refine ⟨fun _ => rfl, fun L σ Q hz => ?_⟩
  have hz1 : ∀ id, L.length + 1 ≤ id → ∀ {k x : Int}, su σ L.length k x id = z0 := fun id h {k x} => by rw [su_ne (by omega)]; exact hz id (by omega)
  have e : wn σ L.length 31 moP = fl (su σ L.length 21 (-1)) (L.length + 7) 0 1000 (-1) := by
    funext id j
    unfold wn
    by_cases h2 : id = L.length + 7
    · subst h2
      rw [if_pos (by omega), fl_at, show L.length + 7 - L.length = 7 by omega, su_ne (by omega), hz _ (by omega)]
      rfl
    · rw [fl_ne h2]
      by_cases h1 : id = L.length
      · subst h1
        rw [if_pos (by omega), Nat.sub_self, su_at, hz _ (Nat.le_refl _)]
        rfl
      · rw [su_ne h1]
        by_cases h3 : L.length ≤ id ∧ id < L.length + 31
        · rw [if_pos h3, hz id h3.1]
          show (if id - L.length = 0 then _ else if id - L.length = 7 then _ else (0 : Int)) = 0
          rw [if_neg (by omega), if_neg (by omega)]
        · rw [if_neg h3]
  have lp := l_moB (sc := sc) (d := d) (L := L) (σ := su σ L.length 21 (-1)) (Q := Q) hd (fun o a b => hz1 _ (by omega)) 5 0 (by omega)
  rw [show (200 * ((0 : Nat) : Int)) = 0 from rfl, fl_0] at lp
  rw [e]
  refine Iff.trans ?_ lp
  simp (disch := first | decide | rfl | assumption | exact hz _ (by omega) | omega | exact hz1 _ (by omega) | (rw [su_ne (by omega)]; exact hz1 _ (by omega)) | (intro id hid; exact hz id (by omega)) | (intro id hid; exact hz1 id (by omega)) | (intro id hid; rw [su_ne (by omega)]; exact hz1 id (by omega)) | (intro id hid hid2; exact hz id (by omega)) | (intro id hid hid2; exact hz1 id (by omega)) | (intro id hid hid2; rw [su_ne (by omega)]; exact hz1 id (by omega)) | exact ho _ | exact oBn | exact oB | exact notL_I | exact notL_N | exact notL_R | exact catS_le (Nat.le_of_ble_eq_true rfl) | exact Nat.le_of_ble_eq_true rfl | (refine id ?_; simp only [lk2, List.nil_append, List.cons_append, Option.isSome]; done)) only [x174_0, x174_1, x174_4, x174_5, x174_8, x174_10, x174_13, x174_14, x174_15, x174_17, x174_20, x174_21, x174_24, x174_26, x174_29, x174_30, x174_33, x174_35, x174_38, x174_39, x174_42, x174_44, x174_47, x174_48, x174_51, x174_53, x174_56, x174_57, x174_60, x174_62, x174_65, x174_66, x174_67, x174_69, x174_72, x174_73, x174_74, x174_76, x174_79, x174_80, x174_81, x174_83, x174_86, x174_87, x174_90, x174_92, x174_95, x174_96, x174_99, x174_101, x174_104, x174_105, x174_108, x174_110, x174_113, x174_114, x174_115, x174_118, x174_119, x174_120, x174_122, x174_125, x174_126, x174_128, x174_130, x174_133, x174_134, x174_136, x174_138, x174_141, x174_142, x174_143, x174_145, x174_148, x174_149, x174_150, x174_152, x174_155, x174_156, x174_159, x174_161, x174_164, x174_165, x174_167, x174_169, x174_172, x174_173, x174_175, x174_177, x174_180, x174_181, x174_184, x174_186, x174_189, x174_190, x174_192, x174_194, x174_197, x174_198, x174_201, x174_203, x174_206, x174_207, x174_210, x174_212, x174_215, x174_216, x174_217, x174_219, x174_222, x174_223, x174_226, x174_228, x174_231, x174_232, x174_235, x174_237, x174_240, x174_241, x174_243, x174_245, x174_248, x174_249, x174_252, x174_254, x174_257, x174_258, x174_260, x174_261, x174_264, x174_265, x174_266, x174_269, x174_272, x174_275, Pf_bi, Nw_a, Pf_br]
  exact Iff.rfl
end Mo
