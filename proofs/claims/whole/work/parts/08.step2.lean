/-! arithmetic, branches, cells -/
section Sd2
variable {p : Program} {l : Launch} {e : Env} {R : Room} {s : State} {m : MethodId} {args : Array Value} {below : List Frame} {meth : Method} {c : Code} {H : Heap} {locs : List Loc} {cells slots : Nat} {Q : State → Prop} {D : va_G} {B : Nat} {sa : Nat → Nat} {ca : Nat → ClassId} {sc : Scr} {Z : State → Prop} {y pc x nx : Nat} {ls : Array Slot} {rest : List Value}
/-- instructions that are the machine's own, one byte long -/
theorem sd_one {i : Instr} (h : cd y pc = some (i, x, nx)) (hi : ∀ r n, okR y pc (i, x, nx) r n = (nx == pc + n && (decide (r = i) && n == 1))) : decode (mCode y) pc = .ok (i, 1) ∧ nx = pc + 1 := by
  obtain ⟨r, n, hd, ho⟩ := dec_of h
  rw [hi] at ho
  simp only [Bool.and_eq_true, beq_iff_eq, decide_eq_true_eq] at ho
  obtain ⟨rfl, rfl, rfl⟩ := ho
  exact ⟨hd, rfl⟩
theorem sd_jump {i : Instr} {o : Int} (h : cd y pc = some (i, x, nx)) (hi : ∀ r n, okR y pc (i, x, nx) r n = (nx == pc + n && (decide (r = i) && n == 3 && (pc : Int) + o == (x : Int)))) : decode (mCode y) pc = .ok (i, 3) ∧ nx = pc + 3 ∧ (pc : Int) + o = (x : Int) := by
  obtain ⟨r, n, hd, ho⟩ := dec_of h
  rw [hi] at ho
  simp only [Bool.and_eq_true, beq_iff_eq, decide_eq_true_eq] at ho
  obtain ⟨rfl, ⟨rfl, rfl⟩, h3⟩ := ho
  exact ⟨hd, rfl, h3⟩
theorem sd_icmp (X : Cx p s m args meth c D B sa ca sc Z y) {k : ClassFile.Cond} {o : Int} {a b : Int} (h : cd y pc = some (.if_icmp k o, x, nx)) (ha : inR a) (hb : inR b)
    (kk : W p l e R s m args below meth c H locs cells slots Q (F0 m (if cmpI k a b then x else nx) ls rest)) : W p l e R s m args below meth c H locs cells slots Q (F0 m pc ls (.int (Int32.ofInt b) :: .int (Int32.ofInt a) :: rest)) := by
  obtain ⟨hd, rfl, ht⟩ := sd_jump (o := o) h (fun r n => rfl)
  have ea := i32_id ha
  have eb := i32_id hb
  cases k
  · refine lv_icmp_eq X.1 X.2.1 hd ht (fun q => ?_) (fun q => ?_)
    · have : a = b := by rw [← ea, ← eb, q]
      rwa [if_pos (by simp [cmpI, this])] at kk
    · have : ¬ a = b := fun z => q (by rw [z])
      rwa [if_neg (by simp [cmpI, this])] at kk
  · refine lv_icmp_ne X.1 X.2.1 hd ht (fun q => ?_) (fun q => ?_)
    · have : ¬ a = b := fun z => q (by rw [z])
      rwa [if_pos (by simp [cmpI, this])] at kk
    · have q2 := q
      have : a = b := by rw [← ea, ← eb, q2]
      rwa [if_neg (by simp [cmpI, this])] at kk
  · refine lv_icmp_lt X.1 X.2.1 hd ht (fun q => ?_) (fun q => ?_)
    · have : a < b := by rw [← ea, ← eb]; exact Int32.lt_iff_toInt_lt.mp q
      rwa [if_pos (by simp [cmpI, this])] at kk
    · have : ¬ a < b := fun z => q (Int32.lt_iff_toInt_lt.mpr (by rw [ea, eb]; exact z))
      rwa [if_neg (by simp [cmpI]; omega)] at kk
  · refine lv_icmp_ge X.1 X.2.1 hd ht (fun q => ?_) (fun q => ?_)
    · have : b ≤ a := by rw [← ea, ← eb]; exact Int32.le_iff_toInt_le.mp q
      rwa [if_pos (by simp [cmpI, this])] at kk
    · have : ¬ b ≤ a := fun z => q (Int32.le_iff_toInt_le.mpr (by rw [ea, eb]; exact z))
      rwa [if_neg (by simp [cmpI]; omega)] at kk
  · refine lv_icmp_gt X.1 X.2.1 hd ht (fun q => ?_) (fun q => ?_)
    · have : b < a := by rw [← ea, ← eb]; exact Int32.lt_iff_toInt_lt.mp q
      rwa [if_pos (by simp [cmpI, this])] at kk
    · have : ¬ b < a := fun z => q (Int32.lt_iff_toInt_lt.mpr (by rw [ea, eb]; exact z))
      rwa [if_neg (by simp [cmpI]; omega)] at kk
  · refine lv_icmp_le X.1 X.2.1 hd ht (fun q => ?_) (fun q => ?_)
    · have : a ≤ b := by rw [← ea, ← eb]; exact Int32.le_iff_toInt_le.mp q
      rwa [if_pos (by simp [cmpI, this])] at kk
    · have : ¬ a ≤ b := fun z => q (Int32.le_iff_toInt_le.mpr (by rw [ea, eb]; exact z))
      rwa [if_neg (by simp [cmpI]; omega)] at kk
theorem sd_if (X : Cx p s m args meth c D B sa ca sc Z y) {k : ClassFile.Cond} {o : Int} {a : Int} (h : cd y pc = some (.ifCond k o, x, nx)) (ha : inR a)
    (kk : W p l e R s m args below meth c H locs cells slots Q (F0 m (if cmpI k a 0 then x else nx) ls rest)) : W p l e R s m args below meth c H locs cells slots Q (F0 m pc ls (.int (Int32.ofInt a) :: rest)) := by
  obtain ⟨hd, rfl, ht⟩ := sd_jump (o := o) h (fun r n => rfl)
  have ea := i32_id ha
  have eb : (0 : Int32).toInt = 0 := rfl
  cases k
  · refine lv_if_eq X.1 X.2.1 hd ht (fun q => ?_) (fun q => ?_)
    · have : a = 0 := by rw [← ea, ← eb, q]
      rwa [if_pos (by simp [cmpI, this])] at kk
    · have : ¬ a = 0 := fun z => q (by rw [z]; rfl)
      rwa [if_neg (by simp [cmpI, this])] at kk
  · refine lv_if_ne X.1 X.2.1 hd ht (fun q => ?_) (fun q => ?_)
    · have : ¬ a = 0 := fun z => q (by rw [z]; rfl)
      rwa [if_pos (by simp [cmpI, this])] at kk
    · have q2 := q
      have : a = 0 := by rw [← ea, ← eb, q2]
      rwa [if_neg (by simp [cmpI, this])] at kk
  · refine lv_if_lt X.1 X.2.1 hd ht (fun q => ?_) (fun q => ?_)
    · have : a < 0 := by rw [← ea, ← eb]; exact Int32.lt_iff_toInt_lt.mp q
      rwa [if_pos (by simp [cmpI, this])] at kk
    · have : ¬ a < 0 := fun z => q (Int32.lt_iff_toInt_lt.mpr (by rw [ea, eb]; exact z))
      rwa [if_neg (by simp [cmpI]; omega)] at kk
  · refine lv_if_ge X.1 X.2.1 hd ht (fun q => ?_) (fun q => ?_)
    · have : 0 ≤ a := by rw [← ea, ← eb]; exact Int32.le_iff_toInt_le.mp q
      rwa [if_pos (by simp [cmpI, this])] at kk
    · have : ¬ 0 ≤ a := fun z => q (Int32.le_iff_toInt_le.mpr (by rw [ea, eb]; exact z))
      rwa [if_neg (by simp [cmpI]; omega)] at kk
  · refine lv_if_gt X.1 X.2.1 hd ht (fun q => ?_) (fun q => ?_)
    · have : 0 < a := by rw [← ea, ← eb]; exact Int32.lt_iff_toInt_lt.mp q
      rwa [if_pos (by simp [cmpI, this])] at kk
    · have : ¬ 0 < a := fun z => q (Int32.lt_iff_toInt_lt.mpr (by rw [ea, eb]; exact z))
      rwa [if_neg (by simp [cmpI]; omega)] at kk
  · refine lv_if_le X.1 X.2.1 hd ht (fun q => ?_) (fun q => ?_)
    · have : a ≤ 0 := by rw [← ea, ← eb]; exact Int32.le_iff_toInt_le.mp q
      rwa [if_pos (by simp [cmpI, this])] at kk
    · have : ¬ a ≤ 0 := fun z => q (Int32.le_iff_toInt_le.mpr (by rw [ea, eb]; exact z))
      rwa [if_neg (by simp [cmpI]; omega)] at kk
theorem sd_idiv (X : Cx p s m args meth c D B sa ca sc Z y) {a b : Int} (h : cd y pc = some (.idiv, x, nx)) (hb : 0 ≤ a ∧ a ≤ 2147483647 ∧ 0 < b ∧ b ≤ 2147483647)
    (kk : W p l e R s m args below meth c H locs cells slots Q (F0 m nx ls (.int (Int32.ofInt (a / b)) :: rest))) : W p l e R s m args below meth c H locs cells slots Q (F0 m pc ls (.int (Int32.ofInt b) :: .int (Int32.ofInt a) :: rest)) := by
  obtain ⟨hd, rfl⟩ := sd_one h (fun r n => rfl)
  have ea := i32_id (a := a) ⟨by omega, by omega⟩
  have eb := i32_id (a := b) ⟨by omega, by omega⟩
  have hne : ¬ Int32.ofInt b = 0 := fun q => by rw [q] at eb; have : (0 : Int32).toInt = 0 := rfl; omega
  refine lv_idiv X.1 X.2.1 hd hne ?_
  have e3 : Int32.ofInt a / Int32.ofInt b = Int32.ofInt (a / b) := by
    rw [← Int.tdiv_eq_ediv_of_nonneg hb.1]
    exact (Int32.ofInt_tdiv (by show (-2147483648 : Int) ≤ a; omega) (by show a ≤ (2147483647 : Int); omega) (by show (-2147483648 : Int) ≤ b; omega) (by show b ≤ (2147483647 : Int); omega)).symm
  rw [e3]
  exact kk
theorem sd_irem (X : Cx p s m args meth c D B sa ca sc Z y) {a b : Int} (h : cd y pc = some (.irem, x, nx)) (hb : 0 ≤ a ∧ a ≤ 2147483647 ∧ 0 < b ∧ b ≤ 2147483647)
    (kk : W p l e R s m args below meth c H locs cells slots Q (F0 m nx ls (.int (Int32.ofInt (a % b)) :: rest))) : W p l e R s m args below meth c H locs cells slots Q (F0 m pc ls (.int (Int32.ofInt b) :: .int (Int32.ofInt a) :: rest)) := by
  obtain ⟨hd, rfl⟩ := sd_one h (fun r n => rfl)
  have ea := i32_id (a := a) ⟨by omega, by omega⟩
  have eb := i32_id (a := b) ⟨by omega, by omega⟩
  have hne : ¬ Int32.ofInt b = 0 := fun q => by rw [q] at eb; have : (0 : Int32).toInt = 0 := rfl; omega
  refine lv_irem X.1 X.2.1 hd hne ?_
  have e3 : Int32.ofInt a / Int32.ofInt b = Int32.ofInt (a / b) := by
    rw [← Int.tdiv_eq_ediv_of_nonneg hb.1]
    exact (Int32.ofInt_tdiv (by show (-2147483648 : Int) ≤ a; omega) (by show a ≤ (2147483647 : Int); omega) (by show (-2147483648 : Int) ≤ b; omega) (by show b ≤ (2147483647 : Int); omega)).symm
  rw [e3, ← Int32.ofInt_mul, ← Int32.ofInt_sub, show a - a / b * b = a % b by rw [Int.mul_comm]; have := Int.emod_def a b; omega]
  exact kk
theorem sd_lcmp (X : Cx p s m args meth c D B sa ca sc Z y) {a b : Int} (h : cd y pc = some (.lcmp, x, nx)) (ha : inL a) (hb : inL b)
    (kk : W p l e R s m args below meth c H locs cells slots Q (F0 m nx ls (.int (Int32.ofInt (if a < b then -1 else if a = b then 0 else 1)) :: rest))) : W p l e R s m args below meth c H locs cells slots Q (F0 m pc ls (.long (Int64.ofInt b) :: .long (Int64.ofInt a) :: rest)) := by
  obtain ⟨hd, rfl⟩ := sd_one h (fun r n => rfl)
  have ea := i64_id ha
  have eb := i64_id hb
  refine W.lcmp X.1 X.2.1 hd ?_
  have e3 : lg_cmp (Int64.ofInt a) (Int64.ofInt b) = Int32.ofInt (if a < b then -1 else if a = b then 0 else 1) := by
    unfold lg_cmp
    by_cases h1 : a < b
    · rw [if_pos h1, if_neg, if_neg]
      · rfl
      · intro q; rw [← ea, ← eb, q] at h1; omega
      · intro q
        have q2 : (Int64.ofInt b).toInt < (Int64.ofInt a).toInt := Int64.lt_iff_toInt_lt.mp q
        omega
    · rw [if_neg h1]
      by_cases h2 : a = b
      · subst h2
        rw [if_pos rfl, if_neg, if_pos rfl]
        · rfl
        · intro q
          have q2 : (Int64.ofInt a).toInt < (Int64.ofInt a).toInt := Int64.lt_iff_toInt_lt.mp q
          omega
      · rw [if_neg h2, if_pos]
        · rfl
        · show Int64.ofInt b < Int64.ofInt a
          rw [Int64.lt_iff_toInt_lt]
          omega
  rw [e3]
  exact kk
end Sd2
