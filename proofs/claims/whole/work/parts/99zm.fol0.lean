/-! what follows: names given in order, rows put one by one, steps that melt -/
def nm1 (s : Nat × Bd) (p : Int) : Nat × Bd := if 2000 ≤ p ∧ s.2 (p - 2000) = -1 then (s.1 + 1, bup s.2 (p - 2000) (1000 + s.1)) else s
theorem nameE_fold : ∀ (ps : List Int) (n : Nat) (β : Bd), nameE ps n β = (ps.foldl nm1 (n, β)).2 := by
  intro ps
  induction ps with
  | nil => intro n β; rfl
  | cons p ps ih =>
    intro n β
    rw [nameE, List.foldl_cons]
    unfold nm1
    dsimp only
    split
    · exact ih _ _
    · exact ih _ _
theorem nm1_keep {s : Nat × Bd} {p v : Int} (h : s.2 v ≠ -1) : (nm1 s p).2 v = s.2 v := by
  unfold nm1
  split
  · rename_i q
    show bup s.2 (p - 2000) (1000 + s.1) v = s.2 v
    unfold bup
    rw [if_neg (fun z => h (by rw [z]; exact q.2))]
  · rfl
theorem nm_keep : ∀ (ps : List Int) (s : Nat × Bd) (v : Int), s.2 v ≠ -1 → (ps.foldl nm1 s).2 v = s.2 v := by
  intro ps
  induction ps with
  | nil => intro s v _; rfl
  | cons p ps ih =>
    intro s v h
    have k := nm1_keep (p := p) h
    rw [List.foldl_cons, ih _ _ (by rw [k]; exact h), k]
theorem nm1_ok {s : Nat × Bd} {p : Int} (h : okB s.2) (hn : s.1 ≤ 99) : okB (nm1 s p).2 ∧ s.1 ≤ (nm1 s p).1 ∧ (nm1 s p).1 ≤ s.1 + 1 ∧ (2000 ≤ p → (nm1 s p).2 (p - 2000) ≠ -1) := by
  unfold nm1
  split
  · rename_i q
    refine ⟨fun v => ?_, by dsimp only; omega, by dsimp only; omega, fun _ => ?_⟩
    · show bup s.2 (p - 2000) (1000 + s.1) v = -1 ∨ isTm (bup s.2 (p - 2000) (1000 + s.1) v)
      unfold bup
      split
      · right; unfold isTm; omega
      · exact h v
    · show bup s.2 (p - 2000) (1000 + s.1) (p - 2000) ≠ -1
      unfold bup
      rw [if_pos rfl]
      omega
  · rename_i q
    exact ⟨h, by omega, by omega, fun z y => q ⟨z, y⟩⟩
theorem nm_ok : ∀ (ps : List Int) (s : Nat × Bd), okB s.2 → s.1 + ps.length ≤ 100 → okB (ps.foldl nm1 s).2 ∧ s.1 ≤ (ps.foldl nm1 s).1 ∧ (ps.foldl nm1 s).1 ≤ s.1 + ps.length ∧ ∀ p ∈ ps, 2000 ≤ p → (ps.foldl nm1 s).2 (p - 2000) ≠ -1 := by
  intro ps
  induction ps with
  | nil => intro s h hn; exact ⟨h, Nat.le_refl _, by simp, fun p hp => (by cases hp)⟩
  | cons p ps ih =>
    intro s h hn
    rw [List.length_cons] at hn
    obtain ⟨a1, a2, a3, a4⟩ := nm1_ok (p := p) h (by omega)
    obtain ⟨b1, b2, b3, b4⟩ := ih (nm1 s p) a1 (by omega)
    rw [List.foldl_cons, List.length_cons]
    refine ⟨b1, by omega, by omega, fun q hq h2 => ?_⟩
    rcases List.mem_cons.mp hq with rfl | hq
    · rw [nm_keep ps _ _ (a4 h2)]
      exact a4 h2
    · exact b4 q hq h2
theorem nm_out : ∀ (ps : List Int) (s : Nat × Bd) (v : Int), (∀ p ∈ ps, p ≤ 2025) → ¬ (0 ≤ v ∧ v ≤ 25) → (ps.foldl nm1 s).2 v = s.2 v := by
  intro ps
  induction ps with
  | nil => intro s v _ _; rfl
  | cons p ps ih =>
    intro s v hp hv
    rw [List.foldl_cons, ih _ _ (fun q hq => hp q (List.mem_cons_of_mem _ hq)) hv]
    have := hp p List.mem_cons_self
    unfold nm1
    split
    · show bup s.2 (p - 2000) (1000 + s.1) v = s.2 v
      unfold bup
      rw [if_neg (by omega)]
    · rfl
/-- rows put one by one, each unless it is there -/
def sadF : List Rw → Int → (Int → Int) → List At → List Rw × Int × (Int → Int)
  | L, n, U, [] => (L, n, U)
  | L, n, U, g :: gs => if findL L g = none then sadF (L ++ [(n, g)]) (n + 1) (mkU U g) gs else sadF L n U gs
def rn0 (s : List Rw × Int × (Int → Int)) : Rn := (s.1, s.2.1, s.2.2, [], fun _ => -1)
theorem add_ok {C : Int → Int} {L : List Rw} {n : Int} {U : Int → Int} {S : List (List Int)} {B : Int → Int} {g : At} (h : okS C (L, n, U, S, B)) (hg : okG C g) (h4 : L.length + 1 ≤ 40) (h2 : n + 1 ≤ 200) {S' : List (List Int)} {B' : Int → Int} : okS C (L ++ [(n, g)], n + 1, mkU U g, S', B') := by
  obtain ⟨s1, s2, s3, s4, s5, s6, s7⟩ := h
  dsimp only at *
  obtain ⟨t1, t2⟩ := srt_add [g] L n s2 (fun w hw => (s3 w hw).2)
  have m : ∀ w ∈ L ++ [(n, g)], w ∈ L ∨ w = (n, g) := fun w hw => by rw [List.mem_append, List.mem_singleton] at hw; exact hw
  have mk := fun k => mks_ge (k := k) [g] U s6
  refine ⟨fun w hw => ?_, t1, fun w hw => ⟨?_, ?_⟩, ⟨by dsimp only; omega, by dsimp only; omega⟩, by dsimp only; rw [List.length_append, List.length_singleton]; exact h4, (mk 0).1, fun w hw k k0 hk => ?_⟩
  · rcases m w hw with z | rfl
    · exact s1 w z
    · exact hg
  · rcases m w hw with z | rfl
    · exact (s3 w z).1
    · exact s4.1
  · rcases m w hw with z | rfl
    · have := (s3 w z).2; dsimp only; omega
    · dsimp only; omega
  · rcases m w hw with z | rfl
    · exact (mk k).2.1 (s7 w z k k0 hk)
    · exact (mk k).2.2 g List.mem_cons_self k0 hk
theorem sad_ok {C : Int → Int} : ∀ (gs : List At) (L : List Rw) (n : Int) (U : Int → Int), okS C (rn0 (L, n, U)) → (∀ g ∈ gs, okG C g) → L.length + gs.length ≤ 40 → n + gs.length ≤ 200 → okS C (rn0 (sadF L n U gs)) := by
  intro gs
  induction gs with
  | nil => intro L n U h _ _ _; exact h
  | cons g gs ih =>
    intro L n U h hg h4 h2
    rw [List.length_cons] at h4 h2
    rw [sadF]
    split
    · exact ih _ _ _ (add_ok h (hg g List.mem_cons_self) (by dsimp only; omega) (by dsimp only; omega)) (fun q hq => hg q (List.mem_cons_of_mem _ hq)) (by rw [List.length_append, List.length_singleton]; omega) (by push_cast at h2 ⊢; omega)
    · exact ih _ _ _ h (fun q hq => hg q (List.mem_cons_of_mem _ hq)) (by omega) (by push_cast at h2 ⊢; omega)
/-- what a step has melted -/
def mlt (l : List Int) : Prop := (l.getD 5 (-1) = -1 ∧ l.getD 6 (-1) = -1) ∨ ((0 ≤ l.getD 5 (-1) ∧ l.getD 5 (-1) ≤ 1099) ∧ 0 ≤ l.getD 6 (-1) ∧ l.getD 6 (-1) ≤ 1099)
theorem stp_mlt {r m a b : Int} {q : List Rw} (h : (a = -1 ∧ b = -1) ∨ ((0 ≤ a ∧ a ≤ 1099) ∧ 0 ≤ b ∧ b ≤ 1099)) : mlt (stpL r m q a b) := h
theorem stepA_mlt {C : Int → Int} {ri : Int} {r : Ru} {q : List Rw} {β : Bd} {s : Rn} (hr : okRl C r) (hs : okS C s) (hq : (q, β) ∈ hitsL s.1 r.2.1 bd0) (hm : ∀ l ∈ s.2.2.2.1, mlt l) :
    (∀ l ∈ (stepA ri r q s).1.2.2.2.1, mlt l) ∧ ((stepA ri r q s).2 = 0 → (stepA ri r q s).1.2.2.2.1.length = s.2.2.2.1.length + 1) ∧ ((stepA ri r q s).2 = 0 ∨ (stepA ri r q s).2 = 2 ∨ (stepA ri r q s).2 = 3) := by
  obtain ⟨b1, b2, b3⟩ := bindA_ok hs.1 r.2.1 bd0 (q, β) hr.2.1 okB_0 hq
  have eb : bindA r.2.1 q bd0 = β := hits_bind r.2.1 bd0 (q, β) hq
  have ap : ∀ (l : List Int), mlt l → ∀ k ∈ s.2.2.2.1 ++ [l], mlt k := fun l hl k hk => by
    rw [List.mem_append, List.mem_singleton] at hk
    rcases hk with z | rfl
    · exact hm k z
    · exact hl
  unfold stepA
  dsimp only
  rw [eb]
  split
  · unfold makeA
    cases hn : nameA s.2.2.1 (plcL r.2.2.1) 0 β with
    | none => exact ⟨hm, fun z => absurd (show (3 : Int) = 0 from z) (by decide), Or.inr (Or.inr rfl)⟩
    | some β' =>
      dsimp only
      split
      · exact ⟨hm, fun z => absurd (show (3 : Int) = 0 from z) (by decide), Or.inr (Or.inr rfl)⟩
      · exact ⟨ap _ (stp_mlt (Or.inl ⟨rfl, rfl⟩)), fun _ => by dsimp only; rw [List.length_append, List.length_singleton], Or.inl rfl⟩
  · split
    · rename_i h0 h1
      obtain ⟨⟨p1, p2⟩, p3, p4⟩ := hr.2.2.2.2.2 h1
      have wa := isTm_in (worth_ok b1 p1 (fun z => b3 _ z (p2 z)))
      have wb := isTm_in (worth_ok b1 p3 (fun z => b3 _ z (p4 z)))
      unfold meltA
      dsimp only
      generalize worthB β r.2.2.2.1 = x at *
      generalize worthB β r.2.2.2.2 = y at *
      split
      · exact ⟨ap _ (stp_mlt (Or.inr ⟨wa, wb⟩)), fun z => absurd (show (2 : Int) = 0 from z) (by decide), Or.inr (Or.inl rfl)⟩
      · refine ⟨ap _ (stp_mlt (Or.inr ⟨⟨?_, ?_⟩, ?_, ?_⟩)), fun _ => by dsimp only; rw [List.length_append, List.length_singleton], Or.inl rfl⟩ <;> (split <;> omega)
    · exact ⟨ap _ (stp_mlt (Or.inl ⟨rfl, rfl⟩)), fun z => absurd (show (2 : Int) = 0 from z) (by decide), Or.inr (Or.inl rfl)⟩
theorem runF_mlt {C : Int → Int} {rs : List Ru} {most : Nat} (hr : ∀ r ∈ rs, okRl C r) : ∀ (f turn : Nat) (s : Rn), okS C s → (∀ l ∈ s.2.2.2.1, mlt l) → s.2.2.2.1.length + f = most + 1 → s.2.2.2.1.length ≤ most →
    (∀ l ∈ (runF rs most f turn s).1.2.2.2.1, mlt l) ∧ ((runF rs most f turn s).2 = 1 ∨ (runF rs most f turn s).2 = 2 ∨ (runF rs most f turn s).2 = 3) := by
  intro f
  induction f with
  | zero => intro turn s _ _ h1 h2; omega
  | succ f ih =>
    intro turn s hs hm h1 h2
    rw [runF]
    split
    · exact ⟨hm, Or.inl rfl⟩
    · rename_i i r q hp
      split
      · exact ⟨hm, Or.inr (Or.inr rfl)⟩
      · obtain ⟨g1, g2⟩ := pick_mem _ _ _ _ _ hp
        obtain ⟨β, hβ, _⟩ := openL_mem g2
        have k := stepA_ok (ri := i) (hr r (List.mem_of_getElem? g1)) hs hβ
        obtain ⟨k1, k2, k3⟩ := stepA_mlt (ri := i) (hr r (List.mem_of_getElem? g1)) hs hβ hm
        dsimp only
        split
        · rename_i k0
          have := k2 k0
          exact ih _ _ k k1 (by omega) (by omega)
        · exact ⟨k1, by omega⟩
/-- melting along the steps -/
def mlF (S : List (List Int)) (β : Bd) : Bd := S.foldl (fun β l => mbB (l.getD 5 (-1)) (l.getD 6 (-1)) β) β
theorem mlF_flw : ∀ (S : List (List Int)) (β : Bd), (∀ l ∈ S, mlt l) → ∀ v, mlF S β v = flwF S (β v) := by
  intro S
  induction S with
  | nil => intro β _ v; rfl
  | cons l S ih =>
    intro β h v
    have e := ih (mbB (l.getD 5 (-1)) (l.getD 6 (-1)) β) (fun k hk => h k (List.mem_cons_of_mem _ hk)) v
    unfold mlF flwF at *
    rw [List.foldl_cons, List.foldl_cons, e]
    congr 1
    have := h l List.mem_cons_self
    unfold mbB subT
    unfold mlt at this
    by_cases q : β v = l.getD 5 (-1)
    · rw [if_pos q]
      split
      · rfl
      · omega
    · rw [if_neg q, if_neg (fun z => q z.2)]
/-- the told rule against the rules: what follows gives -/
def flwA (H : Hl) (q : Ru) : Rn × Int := runF H.2.1 100 101 0 (rn0 (sadF [] 0 (fun _ => 0) (q.2.1.map (grA (nameE (plcL q.2.1) 0 bd0)))))
def folV (H : Hl) (q : Ru) : Int := if (flwA H q).2 = 3 then 2 else if (flwA H q).2 = 2 then 1 else bI (fulfL q (flwA H q).1.1 (mlF (flwA H q).1.2.2.2.1 (nameE (plcL q.2.1) 0 bd0)))
theorem plcL_le {C : Int → Int} {as : List At} (h : ∀ a ∈ as, okA C a) : ∀ p ∈ plcL as, p ≤ 2025 := by
  intro p hp
  unfold plcL at hp
  obtain ⟨a, ha, hq⟩ := List.mem_flatMap.mp hp
  obtain ⟨a1, a2, a3, X, Y, Z, hX, hY, hZ, ea⟩ := h a ha
  have x := isPl_in hX
  have y := isPl_in hY
  have z := isPl_in hZ
  rw [ea] at hq
  unfold nrm at hq
  simp only [List.mem_cons, List.not_mem_nil, or_false] at hq
  rcases hq with rfl | rfl | rfl
  · exact x.2
  · split <;> omega
  · split <;> omega
theorem plcL_len : ∀ (as : List At), (plcL as).length = 3 * as.length := by
  intro as
  induction as with
  | nil => rfl
  | cons a as ih =>
    unfold plcL at *
    rw [List.flatMap_cons, List.length_append, ih]
    simp only [List.length_cons, List.length_nil]
    omega
theorem nm_all {C : Int → Int} {as : List At} (h : ∀ a ∈ as, okA C a) (h3 : as.length ≤ 3) : okB (nameE (plcL as) 0 bd0) ∧ (∀ v, ¬ (0 ≤ v ∧ v ≤ 25) → nameE (plcL as) 0 bd0 v = -1) ∧ ∀ g ∈ as.map (grA (nameE (plcL as) 0 bd0)), okG C g := by
  have l := plcL_len as
  obtain ⟨a1, a2, a3, a4⟩ := nm_ok (plcL as) (0, bd0) okB_0 (by dsimp only; omega)
  rw [nameE_fold]
  refine ⟨a1, fun v hv => nm_out _ _ _ (plcL_le h) hv, fun g hg => ?_⟩
  obtain ⟨a, ha, rfl⟩ := List.mem_map.mp hg
  refine grA_ok (h a ha) a1 (fun p hp h2 => a4 p ?_ h2)
  unfold plcL
  rw [List.mem_flatMap]
  refine ⟨a, ha, ?_⟩
  rcases hp with rfl | rfl | rfl <;> simp
theorem okS_0 {C : Int → Int} : okS C (rn0 ([], 0, fun _ => 0)) := ⟨fun w h => (by cases h), List.Pairwise.nil, fun w h => (by cases h), ⟨by decide, by decide⟩, by decide, fun _ => Or.inl rfl, fun w h => (by cases h)⟩
theorem flwA_ok {H : Hl} {q : Ru} (hr : ∀ r ∈ H.2.1, okRl H.1 r) (hq : okRl H.1 q) : okS H.1 (rn0 (sadF [] 0 (fun _ => 0) (q.2.1.map (grA (nameE (plcL q.2.1) 0 bd0))))) ∧ okS H.1 (flwA H q).1 ∧ (∀ l ∈ (flwA H q).1.2.2.2.1, mlt l) ∧ ((flwA H q).2 = 1 ∨ (flwA H q).2 = 2 ∨ (flwA H q).2 = 3) := by
  obtain ⟨n1, n2, n3⟩ := nm_all hq.2.1 hq.2.2.2.1.2
  have l := hq.2.2.2.1.2
  have s := sad_ok (C := H.1) (q.2.1.map (grA (nameE (plcL q.2.1) 0 bd0))) [] 0 (fun _ => 0) okS_0 n3 (by rw [List.length_map, List.length_nil]; omega) (by rw [List.length_map]; omega)
  obtain ⟨m1, m2⟩ := runF_mlt (most := 100) hr 101 0 _ s (fun l h => (by cases h)) rfl (by show 0 ≤ 100; decide)
  exact ⟨s, runF_ok hr 101 0 _ s, m1, m2⟩
