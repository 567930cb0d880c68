/-! hits by frames: what is left of a search; searches below a limit -/
abbrev Hts : Type := List (List Rw × Bd)
abbrev Fr : Type := List Rw × Bd × List Rw × List At
/-- the hits that begin with one of the rows q -/
def subL (R : List Rw) (a : At) (as : List At) (β : Bd) (q : List Rw) : Hts := q.flatMap fun w => match fitA β a w.2 with
  | none => []
  | some β' => (hitsL R as β').map fun z => (w :: z.1, z.2)
theorem hitsL_cons {R : List Rw} {a : At} {as : List At} {β : Bd} : hitsL R (a :: as) β = subL R a as β R := rfl
theorem subL_nil {R : List Rw} {a : At} {as : List At} {β : Bd} : subL R a as β [] = [] := rfl
theorem subL_none {R : List Rw} {a : At} {as : List At} {β : Bd} {w : Rw} {q : List Rw} (h : fitA β a w.2 = none) : subL R a as β (w :: q) = subL R a as β q := by
  unfold subL
  rw [List.flatMap_cons, h]
  rfl
theorem subL_some {R : List Rw} {a : At} {as : List At} {β β' : Bd} {w : Rw} {q : List Rw} (h : fitA β a w.2 = some β') : subL R a as β (w :: q) = (hitsL R as β').map (fun z => (w :: z.1, z.2)) ++ subL R a as β q := by
  unfold subL
  rw [List.flatMap_cons, h]
def remF (R : List Rw) : List Fr → Hts
  | [] => []
  | (_, _, _, []) :: fs => remF R fs
  | (pre, β, q, a :: as) :: fs => (subL R a as β q).map (fun z => (pre ++ z.1, z.2)) ++ remF R fs
section A1
variable {R : List Rw} {pre : List Rw} {β β' : Bd} {q : List Rw} {w : Rw} {a a2 : At} {as : List At} {fs : List Fr}
theorem remF_pop : remF R ((pre, β, [], a :: as) :: fs) = remF R fs := rfl
theorem remF_none (h : fitA β a w.2 = none) : remF R ((pre, β, w :: q, a :: as) :: fs) = remF R ((pre, β, q, a :: as) :: fs) := by
  rw [remF, subL_none h]
  rfl
theorem remF_hit (h : fitA β a w.2 = some β') : remF R ((pre, β, w :: q, [a]) :: fs) = (pre ++ [w], β') :: remF R ((pre, β, q, [a]) :: fs) := by
  rw [remF, subL_some h, hitsL, remF]
  rfl
theorem remF_push (h : fitA β a w.2 = some β') : remF R ((pre, β, w :: q, a :: a2 :: as) :: fs) = remF R ((pre ++ [w], β', R, a2 :: as) :: (pre, β, q, a :: a2 :: as) :: fs) := by
  rw [remF, subL_some h, remF, remF, hitsL_cons, List.map_append, List.map_map, List.append_assoc]
  congr 2
  funext z
  simp
end A1
/-- a search among some rows only -/
theorem hits_filter {R : List Rw} {p : Rw → Bool} : ∀ (as : List At) (β : Bd), hitsL (R.filter p) as β = (hitsL R as β).filter fun z => z.1.all p := by
  intro as
  induction as with
  | nil => intro β; rfl
  | cons a as ih =>
    intro β
    have : ∀ q : List Rw, subL (R.filter p) a as β (q.filter p) = (subL R a as β q).filter fun z => z.1.all p := by
      intro q
      induction q with
      | nil => rfl
      | cons w q ihq =>
        by_cases hp : p w = true
        · rw [List.filter_cons_of_pos hp]
          cases hf : fitA β a w.2 with
          | none => rw [subL_none hf, subL_none hf, ihq]
          | some β' =>
            rw [subL_some hf, subL_some hf, ihq, ih, List.filter_append, List.filter_map]
            congr 2
            apply List.filter_congr
            intro z _
            simp [hp]
        · rw [List.filter_cons_of_neg hp, ihq]
          cases hf : fitA β a w.2 with
          | none => rw [subL_none hf]
          | some β' =>
            rw [subL_some hf, List.filter_append, List.filter_map]
            have : (List.filter ((fun z : List Rw × Bd => z.1.all p) ∘ fun z : List Rw × Bd => (w :: z.1, z.2)) (hitsL R as β')) = [] := by
              rw [List.filter_eq_nil_iff]
              intro z _
              simp [hp]
            rw [this]
            rfl
    exact this R
theorem sub_filter {R : List Rw} {p : Rw → Bool} {a : At} {as : List At} {β : Bd} {q : List Rw} : subL (R.filter p) a as β (q.filter p) = (subL R a as β q).filter fun z => z.1.all p := by
  induction q with
  | nil => rfl
  | cons w q ihq =>
    by_cases hp : p w = true
    · rw [List.filter_cons_of_pos hp]
      cases hf : fitA β a w.2 with
      | none => rw [subL_none hf, subL_none hf, ihq]
      | some β' =>
        rw [subL_some hf, subL_some hf, ihq, hits_filter, List.filter_append, List.filter_map]
        congr 2
        apply List.filter_congr
        intro z _
        simp [hp]
    · rw [List.filter_cons_of_neg hp, ihq]
      cases hf : fitA β a w.2 with
      | none => rw [subL_none hf]
      | some β' =>
        rw [subL_some hf, List.filter_append, List.filter_map]
        have : (List.filter ((fun z : List Rw × Bd => z.1.all p) ∘ fun z : List Rw × Bd => (w :: z.1, z.2)) (hitsL R as β')) = [] := by
          rw [List.filter_eq_nil_iff]
          intro z _
          simp [hp]
        rw [this]
        rfl
/-- the frames of a search among some rows only -/
def frF (p : Rw → Bool) (f : Fr) : Fr := (f.1, f.2.1, f.2.2.1.filter p, f.2.2.2)
theorem remF_filter {R : List Rw} {p : Rw → Bool} : ∀ fs : List Fr, (∀ f ∈ fs, f.1.all p = true) → remF (R.filter p) (fs.map (frF p)) = (remF R fs).filter fun z => z.1.all p := by
  intro fs
  induction fs with
  | nil => intro _; rfl
  | cons f fs ih =>
    intro h
    obtain ⟨pre, β, q, as⟩ := f
    have h0 : pre.all p = true := h _ List.mem_cons_self
    have h1 := ih (fun g hg => h g (List.mem_cons_of_mem _ hg))
    cases as with
    | nil => exact h1
    | cons a as =>
      show (subL (R.filter p) a as β (q.filter p)).map _ ++ remF (R.filter p) (fs.map (frF p)) = _
      rw [h1, sub_filter, remF, List.filter_append, List.filter_map]
      congr 2
      apply List.filter_congr
      intro z _
      simp [h0]
/-- frames whose rows ahead are not all among them have nothing left -/
theorem remF_dead {R : List Rw} {p : Rw → Bool} {f : Fr} {fs : List Fr} (h : f.1.all p = false) : (remF R (f :: fs)).filter (fun z => z.1.all p) = (remF R fs).filter fun z => z.1.all p := by
  obtain ⟨pre, β, q, as⟩ := f
  cases as with
  | nil => rfl
  | cons a as =>
    rw [remF, List.filter_append, List.filter_map]
    have : (List.filter ((fun z : List Rw × Bd => z.1.all p) ∘ fun z : List Rw × Bd => (pre ++ z.1, z.2)) (subL R a as β q)) = [] := by
      rw [List.filter_eq_nil_iff]
      intro z _
      have h' : pre.all p = false := h
      simp only [Function.comp, List.all_append, h', Bool.false_and]
      exact Bool.false_ne_true
    rw [this]
    rfl
theorem hits_len {R : List Rw} : ∀ (as : List At) (β : Bd), (hitsL R as β).length ≤ R.length ^ as.length := by
  intro as
  induction as with
  | nil => intro β; exact Nat.le_refl _
  | cons a as ih =>
    intro β
    have : ∀ q : List Rw, (subL R a as β q).length ≤ q.length * R.length ^ as.length := by
      intro q
      induction q with
      | nil => simp [subL]
      | cons w q ihq =>
        cases hf : fitA β a w.2 with
        | none =>
          rw [subL_none hf, List.length_cons, Nat.succ_mul]
          exact Nat.le_trans ihq (Nat.le_add_right _ _)
        | some β' =>
          rw [subL_some hf, List.length_append, List.length_map, List.length_cons, Nat.succ_mul, Nat.add_comm]
          exact Nat.add_le_add ihq (ih β')
    rw [hitsL_cons, List.length_cons, Nat.pow_succ, Nat.mul_comm]
    exact this R
theorem hits_ne {R : List Rw} {a : At} {as : List At} {β : Bd} : ∀ z ∈ hitsL R (a :: as) β, z.1 ≠ [] := by
  intro z hz
  rw [hitsL_cons, subL, List.mem_flatMap] at hz
  obtain ⟨w, _, hw⟩ := hz
  cases hf : fitA β a w.2 with
  | none => rw [hf] at hw; cases hw
  | some β' =>
    rw [hf] at hw
    obtain ⟨z', _, rfl⟩ := List.mem_map.mp hw
    simp
theorem hits_mem {R : List Rw} : ∀ (as : List At) (β : Bd), ∀ z ∈ hitsL R as β, z.1.length = as.length ∧ ∀ w ∈ z.1, w ∈ R := by
  intro as
  induction as with
  | nil =>
    intro β z hz
    rw [hitsL, List.mem_singleton] at hz
    subst hz
    exact ⟨rfl, fun w hw => by cases hw⟩
  | cons a as ih =>
    intro β z hz
    rw [hitsL_cons, subL, List.mem_flatMap] at hz
    obtain ⟨w, hwR, hw⟩ := hz
    cases hf : fitA β a w.2 with
    | none => rw [hf] at hw; cases hw
    | some β' =>
      rw [hf] at hw
      obtain ⟨z', hz', rfl⟩ := List.mem_map.mp hw
      obtain ⟨e1, e2⟩ := ih β' z' hz'
      refine ⟨by simp [e1], fun v hv => ?_⟩
      rcases List.mem_cons.mp hv with rfl | hv
      · exact hwR
      · exact e2 v hv
/-- topL and limits -/
theorem topF_lt {T : Int} : ∀ (q : List Rw) (t : Int), q.foldl topF t < T ↔ t < T ∧ ∀ w ∈ q, w.1 < T := by
  intro q
  induction q with
  | nil => intro t; simp
  | cons w q ih =>
    intro t
    rw [List.foldl_cons, ih]
    unfold topF
    constructor
    · rintro ⟨h1, h2⟩
      refine ⟨by split at h1 <;> omega, fun v hv => ?_⟩
      rcases List.mem_cons.mp hv with rfl | hv
      · split at h1 <;> omega
      · exact h2 v hv
    · rintro ⟨h1, h2⟩
      have := h2 w List.mem_cons_self
      exact ⟨by split <;> omega, fun v hv => h2 v (List.mem_cons_of_mem _ hv)⟩
theorem topL_lt {T : Int} {q : List Rw} (hq : q ≠ []) (h0 : ∀ w ∈ q, 0 ≤ w.1) : topL q < T ↔ ∀ w ∈ q, w.1 < T := by
  unfold topL
  rw [topF_lt]
  constructor
  · exact fun h => h.2
  · intro h
    cases q with
    | nil => exact absurd rfl hq
    | cons w q =>
      have a := h0 w List.mem_cons_self
      have b := h w List.mem_cons_self
      exact ⟨by omega, h⟩
/-- hits that are no better do not count -/
theorem open_filter {r : Ru} {L : List Rw} {T : Int} : ∀ (H : Hts) (b : List Rw), topL b ≤ T → H.foldl (openF r L) (some b) = (H.filter fun z => decide (topL z.1 < T)).foldl (openF r L) (some b) := by
  intro H
  induction H with
  | nil => intro b _; rfl
  | cons z H ih =>
    intro b hb
    rw [List.foldl_cons]
    have key : ∃ b', openF r L (some b) z = some b' ∧ topL b' ≤ T ∧ (¬ topL z.1 < T → b' = b) := by
      unfold openF
      split
      · exact ⟨b, rfl, hb, fun _ => rfl⟩
      · dsimp only
        split
        · exact ⟨b, rfl, hb, fun _ => rfl⟩
        · exact ⟨z.1, rfl, by omega, fun h => by omega⟩
    obtain ⟨b', e, h1, h2⟩ := key
    rw [e, ih b' h1]
    by_cases h : topL z.1 < T
    · rw [List.filter_cons_of_pos (by simpa using h), List.foldl_cons, e]
    · rw [List.filter_cons_of_neg (by simpa using h), h2 h]
/-! runs, as functions of lists -/
def subT (a b t : Int) : Int := if t = a then b else t
def subA (a b : Int) (g : At) : At := (g.1, subT a b g.2.1, subT a b g.2.2.1, subT a b g.2.2.2)
def subW (a b : Int) (w : Rw) : Rw := (w.1, subA a b w.2)
/-- the first of rows that are alike stay -/
def ddF : List At → List Rw → List Rw
  | _, [] => []
  | S, w :: t => if w.2 ∈ S then ddF S t else w :: ddF (w.2 :: S) t
def meltL (L : List Rw) (a b : Int) : List Rw := ddF [] (L.map (subW a b))
theorem ddF_congr : ∀ (L : List Rw) (S S' : List At), (∀ g, g ∈ S ↔ g ∈ S') → ddF S L = ddF S' L := by
  intro L
  induction L with
  | nil => intro S S' h; rfl
  | cons w t ih =>
    intro S S' h
    rw [ddF, ddF]
    by_cases hw : w.2 ∈ S
    · rw [if_pos hw, if_pos ((h _).mp hw), ih S S' h]
    · rw [if_neg hw, if_neg (fun z => hw ((h _).mpr z)), ih (w.2 :: S) (w.2 :: S') (fun g => by simp [h])]
theorem ddF_append : ∀ (L M : List Rw) (S : List At), ddF S (L ++ M) = ddF S L ++ ddF (L.map (fun w => w.2) ++ S) M := by
  intro L
  induction L with
  | nil => intro M S; rfl
  | cons w t ih =>
    intro M S
    rw [List.cons_append, ddF, ddF]
    by_cases hw : w.2 ∈ S
    · rw [if_pos hw, if_pos hw, ih]
      congr 1
      apply ddF_congr
      intro g
      simp only [List.map_cons, List.mem_append, List.mem_cons, List.mem_map]
      constructor
      · rintro (h | h)
        · exact Or.inl (Or.inr h)
        · exact Or.inr h
      · rintro ((rfl | h) | h)
        · exact Or.inr hw
        · exact Or.inl h
        · exact Or.inr h
    · rw [if_neg hw, if_neg hw, ih, List.cons_append]
      congr 2
      apply ddF_congr
      intro g
      simp only [List.map_cons, List.mem_append, List.mem_cons, List.mem_map]
      constructor
      · rintro (h | rfl | h)
        · exact Or.inl (Or.inr h)
        · exact Or.inl (Or.inl rfl)
        · exact Or.inr h
      · rintro ((rfl | h) | h)
        · exact Or.inr (Or.inl rfl)
        · exact Or.inl h
        · exact Or.inr (Or.inr h)
theorem ddF_sub : ∀ (L : List Rw) (S : List At) (w : Rw), w ∈ ddF S L → w ∈ L := by
  intro L
  induction L with
  | nil => intro S w h; cases h
  | cons v t ih =>
    intro S w h
    rw [ddF] at h
    split at h
    · exact List.mem_cons_of_mem _ (ih _ _ h)
    · rcases List.mem_cons.mp h with rfl | h
      · exact List.mem_cons_self
      · exact List.mem_cons_of_mem _ (ih _ _ h)
theorem ddF_len : ∀ (L : List Rw) (S : List At), (ddF S L).length ≤ L.length := by
  intro L
  induction L with
  | nil => intro S; exact Nat.le_refl _
  | cons v t ih =>
    intro S
    rw [ddF]
    split
    · exact Nat.le_trans (ih S) (Nat.le_succ _)
    · exact Nat.succ_le_succ (ih _)
/-- bindings of a hit -/
def bindA : List At → List Rw → Bd → Bd
  | a :: as, w :: ws, β => match fitA β a w.2 with
    | some β' => bindA as ws β'
    | none => β
  | _, _, β => β
theorem hits_bind {R : List Rw} : ∀ (as : List At) (β : Bd), ∀ z ∈ hitsL R as β, bindA as z.1 β = z.2 := by
  intro as
  induction as with
  | nil =>
    intro β z hz
    rw [hitsL, List.mem_singleton] at hz
    subst hz
    rfl
  | cons a as ih =>
    intro β z hz
    rw [hitsL_cons, subL, List.mem_flatMap] at hz
    obtain ⟨w, hwR, hw⟩ := hz
    cases hf : fitA β a w.2 with
    | none => rw [hf] at hw; cases hw
    | some β' =>
      rw [hf] at hw
      obtain ⟨z', hz', rfl⟩ := List.mem_map.mp hw
      rw [bindA, hf]
      exact ih β' z' hz'
/-- nameless ones for what is free -/
def nameA (U : Int → Int) : List Int → Int → Bd → Option Bd
  | [], _, β => some β
  | p :: ps, k, β => if 2000 ≤ p ∧ β (p - 2000) = -1 then (if 100 ≤ leF U (100 - k).toNat k then none else nameA U ps (leF U (100 - k).toNat k + 1) (bup β (p - 2000) (1000 + leF U (100 - k).toNat k))) else nameA U ps k β
def plcL (as : List At) : List Int := as.flatMap fun a => [a.2.1, a.2.2.1, a.2.2.2]
def grA (β : Bd) (a : At) : At := (a.1, worthB β a.2.1, worthB β a.2.2.1, worthB β a.2.2.2)
def planF (L : List Rw) : List At → List At → List At
  | [], P => P
  | g :: gs, P => if findL L g = none ∧ g ∉ P then planF L gs (P ++ [g]) else planF L gs P
def addL : List Rw → Int → List At → List Rw
  | L, _, [] => L
  | L, n, g :: P => addL (L ++ [(n, g)]) (n + 1) P
def mkU (U : Int → Int) (g : At) : Int → Int := fun k => if 0 ≤ k ∧ (g.2.1 = 1000 + k ∨ g.2.2.1 = 1000 + k ∨ g.2.2.2 = 1000 + k) then 1 else U k
def mksU (U : Int → Int) (P : List At) : Int → Int := P.foldl mkU U
theorem find_app {L M : List Rw} {g : At} : findL (L ++ M) g = (findL L g).or (findL M g) := by
  unfold findL
  exact List.find?_append
theorem find_none {L : List Rw} {g : At} : findL L g = none ↔ ∀ w ∈ L, w.2 ≠ g := by
  unfold findL
  rw [List.find?_eq_none]
  simp
theorem addL_app : ∀ (P : List At) (L : List Rw) (n : Int) (g : At), addL L n (P ++ [g]) = addL L n P ++ [(n + P.length, g)] := by
  intro P
  induction P with
  | nil => intro L n g; simp [addL]
  | cons p P ih =>
    intro L n g
    rw [List.cons_append, addL, addL, ih]
    congr 3
    rw [List.length_cons]
    push_cast
    omega
theorem addL_mem : ∀ (P : List At) (L : List Rw) (n : Int) (g : At), (∃ w ∈ addL L n P, w.2 = g) ↔ (∃ w ∈ L, w.2 = g) ∨ g ∈ P := by
  intro P
  induction P with
  | nil => intro L n g; simp [addL]
  | cons p P ih =>
    intro L n g
    rw [addL, ih]
    constructor
    · rintro (⟨w, hw, rfl⟩ | h)
      · rcases List.mem_append.mp hw with h | h
        · exact Or.inl ⟨w, h, rfl⟩
        · rw [List.mem_singleton.mp h]
          exact Or.inr List.mem_cons_self
      · exact Or.inr (List.mem_cons_of_mem _ h)
    · rintro (⟨w, hw, rfl⟩ | h)
      · exact Or.inl ⟨w, List.mem_append_left _ hw, rfl⟩
      · rcases List.mem_cons.mp h with rfl | h
        · exact Or.inl ⟨_, List.mem_append_right _ (List.mem_singleton.mpr rfl), rfl⟩
        · exact Or.inr h
theorem addL_len : ∀ (P : List At) (L : List Rw) (n : Int), (addL L n P).length = L.length + P.length := by
  intro P
  induction P with
  | nil => intro L n; rfl
  | cons p P ih =>
    intro L n
    rw [addL, ih]
    simp only [List.length_append, List.length_cons, List.length_nil]
    omega
/-- found among rows with planned ones added: found, or planned -/
theorem find_add {L : List Rw} {n : Int} {P : List At} {g : At} : findL (addL L n P) g = none ↔ findL L g = none ∧ g ∉ P := by
  have h := addL_mem P L n g
  rw [find_none, find_none]
  constructor
  · intro a
    have b : ¬ ((∃ w ∈ L, w.2 = g) ∨ g ∈ P) := fun z => by
      obtain ⟨w, hw, e⟩ := h.mpr z
      exact a w hw e
    exact ⟨fun w hw e => b (Or.inl ⟨w, hw, e⟩), fun z => b (Or.inr z)⟩
  · rintro ⟨a, b⟩ w hw e
    rcases h.mp ⟨w, hw, e⟩ with ⟨v, hv, e⟩ | z
    · exact a v hv e
    · exact b z
/-- the reference's way: an atom is new if it is not found and unlike those ahead of it -/
def newN (L : List Rw) : List At → List At → Int
  | _, [] => 0
  | E, g :: gs => (if findL L g = none ∧ g ∉ E then 1 else 0) + newN L (E ++ [g]) gs
theorem plan_new {L : List Rw} : ∀ (gs E P : List At), (∀ g, findL L g = none → (g ∈ E ↔ g ∈ P)) → ((planF L gs P).length : Int) = P.length + newN L E gs := by
  intro gs
  induction gs with
  | nil => intro E P h; simp [planF, newN]
  | cons g gs ih =>
    intro E P h
    rw [planF, newN]
    by_cases hn : findL L g = none ∧ g ∉ P
    · rw [if_pos hn, if_pos ⟨hn.1, fun z => hn.2 ((h g hn.1).mp z)⟩, ih (E ++ [g]) (P ++ [g]) (fun g' h' => by simp [h g' h']), List.length_append, List.length_singleton]
      push_cast
      omega
    · have hn' : ¬ (findL L g = none ∧ g ∉ E) := fun z => hn ⟨z.1, fun y => z.2 ((h g z.1).mpr y)⟩
      rw [if_neg hn, if_neg hn', ih (E ++ [g]) P (fun g' h' => by
        rw [List.mem_append, List.mem_singleton, h g' h']
        constructor
        · rintro (z | rfl)
          · exact z
          · by_cases y : g' ∈ P
            · exact y
            · exact absurd ⟨h', y⟩ hn
        · exact Or.inl)]
      omega
theorem planF_len {L : List Rw} : ∀ (gs P : List At), (planF L gs P).length ≤ P.length + gs.length := by
  intro gs
  induction gs with
  | nil => intro P; exact Nat.le_refl _
  | cons g gs ih =>
    intro P
    rw [planF]
    split
    · have := ih (P ++ [g])
      rw [List.length_append, List.length_singleton] at this
      rw [List.length_cons]
      omega
    · have := ih P
      rw [List.length_cons]
      omega
/-- planned ahead, or one by one: the same -/
def seqF : List Rw → Int → List At → List Rw × Int
  | L, n, [] => (L, n)
  | L, n, g :: gs => if findL L g = none then seqF (L ++ [(n, g)]) (n + 1) gs else seqF L n gs
theorem seq_plan {L : List Rw} {n : Int} : ∀ (gs P : List At), seqF (addL L n P) (n + P.length) gs = (addL L n (planF L gs P), n + (planF L gs P).length) := by
  intro gs
  induction gs with
  | nil => intro P; rfl
  | cons g gs ih =>
    intro P
    rw [seqF, planF]
    by_cases h : findL L g = none ∧ g ∉ P
    · rw [if_pos (find_add.mpr h), if_pos h, ← ih (P ++ [g]), addL_app, List.length_append, List.length_singleton]
      congr 1
      push_cast
      omega
    · rw [if_neg (fun z => h (find_add.mp z)), if_neg h, ih]
/-- a step's record -/
def stpL (r made : Int) (q : List Rw) (a b : Int) : List Int := [r, made, numO q[0]?, numO q[1]?, numO q[2]?, a, b]
abbrev Rn : Type := List Rw × Int × (Int → Int) × List (List Int) × (Int → Int)
def byF (f : Int → Int) (n : Int) (m : Nat) (s : Int) : Int → Int := fun k => if n ≤ k ∧ k < n + m then s else f k
def makeA (ri : Int) (r : Ru) (q : List Rw) (β : Bd) (s : Rn) : Rn × Int := match nameA s.2.2.1 (plcL r.2.2.1) 0 β with
  | none => (s, 3)
  | some β' =>
    let P := planF s.1 (r.2.2.1.map (grA β')) []
    if 40 < s.1.length + P.length ∨ 200 < s.2.1 + P.length then (s, 3) else ((addL s.1 s.2.1 P, s.2.1 + P.length, mksU s.2.2.1 P, s.2.2.2.1 ++ [stpL ri P.length q (-1) (-1)], byF s.2.2.2.2 s.2.1 P.length s.2.2.2.1.length), 0)
def meltA (ri : Int) (r : Ru) (q : List Rw) (β : Bd) (s : Rn) : Rn × Int :=
  let a := worthB β r.2.2.2.1
  let b := worthB β r.2.2.2.2
  if a < 1000 ∧ b < 1000 then ((s.1, s.2.1, s.2.2.1, s.2.2.2.1 ++ [stpL ri 0 q a b], s.2.2.2.2), 2)
  else ((meltL s.1 (if a < b then b else a) (if b < a then b else a), s.2.1, s.2.2.1, s.2.2.2.1 ++ [stpL ri 0 q (if a < b then b else a) (if b < a then b else a)], s.2.2.2.2), 0)
def stepA (ri : Int) (r : Ru) (q : List Rw) (s : Rn) : Rn × Int :=
  let β := bindA r.2.1 q bd0
  if r.1 = 0 then makeA ri r q β s else if r.1 = 1 then meltA ri r q β s else ((s.1, s.2.1, s.2.2.1, s.2.2.2.1 ++ [stpL ri 0 q (-1) (-1)], s.2.2.2.2), 2)
/-- the first rule, from one on going round, that does not hold -/
def pickF (rs : List Ru) (L : List Rw) (turn : Nat) : Nat → Nat → Option (Nat × Ru × List Rw)
  | 0, _ => none
  | m + 1, k => match rs[(turn + k) % rs.length]? with
    | none => none
    | some r => match openL r L with
      | none => pickF rs L turn m (k + 1)
      | some q => some ((turn + k) % rs.length, r, q)
def runF (rs : List Ru) (most : Nat) : Nat → Nat → Rn → Rn × Int
  | 0, _, s => (s, 0)
  | f + 1, turn, s => match pickF rs s.1 turn rs.length 0 with
    | none => (s, 1)
    | some (i, r, q) => if s.2.2.2.1.length = most then (s, 3) else
      match stepA i r q s with
      | (s', k) => if k = 0 then runF rs most f (i + 1) s' else (s', k)
/-! leads, as functions of lists; what is left of a search for one -/
def lie1 (β : Bd) (s t : Int) : Option Bd := if 1000 ≤ s ∧ β (s - 1000) = -1 then some (bup β (s - 1000) t) else if (if 1000 ≤ s then β (s - 1000) else s) = t then some β else none
def lieW (β : Bd) (w v : Rw) : Option Bd := (lie1 β w.2.2.1 v.2.2.1).bind fun β => (lie1 β w.2.2.2.1 v.2.2.2.1).bind fun β => lie1 β w.2.2.2.2 v.2.2.2.2
abbrev LR : Type := Int × Nat × Bd × List Int
/-- go on where nothing was found -/
def orL (x : LR) (f : Nat → LR) (im : List Int) : LR := if x.1 = 0 then f x.2.1 else (x.1, x.2.1, x.2.2.1, im ++ x.2.2.2)
theorem orL_0 {x : LR} {f : Nat → LR} {im : List Int} (h : x.1 = 0) : orL x f im = f x.2.1 := if_pos h
theorem orL_n {x : LR} {f : Nat → LR} {im : List Int} (h : x.1 ≠ 0) : orL x f im = (x.1, x.2.1, x.2.2.1, im ++ x.2.2.2) := if_neg h
theorem orL_or {x : LR} {f g : Nat → LR} {im jm : List Int} : orL (orL x f jm) g im = orL x (fun k => orL (f k) g im) (im ++ jm) := by
  by_cases h : x.1 = 0
  · rw [orL_0 h, orL_0 h]
  · have e : (orL x f jm).1 ≠ 0 := by rw [orL_n h]; exact h
    rw [orL_n e, orL_n h, orL_n h, List.append_assoc]
def tryF (nx : Bd → Nat → LR) (w : Rw) (β : Bd) : List Rw → Nat → LR
  | [], k => (0, k, β, [])
  | v :: T, k => if v.2.1 = w.2.1 then (if k = 20000 then (2, k, β, []) else match lieW β w v with
      | none => tryF nx w β T (k + 1)
      | some β' => orL (nx β' (k + 1)) (fun k => tryF nx w β T k) [v.1])
    else tryF nx w β T k
def leadF (C1 C2 : Int → Int) (T : List Rw) : List Rw → Bd → Nat → LR
  | [], β, k => (1, k, β, [])
  | w :: S, β, k => tryF (leadF C1 C2 T S) w β (if C2 w.2.1 = C1 w.2.1 then T else []) k
/-- a level: row, stands, targets left, rows behind, images ahead -/
abbrev Fl : Type := Rw × Bd × List Rw × List Rw × List Int
def contF (C1 C2 : Int → Int) (T : List Rw) : List Fl → Nat → LR
  | [], k => (0, k, bd0, [])
  | (w, β, q, S, im) :: fs, k => orL (tryF (leadF C1 C2 T S) w β q k) (fun k => contF C1 C2 T fs k) im
section A3
variable {C1 C2 : Int → Int} {T q S : List Rw} {w v w2 : Rw} {β β' : Bd} {im : List Int} {fs : List Fl} {k : Nat}
theorem cont_pop : contF C1 C2 T ((w, β, [], S, im) :: fs) k = contF C1 C2 T fs k := by
  rw [contF, tryF, orL_0 rfl]
theorem cont_skip (h : v.2.1 ≠ w.2.1) : contF C1 C2 T ((w, β, v :: q, S, im) :: fs) k = contF C1 C2 T ((w, β, q, S, im) :: fs) k := by
  rw [contF, contF, tryF, if_neg h]
theorem cont_spent (h : v.2.1 = w.2.1) (hk : k = 20000) : contF C1 C2 T ((w, β, v :: q, S, im) :: fs) k = (2, k, β, im) := by
  rw [contF, tryF, if_pos h, if_pos hk, orL_n (show (2 : Int) ≠ 0 by decide), List.append_nil]
theorem cont_none (h : v.2.1 = w.2.1) (hk : k ≠ 20000) (hl : lieW β w v = none) : contF C1 C2 T ((w, β, v :: q, S, im) :: fs) k = contF C1 C2 T ((w, β, q, S, im) :: fs) (k + 1) := by
  rw [contF, contF, tryF, if_pos h, if_neg hk, hl]
theorem cont_led (h : v.2.1 = w.2.1) (hk : k ≠ 20000) (hl : lieW β w v = some β') : contF C1 C2 T ((w, β, v :: q, [], im) :: fs) k = (1, k + 1, β', im ++ [v.1]) := by
  rw [contF, tryF, if_pos h, if_neg hk, hl]
  dsimp only
  rw [orL_or]
  show orL (1, k + 1, β', []) _ _ = _
  rw [orL_n (show (1 : Int) ≠ 0 by decide), List.append_nil]
theorem cont_push (h : v.2.1 = w.2.1) (hk : k ≠ 20000) (hl : lieW β w v = some β') : contF C1 C2 T ((w, β, v :: q, w2 :: S, im) :: fs) k = contF C1 C2 T ((w2, β', (if C2 w2.2.1 = C1 w2.2.1 then T else []), S, im ++ [v.1]) :: (w, β, q, w2 :: S, im) :: fs) (k + 1) := by
  conv => lhs; rw [contF, tryF, if_pos h, if_neg hk, hl]
  dsimp only
  rw [orL_or]
  rfl
end A3
theorem leadF_cont {C1 C2 : Int → Int} {T S : List Rw} {w : Rw} {β : Bd} {k : Nat} : ((leadF C1 C2 T (w :: S) β k).1 = 0 → contF C1 C2 T [(w, β, (if C2 w.2.1 = C1 w.2.1 then T else []), S, [])] k = (0, (leadF C1 C2 T (w :: S) β k).2.1, bd0, [])) ∧ ((leadF C1 C2 T (w :: S) β k).1 ≠ 0 → contF C1 C2 T [(w, β, (if C2 w.2.1 = C1 w.2.1 then T else []), S, [])] k = leadF C1 C2 T (w :: S) β k) := by
  rw [leadF]
  constructor
  · intro h
    rw [contF, orL_0 h, contF]
  · intro h
    rw [contF, orL_n h, List.nil_append]
/-- the core: rows go while they lead into those that are left -/
def shrF (C : Int → Int) (L : List Rw) : List Rw → Int × List Rw
  | [] => (0, L)
  | w :: S => if (leadF C C (L.filter fun v => decide (v.1 ≠ w.1)) L bd0 0).1 = 0 then shrF C L S
    else if (leadF C C (L.filter fun v => decide (v.1 ≠ w.1)) L bd0 0).1 = 1 then (1, L.filter fun v => decide (v.1 ∈ (leadF C C (L.filter fun v => decide (v.1 ≠ w.1)) L bd0 0).2.2.2))
    else (2, L)
def coreF (C : Int → Int) : Nat → List Rw → Option (List Rw)
  | 0, L => some L
  | n + 1, L => if (shrF C L L).1 = 0 then some L else if (shrF C L L).1 = 1 then coreF C n (shrF C L L).2 else none
/-- answers in order -/
def insC : List Int → Int → List Int
  | [], c => [c]
  | a :: t, c => if a < c then a :: insC t c else if a = c then a :: t else c :: a :: t
theorem lit_fresh {C1 C2 : Int → Int} {T : List Rw} : ∀ (S : List Rw) (β : Bd) (k : Nat), (leadF C1 C2 T S β k).1 = 0 ∨ (leadF C1 C2 T S β k).1 = 1 ∨ (leadF C1 C2 T S β k).1 = 2 := by
  intro S
  induction S with
  | nil => intro β k; exact Or.inr (Or.inl rfl)
  | cons w S ih =>
    intro β k
    rw [leadF]
    have : ∀ (q : List Rw) (k : Nat), (tryF (leadF C1 C2 T S) w β q k).1 = 0 ∨ (tryF (leadF C1 C2 T S) w β q k).1 = 1 ∨ (tryF (leadF C1 C2 T S) w β q k).1 = 2 := by
      intro q
      induction q with
      | nil => intro k; exact Or.inl rfl
      | cons v q ihq =>
        intro k
        rw [tryF]
        split
        · split
          · exact Or.inr (Or.inr rfl)
          · split
            · exact ihq _
            · rename_i β' _
              by_cases h0 : (leadF C1 C2 T S β' (k + 1)).1 = 0
              · rw [orL_0 h0]
                exact ihq _
              · rw [orL_n h0]
                exact ih _ _
        · exact ihq _
    exact this _ k
/-- who leads has an image for each row, among the targets -/
theorem lead_im {C1 C2 : Int → Int} {T : List Rw} : ∀ (S : List Rw) (β : Bd) (k : Nat), (leadF C1 C2 T S β k).1 = 1 → (leadF C1 C2 T S β k).2.2.2.length = S.length ∧ ∀ n ∈ (leadF C1 C2 T S β k).2.2.2, ∃ v ∈ T, v.1 = n := by
  intro S
  induction S with
  | nil => intro β k _; exact ⟨rfl, fun n hn => by cases hn⟩
  | cons w S ih =>
    intro β k
    rw [leadF]
    have : ∀ (q : List Rw) (k : Nat), (∀ v ∈ q, v ∈ T) → (tryF (leadF C1 C2 T S) w β q k).1 = 1 → (tryF (leadF C1 C2 T S) w β q k).2.2.2.length = (w :: S).length ∧ ∀ n ∈ (tryF (leadF C1 C2 T S) w β q k).2.2.2, ∃ v ∈ T, v.1 = n := by
      intro q
      induction q with
      | nil => intro k _ h; cases h
      | cons v q ihq =>
        intro k hq
        have hq' := fun u hu => hq u (List.mem_cons_of_mem _ hu)
        rw [tryF]
        split
        · split
          · intro h; cases h
          · split
            · exact ihq _ hq'
            · rename_i β' _
              by_cases h0 : (leadF C1 C2 T S β' (k + 1)).1 = 0
              · rw [orL_0 h0]
                exact ihq _ hq'
              · rw [orL_n h0]
                intro h
                obtain ⟨e1, e2⟩ := ih β' (k + 1) h
                refine ⟨by simp [e1], fun n hn => ?_⟩
                rcases List.mem_cons.mp hn with rfl | hn
                · exact ⟨v, hq v List.mem_cons_self, rfl⟩
                · exact e2 n hn
        · exact ihq _ hq'
    exact this _ k (fun v hv => by
      split at hv
      · exact hv
      · cases hv)
theorem shr_len {C : Int → Int} {L : List Rw} : ∀ S : List Rw, (∀ w ∈ S, w ∈ L) → (shrF C L S).1 = 1 → (shrF C L S).2.length < L.length := by
  intro S
  induction S with
  | nil => intro _ h; cases h
  | cons w S ih =>
    intro hS
    rw [shrF]
    split
    · exact ih (fun v hv => hS v (List.mem_cons_of_mem _ hv))
    · split
      · rename_i h1
        intro _
        obtain ⟨_, e2⟩ := lead_im L bd0 0 h1
        have hw := hS w List.mem_cons_self
        dsimp only
        apply List.length_filter_lt_length_iff_exists.mpr
        refine ⟨w, hw, fun hn => ?_⟩
        rw [decide_eq_true_eq] at hn
        obtain ⟨v, hv, e⟩ := e2 _ hn
        rw [List.mem_filter] at hv
        simp [e] at hv
      · intro h; cases h
theorem coreF_more {C : Int → Int} : ∀ (n m : Nat) (L : List Rw), L.length ≤ n → n ≤ m → coreF C m L = coreF C n L := by
  intro n
  induction n with
  | zero =>
    intro m L h1 h2
    obtain rfl : L = [] := List.length_eq_zero_iff.mp (by omega)
    cases m with
    | zero => rfl
    | succ m => rfl
  | succ n ih =>
    intro m L h1 h2
    cases m with
    | zero => omega
    | succ m =>
      rw [coreF, coreF]
      split
      · rfl
      · split
        · rename_i h
          exact ih m _ (by have := shr_len L (fun _ h => h) h; omega) (by omega)
        · rfl
