/-! the cases of the law (wip/whole/gen13.py) -/
/-- one case of the law: both have answered the same -/
def Cs (sc : Scr) (d pc : Nat) (i : Int) (σ : St) : Prop := ∃ (A : AS) (ρ : St), VV A ρ ∧ ∀ (u : Bool × Nat × Nat × Int) (l5 l6 : Option V), ∃ (u' : Bool × Nat × Nat × Int) (l5' l6' : Option V), (u'.2.1 ≤ u.2.1 + 1 ∧ u'.2.2.1 ≤ u.2.2.1 + 6) ∧ ∀ (Q : Rs → HS → Prop), Ex sc d 274 pc [some (vS 9), some (vR 0), some (vR 373), some (vR 404), some (vI i), l5, l6] [] (wH σ u) Q ↔ Ex sc d 274 1660 [some (vS 9), some (vR 0), some (vR 373), some (vR 404), some (vI i), l5', l6'] [] (wH ρ u') Q
section Cs
variable {sc : Scr} {d : Nat} {σ : St} {A : AS} {i : Int}
theorem inL_of {v : Int} (h : inR v) : inL v := ⟨by have := h.1; omega, by have := h.2; omega⟩
theorem inR_01 {k : Int} (h : 0 ≤ k ∧ k ≤ 2) : inR k := ⟨by omega, by omega⟩
theorem cmp_e {v : Int} : (if v < v then (-1 : Int) else if v = v then 0 else 1) = 0 := by rw [if_neg (by omega), if_pos rfl]
theorem c_load (hd : 200 ≤ d) (i0 : 0 ≤ i) (i1 : i + 6 ≤ sc.1) (hn : sc.1 ≤ 3072) (hr : ∀ j, inR (sc.2 j)) (V : VV A σ) : Cs sc d 250 i σ := by
  have L := w_load (sc := sc) (d := d - 1) (σ := σ) (by omega) (op_load (d := d - 1 - 1) (by omega) (hr (i + 1).toNat) V)
  have th := fun (S : St) u Q => s_thrown (sc := sc) (σ := S) (u := u) (Q := Q) (d := d - 1)
  have sn : sc.1 < 2147483648 := by omega
  rcases L with ⟨A', τ, ρ, v, V', iv, z0, rw_, rr⟩ | ⟨A', τ, ρ, v, k, V', iv, hk, z0, rw_, rr⟩
  · unfold RnA at rr
    have il := inL_of iv
    refine ⟨A', ρ, V', fun u l5 l6 => ⟨stU u (v), some (vI 0), some (vI v), ⟨Nat.le_succ _, Nat.le_add_right _ 6⟩, fun Q => ?_⟩⟩
    have eu : ∀ u x, (stU u x).2.2.2 = x := fun _ _ => rfl
    have rw2 : ∀ (u : Bool × Nat × Nat × Int) (Q : Rs → HS → Prop), Ex sc (d - 1) 21 0 [some (vR 0), some (vI (sc.2 (i + 1).toNat)), some (vR 404), none] [] (wH σ u) Q ↔ Q (.inl (some (vI 0))) (wH τ (stU u v)) := rw_
    simp (disch := first | assumption | omega | exact notL_I | exact notL_N | exact notL_R | exact oM | exact ooCh | exact catS_le (Nat.le_of_ble_eq_true rfl) | exact Nat.le_of_ble_eq_true rfl | rfl) only [x274_250, x274_251, x274_252, x274_254, x274_255, x274_256, x274_257, x274_258, x274_261, x274_263, x274_264, x274_265, x274_267, x274_268, x274_269, x274_270, x274_273, x274_275, x274_276, x274_279, x274_281, x274_284, x274_285, x274_286, x274_288, x274_291, x274_292, x274_293, x274_294, x274_296, x274_297, x274_298, x274_301, x274_302, x274_303, rw2, rr, th, z0, RL_, eu, cmp_e, Kc_some, if_pos, if_neg, ↓reduceIte, not_true_eq_false, not_false_eq_true]
  · unfold RnA at rr
    refine ⟨A', ρ, V', fun u l5 l6 => ⟨thU u, some (vI (k : Int)), some (vI v), ⟨Nat.le_refl _, Nat.le_refl _⟩, fun Q => ?_⟩⟩
    have k0 : ¬ (k : Int) = 0 := by omega
    have ik : inR (k : Int) := inR_01 (by omega)
    simp (disch := first | assumption | omega | exact notL_I | exact notL_N | exact notL_R | exact oM | exact ooCh | exact catS_le (Nat.le_of_ble_eq_true rfl) | exact Nat.le_of_ble_eq_true rfl | rfl) only [x274_250, x274_251, x274_252, x274_254, x274_255, x274_256, x274_257, x274_258, x274_261, x274_263, x274_264, x274_265, x274_267, x274_268, x274_269, x274_270, x274_273, x274_275, x274_276, x274_279, x274_281, x274_284, x274_285, x274_286, x274_288, x274_291, x274_292, x274_293, x274_294, x274_296, x274_297, x274_298, x274_301, x274_302, x274_303, rw_, rr, th, z0, k0, Kc_some, if_pos, if_neg, ↓reduceIte, not_true_eq_false, not_false_eq_true]
theorem c_copy (hd : 200 ≤ d) (i0 : 0 ≤ i) (i1 : i + 6 ≤ sc.1) (hn : sc.1 ≤ 3072) (hr : ∀ j, inR (sc.2 j)) (V : VV A σ) : Cs sc d 331 i σ := by
  have L := w_copy (sc := sc) (d := d - 1) (σ := σ) (by omega) (op_copy (d := d - 1 - 1) (by omega) (hr (i + 1).toNat) (hr (i + 2).toNat) V)
  have th := fun (S : St) u Q => s_thrown (sc := sc) (σ := S) (u := u) (Q := Q) (d := d - 1)
  have sn : sc.1 < 2147483648 := by omega
  rcases L with ⟨A', τ, ρ, v, V', iv, z0, rw_, rr⟩ | ⟨A', τ, ρ, v, k, V', iv, hk, z0, rw_, rr⟩
  · unfold RnA at rr
    have il := inL_of iv
    refine ⟨A', ρ, V', fun u l5 l6 => ⟨stU u (v), some (vI 0), some (vI v), ⟨Nat.le_succ _, Nat.le_add_right _ 6⟩, fun Q => ?_⟩⟩
    have eu : ∀ u x, (stU u x).2.2.2 = x := fun _ _ => rfl
    have rw2 : ∀ (u : Bool × Nat × Nat × Int) (Q : Rs → HS → Prop), Ex sc (d - 1) 73 0 [some (vR 0), some (vI (sc.2 (i + 1).toNat)), some (vI (sc.2 (i + 2).toNat)), some (vR 404), none] [] (wH σ u) Q ↔ Q (.inl (some (vI 0))) (wH τ (stU u v)) := rw_
    simp (disch := first | assumption | omega | exact notL_I | exact notL_N | exact notL_R | exact oM | exact ooCh | exact catS_le (Nat.le_of_ble_eq_true rfl) | exact Nat.le_of_ble_eq_true rfl | rfl) only [x274_331, x274_332, x274_333, x274_335, x274_336, x274_337, x274_338, x274_339, x274_341, x274_342, x274_343, x274_344, x274_345, x274_348, x274_350, x274_351, x274_352, x274_354, x274_355, x274_356, x274_357, x274_358, x274_360, x274_361, x274_362, x274_363, x274_366, x274_368, x274_369, x274_372, x274_374, x274_377, x274_378, x274_379, x274_381, x274_384, x274_385, x274_386, x274_387, x274_389, x274_390, x274_391, x274_394, x274_395, x274_396, rw2, rr, th, z0, RL_, eu, cmp_e, Kc_some, if_pos, if_neg, ↓reduceIte, not_true_eq_false, not_false_eq_true]
  · unfold RnA at rr
    refine ⟨A', ρ, V', fun u l5 l6 => ⟨thU u, some (vI (k : Int)), some (vI v), ⟨Nat.le_refl _, Nat.le_refl _⟩, fun Q => ?_⟩⟩
    have k0 : ¬ (k : Int) = 0 := by omega
    have ik : inR (k : Int) := inR_01 (by omega)
    simp (disch := first | assumption | omega | exact notL_I | exact notL_N | exact notL_R | exact oM | exact ooCh | exact catS_le (Nat.le_of_ble_eq_true rfl) | exact Nat.le_of_ble_eq_true rfl | rfl) only [x274_331, x274_332, x274_333, x274_335, x274_336, x274_337, x274_338, x274_339, x274_341, x274_342, x274_343, x274_344, x274_345, x274_348, x274_350, x274_351, x274_352, x274_354, x274_355, x274_356, x274_357, x274_358, x274_360, x274_361, x274_362, x274_363, x274_366, x274_368, x274_369, x274_372, x274_374, x274_377, x274_378, x274_379, x274_381, x274_384, x274_385, x274_386, x274_387, x274_389, x274_390, x274_391, x274_394, x274_395, x274_396, rw_, rr, th, z0, k0, Kc_some, if_pos, if_neg, ↓reduceIte, not_true_eq_false, not_false_eq_true]
theorem c_look (hd : 200 ≤ d) (i0 : 0 ≤ i) (i1 : i + 6 ≤ sc.1) (hn : sc.1 ≤ 3072) (hr : ∀ j, inR (sc.2 j)) (V : VV A σ) : Cs sc d 399 i σ := by
  have L := w_look (sc := sc) (d := d - 1) (σ := σ) (by omega) (op_look (d := d - 1 - 1) (by omega) (hr (i + 1).toNat) (hr (i + 2).toNat) V)
  have th := fun (S : St) u Q => s_thrown (sc := sc) (σ := S) (u := u) (Q := Q) (d := d - 1)
  have sn : sc.1 < 2147483648 := by omega
  rcases L with ⟨A', τ, ρ, v, V', iv, z0, rw_, rr⟩ | ⟨A', τ, ρ, v, k, V', iv, hk, z0, rw_, rr⟩
  · unfold RnA at rr
    have il := inL_of iv
    refine ⟨A', ρ, V', fun u l5 l6 => ⟨stU u (v), some (vI 0), some (vI v), ⟨Nat.le_succ _, Nat.le_add_right _ 6⟩, fun Q => ?_⟩⟩
    have eu : ∀ u x, (stU u x).2.2.2 = x := fun _ _ => rfl
    have rw2 : ∀ (u : Bool × Nat × Nat × Int) (Q : Rs → HS → Prop), Ex sc (d - 1) 75 0 [some (vR 0), some (vI (sc.2 (i + 1).toNat)), some (vI (sc.2 (i + 2).toNat)), some (vR 404), none] [] (wH σ u) Q ↔ Q (.inl (some (vI 0))) (wH τ (stU u v)) := rw_
    simp (disch := first | assumption | omega | exact notL_I | exact notL_N | exact notL_R | exact oM | exact ooCh | exact catS_le (Nat.le_of_ble_eq_true rfl) | exact Nat.le_of_ble_eq_true rfl | rfl) only [x274_399, x274_400, x274_401, x274_403, x274_404, x274_405, x274_406, x274_407, x274_409, x274_410, x274_411, x274_412, x274_413, x274_416, x274_418, x274_419, x274_420, x274_422, x274_423, x274_424, x274_425, x274_426, x274_428, x274_429, x274_430, x274_431, x274_434, x274_436, x274_437, x274_440, x274_442, x274_445, x274_446, x274_447, x274_449, x274_452, x274_453, x274_454, x274_455, x274_457, x274_458, x274_459, x274_462, x274_463, x274_464, rw2, rr, th, z0, RL_, eu, cmp_e, Kc_some, if_pos, if_neg, ↓reduceIte, not_true_eq_false, not_false_eq_true]
  · unfold RnA at rr
    refine ⟨A', ρ, V', fun u l5 l6 => ⟨thU u, some (vI (k : Int)), some (vI v), ⟨Nat.le_refl _, Nat.le_refl _⟩, fun Q => ?_⟩⟩
    have k0 : ¬ (k : Int) = 0 := by omega
    have ik : inR (k : Int) := inR_01 (by omega)
    simp (disch := first | assumption | omega | exact notL_I | exact notL_N | exact notL_R | exact oM | exact ooCh | exact catS_le (Nat.le_of_ble_eq_true rfl) | exact Nat.le_of_ble_eq_true rfl | rfl) only [x274_399, x274_400, x274_401, x274_403, x274_404, x274_405, x274_406, x274_407, x274_409, x274_410, x274_411, x274_412, x274_413, x274_416, x274_418, x274_419, x274_420, x274_422, x274_423, x274_424, x274_425, x274_426, x274_428, x274_429, x274_430, x274_431, x274_434, x274_436, x274_437, x274_440, x274_442, x274_445, x274_446, x274_447, x274_449, x274_452, x274_453, x274_454, x274_455, x274_457, x274_458, x274_459, x274_462, x274_463, x274_464, rw_, rr, th, z0, k0, Kc_some, if_pos, if_neg, ↓reduceIte, not_true_eq_false, not_false_eq_true]
theorem c_row (hd : 200 ≤ d) (i0 : 0 ≤ i) (i1 : i + 6 ≤ sc.1) (hn : sc.1 ≤ 3072) (hr : ∀ j, inR (sc.2 j)) (V : VV A σ) : Cs sc d 467 i σ := by
  have L := w_row (sc := sc) (d := d - 1) (σ := σ) (by omega) (op_row (d := d - 1 - 1) (by omega) (hr (i + 1).toNat) (hr (i + 2).toNat) (hr (i + 3).toNat) V)
  have th := fun (S : St) u Q => s_thrown (sc := sc) (σ := S) (u := u) (Q := Q) (d := d - 1)
  have sn : sc.1 < 2147483648 := by omega
  rcases L with ⟨A', τ, ρ, v, V', iv, z0, rw_, rr⟩ | ⟨A', τ, ρ, v, k, V', iv, hk, z0, rw_, rr⟩
  · unfold RnA at rr
    have il := inL_of iv
    refine ⟨A', ρ, V', fun u l5 l6 => ⟨stU u (v), some (vI 0), some (vI v), ⟨Nat.le_succ _, Nat.le_add_right _ 6⟩, fun Q => ?_⟩⟩
    have eu : ∀ u x, (stU u x).2.2.2 = x := fun _ _ => rfl
    have rw2 : ∀ (u : Bool × Nat × Nat × Int) (Q : Rs → HS → Prop), Ex sc (d - 1) 80 0 [some (vR 0), some (vI (sc.2 (i + 1).toNat)), some (vI (sc.2 (i + 2).toNat)), some (vI (sc.2 (i + 3).toNat)), some (vR 404), none] [] (wH σ u) Q ↔ Q (.inl (some (vI 0))) (wH τ (stU u v)) := rw_
    simp (disch := first | assumption | omega | exact notL_I | exact notL_N | exact notL_R | exact oM | exact ooCh | exact catS_le (Nat.le_of_ble_eq_true rfl) | exact Nat.le_of_ble_eq_true rfl | rfl) only [x274_467, x274_468, x274_469, x274_471, x274_472, x274_473, x274_474, x274_475, x274_477, x274_478, x274_479, x274_480, x274_481, x274_483, x274_484, x274_485, x274_486, x274_487, x274_490, x274_492, x274_493, x274_494, x274_496, x274_497, x274_498, x274_499, x274_500, x274_502, x274_503, x274_504, x274_505, x274_506, x274_508, x274_509, x274_510, x274_511, x274_514, x274_516, x274_517, x274_520, x274_522, x274_525, x274_526, x274_527, x274_529, x274_532, x274_533, x274_534, x274_535, x274_537, x274_538, x274_539, x274_542, x274_543, x274_544, rw2, rr, th, z0, RL_, eu, cmp_e, Kc_some, if_pos, if_neg, ↓reduceIte, not_true_eq_false, not_false_eq_true]
  · unfold RnA at rr
    refine ⟨A', ρ, V', fun u l5 l6 => ⟨thU u, some (vI (k : Int)), some (vI v), ⟨Nat.le_refl _, Nat.le_refl _⟩, fun Q => ?_⟩⟩
    have k0 : ¬ (k : Int) = 0 := by omega
    have ik : inR (k : Int) := inR_01 (by omega)
    simp (disch := first | assumption | omega | exact notL_I | exact notL_N | exact notL_R | exact oM | exact ooCh | exact catS_le (Nat.le_of_ble_eq_true rfl) | exact Nat.le_of_ble_eq_true rfl | rfl) only [x274_467, x274_468, x274_469, x274_471, x274_472, x274_473, x274_474, x274_475, x274_477, x274_478, x274_479, x274_480, x274_481, x274_483, x274_484, x274_485, x274_486, x274_487, x274_490, x274_492, x274_493, x274_494, x274_496, x274_497, x274_498, x274_499, x274_500, x274_502, x274_503, x274_504, x274_505, x274_506, x274_508, x274_509, x274_510, x274_511, x274_514, x274_516, x274_517, x274_520, x274_522, x274_525, x274_526, x274_527, x274_529, x274_532, x274_533, x274_534, x274_535, x274_537, x274_538, x274_539, x274_542, x274_543, x274_544, rw_, rr, th, z0, k0, Kc_some, if_pos, if_neg, ↓reduceIte, not_true_eq_false, not_false_eq_true]
theorem c_put (hd : 200 ≤ d) (i0 : 0 ≤ i) (i1 : i + 6 ≤ sc.1) (hn : sc.1 ≤ 3072) (hr : ∀ j, inR (sc.2 j)) (V : VV A σ) : Cs sc d 547 i σ := by
  have L := w_put (sc := sc) (d := d - 1) (σ := σ) (by omega) (op_put (d := d - 1 - 1) (by omega) (hr (i + 1).toNat) (hr (i + 2).toNat) (hr (i + 3).toNat) (hr (i + 4).toNat) (hr (i + 5).toNat) V)
  have th := fun (S : St) u Q => s_thrown (sc := sc) (σ := S) (u := u) (Q := Q) (d := d - 1)
  have sn : sc.1 < 2147483648 := by omega
  rcases L with ⟨A', τ, ρ, v, V', iv, z0, rw_, rr⟩ | ⟨A', τ, ρ, v, k, V', iv, hk, z0, rw_, rr⟩
  · unfold RnA at rr
    have il := inL_of iv
    refine ⟨A', ρ, V', fun u l5 l6 => ⟨stU u (v), some (vI 0), some (vI v), ⟨Nat.le_succ _, Nat.le_add_right _ 6⟩, fun Q => ?_⟩⟩
    have eu : ∀ u x, (stU u x).2.2.2 = x := fun _ _ => rfl
    have rw2 : ∀ (u : Bool × Nat × Nat × Int) (Q : Rs → HS → Prop), Ex sc (d - 1) 83 0 [some (vR 0), some (vI (sc.2 (i + 1).toNat)), some (vI (sc.2 (i + 2).toNat)), some (vI (sc.2 (i + 3).toNat)), some (vI (sc.2 (i + 4).toNat)), some (vI (sc.2 (i + 5).toNat)), some (vR 404), none] [] (wH σ u) Q ↔ Q (.inl (some (vI 0))) (wH τ (stU u v)) := rw_
    simp (disch := first | assumption | omega | exact notL_I | exact notL_N | exact notL_R | exact oM | exact ooCh | exact catS_le (Nat.le_of_ble_eq_true rfl) | exact Nat.le_of_ble_eq_true rfl | rfl) only [x274_547, x274_548, x274_549, x274_551, x274_552, x274_553, x274_554, x274_555, x274_557, x274_558, x274_559, x274_560, x274_561, x274_563, x274_564, x274_565, x274_566, x274_567, x274_569, x274_570, x274_571, x274_572, x274_573, x274_575, x274_576, x274_577, x274_578, x274_579, x274_582, x274_584, x274_585, x274_586, x274_588, x274_589, x274_590, x274_591, x274_592, x274_594, x274_595, x274_596, x274_597, x274_598, x274_600, x274_601, x274_602, x274_603, x274_604, x274_606, x274_607, x274_608, x274_609, x274_610, x274_612, x274_613, x274_614, x274_615, x274_618, x274_620, x274_621, x274_624, x274_626, x274_629, x274_630, x274_631, x274_633, x274_636, x274_637, x274_638, x274_639, x274_641, x274_642, x274_643, x274_646, x274_647, x274_648, rw2, rr, th, z0, RL_, eu, cmp_e, Kc_some, if_pos, if_neg, ↓reduceIte, not_true_eq_false, not_false_eq_true]
  · unfold RnA at rr
    refine ⟨A', ρ, V', fun u l5 l6 => ⟨thU u, some (vI (k : Int)), some (vI v), ⟨Nat.le_refl _, Nat.le_refl _⟩, fun Q => ?_⟩⟩
    have k0 : ¬ (k : Int) = 0 := by omega
    have ik : inR (k : Int) := inR_01 (by omega)
    simp (disch := first | assumption | omega | exact notL_I | exact notL_N | exact notL_R | exact oM | exact ooCh | exact catS_le (Nat.le_of_ble_eq_true rfl) | exact Nat.le_of_ble_eq_true rfl | rfl) only [x274_547, x274_548, x274_549, x274_551, x274_552, x274_553, x274_554, x274_555, x274_557, x274_558, x274_559, x274_560, x274_561, x274_563, x274_564, x274_565, x274_566, x274_567, x274_569, x274_570, x274_571, x274_572, x274_573, x274_575, x274_576, x274_577, x274_578, x274_579, x274_582, x274_584, x274_585, x274_586, x274_588, x274_589, x274_590, x274_591, x274_592, x274_594, x274_595, x274_596, x274_597, x274_598, x274_600, x274_601, x274_602, x274_603, x274_604, x274_606, x274_607, x274_608, x274_609, x274_610, x274_612, x274_613, x274_614, x274_615, x274_618, x274_620, x274_621, x274_624, x274_626, x274_629, x274_630, x274_631, x274_633, x274_636, x274_637, x274_638, x274_639, x274_641, x274_642, x274_643, x274_646, x274_647, x274_648, rw_, rr, th, z0, k0, Kc_some, if_pos, if_neg, ↓reduceIte, not_true_eq_false, not_false_eq_true]
theorem c_strike (hd : 200 ≤ d) (i0 : 0 ≤ i) (i1 : i + 6 ≤ sc.1) (hn : sc.1 ≤ 3072) (hr : ∀ j, inR (sc.2 j)) (V : VV A σ) : Cs sc d 651 i σ := by
  have L := w_strike (sc := sc) (d := d - 1) (σ := σ) (by omega) (op_strike (d := d - 1 - 1) (by omega) (hr (i + 1).toNat) (hr (i + 2).toNat) V)
  have th := fun (S : St) u Q => s_thrown (sc := sc) (σ := S) (u := u) (Q := Q) (d := d - 1)
  have sn : sc.1 < 2147483648 := by omega
  rcases L with ⟨A', τ, ρ, v, V', iv, z0, rw_, rr⟩ | ⟨A', τ, ρ, v, k, V', iv, hk, z0, rw_, rr⟩
  · unfold RnA at rr
    have il := inL_of iv
    refine ⟨A', ρ, V', fun u l5 l6 => ⟨stU u (g01 v), some (vI 0), some (vI v), ⟨Nat.le_succ _, Nat.le_add_right _ 6⟩, fun Q => ?_⟩⟩
    have eu : ∀ u x, (stU u x).2.2.2 = x := fun _ _ => rfl
    have ig : inL (g01 v) := by unfold g01; split <;> exact ⟨by decide, by decide⟩
    by_cases v0 : v = 0
    · have e1 : g01 v = 0 := by unfold g01; rw [if_pos v0]
      rw [e1] at ig rw_ ⊢
      simp (disch := first | assumption | omega | exact notL_I | exact notL_N | exact notL_R | exact oM | exact ooCh | exact catS_le (Nat.le_of_ble_eq_true rfl) | exact Nat.le_of_ble_eq_true rfl | rfl) only [x274_651, x274_652, x274_653, x274_655, x274_656, x274_657, x274_658, x274_659, x274_661, x274_662, x274_663, x274_664, x274_665, x274_668, x274_670, x274_671, x274_672, x274_674, x274_675, x274_676, x274_677, x274_678, x274_680, x274_681, x274_682, x274_683, x274_686, x274_688, x274_689, x274_692, x274_694, x274_697, x274_698, x274_699, x274_701, x274_704, x274_705, x274_706, x274_707, x274_709, x274_712, x274_713, x274_716, x274_717, x274_718, x274_721, x274_722, x274_723, rw_, rr, th, z0, RL_, eu, cmp_e, v0, Kc_some, if_pos, if_neg, ↓reduceIte, not_true_eq_false, not_false_eq_true]
    · have e1 : g01 v = 1 := by unfold g01; rw [if_neg v0]
      rw [e1] at ig rw_ ⊢
      simp (disch := first | assumption | omega | exact notL_I | exact notL_N | exact notL_R | exact oM | exact ooCh | exact catS_le (Nat.le_of_ble_eq_true rfl) | exact Nat.le_of_ble_eq_true rfl | rfl) only [x274_651, x274_652, x274_653, x274_655, x274_656, x274_657, x274_658, x274_659, x274_661, x274_662, x274_663, x274_664, x274_665, x274_668, x274_670, x274_671, x274_672, x274_674, x274_675, x274_676, x274_677, x274_678, x274_680, x274_681, x274_682, x274_683, x274_686, x274_688, x274_689, x274_692, x274_694, x274_697, x274_698, x274_699, x274_701, x274_704, x274_705, x274_706, x274_707, x274_709, x274_712, x274_713, x274_716, x274_717, x274_718, x274_721, x274_722, x274_723, rw_, rr, th, z0, RL_, eu, cmp_e, v0, Kc_some, if_pos, if_neg, ↓reduceIte, not_true_eq_false, not_false_eq_true]
  · unfold RnA at rr
    refine ⟨A', ρ, V', fun u l5 l6 => ⟨thU u, some (vI (k : Int)), some (vI v), ⟨Nat.le_refl _, Nat.le_refl _⟩, fun Q => ?_⟩⟩
    have k0 : ¬ (k : Int) = 0 := by omega
    have ik : inR (k : Int) := inR_01 (by omega)
    simp (disch := first | assumption | omega | exact notL_I | exact notL_N | exact notL_R | exact oM | exact ooCh | exact catS_le (Nat.le_of_ble_eq_true rfl) | exact Nat.le_of_ble_eq_true rfl | rfl) only [x274_651, x274_652, x274_653, x274_655, x274_656, x274_657, x274_658, x274_659, x274_661, x274_662, x274_663, x274_664, x274_665, x274_668, x274_670, x274_671, x274_672, x274_674, x274_675, x274_676, x274_677, x274_678, x274_680, x274_681, x274_682, x274_683, x274_686, x274_688, x274_689, x274_692, x274_694, x274_697, x274_698, x274_699, x274_701, x274_704, x274_705, x274_706, x274_707, x274_709, x274_712, x274_713, x274_716, x274_717, x274_718, x274_721, x274_722, x274_723, rw_, rr, th, z0, k0, Kc_some, if_pos, if_neg, ↓reduceIte, not_true_eq_false, not_false_eq_true]
theorem c_run (hd : 200 ≤ d) (i0 : 0 ≤ i) (i1 : i + 6 ≤ sc.1) (hn : sc.1 ≤ 3072) (hr : ∀ j, inR (sc.2 j)) (V : VV A σ) : Cs sc d 726 i σ := by
  have L := w_run (sc := sc) (d := d - 1) (σ := σ) (by omega) (op_run (d := d - 1 - 1) (by omega) (hr (i + 1).toNat) (hr (i + 2).toNat) V)
  have th := fun (S : St) u Q => s_thrown (sc := sc) (σ := S) (u := u) (Q := Q) (d := d - 1)
  have sn : sc.1 < 2147483648 := by omega
  rcases L with ⟨A', τ, ρ, v, V', iv, z0, rw_, rr⟩ | ⟨A', τ, ρ, v, k, V', iv, hk, z0, rw_, rr⟩
  · unfold RnA at rr
    have il := inL_of iv
    refine ⟨A', ρ, V', fun u l5 l6 => ⟨stU u (v), some (vI 0), some (vI v), ⟨Nat.le_succ _, Nat.le_add_right _ 6⟩, fun Q => ?_⟩⟩
    have eu : ∀ u x, (stU u x).2.2.2 = x := fun _ _ => rfl
    have rw2 : ∀ (u : Bool × Nat × Nat × Int) (Q : Rs → HS → Prop), Ex sc (d - 1) 91 0 [some (vR 0), some (vI (sc.2 (i + 1).toNat)), some (vI (sc.2 (i + 2).toNat)), some (vR 404), none] [] (wH σ u) Q ↔ Q (.inl (some (vI 0))) (wH τ (stU u v)) := rw_
    simp (disch := first | assumption | omega | exact notL_I | exact notL_N | exact notL_R | exact oM | exact ooCh | exact catS_le (Nat.le_of_ble_eq_true rfl) | exact Nat.le_of_ble_eq_true rfl | rfl) only [x274_726, x274_727, x274_728, x274_730, x274_731, x274_732, x274_733, x274_734, x274_736, x274_737, x274_738, x274_739, x274_740, x274_743, x274_745, x274_746, x274_747, x274_749, x274_750, x274_751, x274_752, x274_753, x274_755, x274_756, x274_757, x274_758, x274_761, x274_763, x274_764, x274_767, x274_769, x274_772, x274_773, x274_774, x274_776, x274_779, x274_780, x274_781, x274_782, x274_784, x274_785, x274_786, x274_789, x274_790, x274_791, rw2, rr, th, z0, RL_, eu, cmp_e, Kc_some, if_pos, if_neg, ↓reduceIte, not_true_eq_false, not_false_eq_true]
  · unfold RnA at rr
    refine ⟨A', ρ, V', fun u l5 l6 => ⟨thU u, some (vI (k : Int)), some (vI v), ⟨Nat.le_refl _, Nat.le_refl _⟩, fun Q => ?_⟩⟩
    have k0 : ¬ (k : Int) = 0 := by omega
    have ik : inR (k : Int) := inR_01 (by omega)
    simp (disch := first | assumption | omega | exact notL_I | exact notL_N | exact notL_R | exact oM | exact ooCh | exact catS_le (Nat.le_of_ble_eq_true rfl) | exact Nat.le_of_ble_eq_true rfl | rfl) only [x274_726, x274_727, x274_728, x274_730, x274_731, x274_732, x274_733, x274_734, x274_736, x274_737, x274_738, x274_739, x274_740, x274_743, x274_745, x274_746, x274_747, x274_749, x274_750, x274_751, x274_752, x274_753, x274_755, x274_756, x274_757, x274_758, x274_761, x274_763, x274_764, x274_767, x274_769, x274_772, x274_773, x274_774, x274_776, x274_779, x274_780, x274_781, x274_782, x274_784, x274_785, x274_786, x274_789, x274_790, x274_791, rw_, rr, th, z0, k0, Kc_some, if_pos, if_neg, ↓reduceIte, not_true_eq_false, not_false_eq_true]
theorem c_step (hd : 200 ≤ d) (i0 : 0 ≤ i) (i1 : i + 6 ≤ sc.1) (hn : sc.1 ≤ 3072) (hr : ∀ j, inR (sc.2 j)) (V : VV A σ) : Cs sc d 794 i σ := by
  have L := w_step (sc := sc) (d := d - 1) (σ := σ) (by omega) (op_step (d := d - 1 - 1) (by omega) (hr (i + 1).toNat) (hr (i + 2).toNat) (hr (i + 3).toNat) V)
  have th := fun (S : St) u Q => s_thrown (sc := sc) (σ := S) (u := u) (Q := Q) (d := d - 1)
  have sn : sc.1 < 2147483648 := by omega
  rcases L with ⟨A', τ, ρ, v, V', iv, z0, rw_, rr⟩ | ⟨A', τ, ρ, v, k, V', iv, hk, z0, rw_, rr⟩
  · unfold RnA at rr
    have il := inL_of iv
    refine ⟨A', ρ, V', fun u l5 l6 => ⟨stU u (v), some (vI 0), some (vI v), ⟨Nat.le_succ _, Nat.le_add_right _ 6⟩, fun Q => ?_⟩⟩
    have eu : ∀ u x, (stU u x).2.2.2 = x := fun _ _ => rfl
    have rw2 : ∀ (u : Bool × Nat × Nat × Int) (Q : Rs → HS → Prop), Ex sc (d - 1) 121 0 [some (vR 0), some (vI (sc.2 (i + 1).toNat)), some (vI (sc.2 (i + 2).toNat)), some (vI (sc.2 (i + 3).toNat)), some (vR 404), none] [] (wH σ u) Q ↔ Q (.inl (some (vI 0))) (wH τ (stU u v)) := rw_
    simp (disch := first | assumption | omega | exact notL_I | exact notL_N | exact notL_R | exact oM | exact ooCh | exact catS_le (Nat.le_of_ble_eq_true rfl) | exact Nat.le_of_ble_eq_true rfl | rfl) only [x274_794, x274_795, x274_796, x274_798, x274_799, x274_800, x274_801, x274_802, x274_804, x274_805, x274_806, x274_807, x274_808, x274_810, x274_811, x274_812, x274_813, x274_814, x274_817, x274_819, x274_820, x274_821, x274_823, x274_824, x274_825, x274_826, x274_827, x274_829, x274_830, x274_831, x274_832, x274_833, x274_835, x274_836, x274_837, x274_838, x274_841, x274_843, x274_844, x274_847, x274_849, x274_852, x274_853, x274_854, x274_856, x274_859, x274_860, x274_861, x274_862, x274_864, x274_865, x274_866, x274_869, x274_870, x274_871, rw2, rr, th, z0, RL_, eu, cmp_e, Kc_some, if_pos, if_neg, ↓reduceIte, not_true_eq_false, not_false_eq_true]
  · unfold RnA at rr
    refine ⟨A', ρ, V', fun u l5 l6 => ⟨thU u, some (vI (k : Int)), some (vI v), ⟨Nat.le_refl _, Nat.le_refl _⟩, fun Q => ?_⟩⟩
    have k0 : ¬ (k : Int) = 0 := by omega
    have ik : inR (k : Int) := inR_01 (by omega)
    simp (disch := first | assumption | omega | exact notL_I | exact notL_N | exact notL_R | exact oM | exact ooCh | exact catS_le (Nat.le_of_ble_eq_true rfl) | exact Nat.le_of_ble_eq_true rfl | rfl) only [x274_794, x274_795, x274_796, x274_798, x274_799, x274_800, x274_801, x274_802, x274_804, x274_805, x274_806, x274_807, x274_808, x274_810, x274_811, x274_812, x274_813, x274_814, x274_817, x274_819, x274_820, x274_821, x274_823, x274_824, x274_825, x274_826, x274_827, x274_829, x274_830, x274_831, x274_832, x274_833, x274_835, x274_836, x274_837, x274_838, x274_841, x274_843, x274_844, x274_847, x274_849, x274_852, x274_853, x274_854, x274_856, x274_859, x274_860, x274_861, x274_862, x274_864, x274_865, x274_866, x274_869, x274_870, x274_871, rw_, rr, th, z0, k0, Kc_some, if_pos, if_neg, ↓reduceIte, not_true_eq_false, not_false_eq_true]
theorem c_by (hd : 200 ≤ d) (i0 : 0 ≤ i) (i1 : i + 6 ≤ sc.1) (hn : sc.1 ≤ 3072) (hr : ∀ j, inR (sc.2 j)) (V : VV A σ) : Cs sc d 874 i σ := by
  have L := w_by (sc := sc) (d := d - 1) (σ := σ) (by omega) (op_by (d := d - 1 - 1) (by omega) (hr (i + 1).toNat) (hr (i + 2).toNat) V)
  have th := fun (S : St) u Q => s_thrown (sc := sc) (σ := S) (u := u) (Q := Q) (d := d - 1)
  have sn : sc.1 < 2147483648 := by omega
  rcases L with ⟨A', τ, ρ, v, V', iv, z0, rw_, rr⟩ | ⟨A', τ, ρ, v, k, V', iv, hk, z0, rw_, rr⟩
  · unfold RnA at rr
    have il := inL_of iv
    refine ⟨A', ρ, V', fun u l5 l6 => ⟨stU u (v), some (vI 0), some (vI v), ⟨Nat.le_succ _, Nat.le_add_right _ 6⟩, fun Q => ?_⟩⟩
    have eu : ∀ u x, (stU u x).2.2.2 = x := fun _ _ => rfl
    have rw2 : ∀ (u : Bool × Nat × Nat × Int) (Q : Rs → HS → Prop), Ex sc (d - 1) 124 0 [some (vR 0), some (vI (sc.2 (i + 1).toNat)), some (vI (sc.2 (i + 2).toNat)), some (vR 404), none] [] (wH σ u) Q ↔ Q (.inl (some (vI 0))) (wH τ (stU u v)) := rw_
    simp (disch := first | assumption | omega | exact notL_I | exact notL_N | exact notL_R | exact oM | exact ooCh | exact catS_le (Nat.le_of_ble_eq_true rfl) | exact Nat.le_of_ble_eq_true rfl | rfl) only [x274_874, x274_875, x274_876, x274_878, x274_879, x274_880, x274_881, x274_882, x274_884, x274_885, x274_886, x274_887, x274_888, x274_891, x274_893, x274_894, x274_895, x274_897, x274_898, x274_899, x274_900, x274_901, x274_903, x274_904, x274_905, x274_906, x274_909, x274_911, x274_912, x274_915, x274_917, x274_920, x274_921, x274_922, x274_924, x274_927, x274_928, x274_929, x274_930, x274_932, x274_933, x274_934, x274_937, x274_938, x274_939, rw2, rr, th, z0, RL_, eu, cmp_e, Kc_some, if_pos, if_neg, ↓reduceIte, not_true_eq_false, not_false_eq_true]
  · unfold RnA at rr
    refine ⟨A', ρ, V', fun u l5 l6 => ⟨thU u, some (vI (k : Int)), some (vI v), ⟨Nat.le_refl _, Nat.le_refl _⟩, fun Q => ?_⟩⟩
    have k0 : ¬ (k : Int) = 0 := by omega
    have ik : inR (k : Int) := inR_01 (by omega)
    simp (disch := first | assumption | omega | exact notL_I | exact notL_N | exact notL_R | exact oM | exact ooCh | exact catS_le (Nat.le_of_ble_eq_true rfl) | exact Nat.le_of_ble_eq_true rfl | rfl) only [x274_874, x274_875, x274_876, x274_878, x274_879, x274_880, x274_881, x274_882, x274_884, x274_885, x274_886, x274_887, x274_888, x274_891, x274_893, x274_894, x274_895, x274_897, x274_898, x274_899, x274_900, x274_901, x274_903, x274_904, x274_905, x274_906, x274_909, x274_911, x274_912, x274_915, x274_917, x274_920, x274_921, x274_922, x274_924, x274_927, x274_928, x274_929, x274_930, x274_932, x274_933, x274_934, x274_937, x274_938, x274_939, rw_, rr, th, z0, k0, Kc_some, if_pos, if_neg, ↓reduceIte, not_true_eq_false, not_false_eq_true]
theorem c_holds (hd : 200 ≤ d) (i0 : 0 ≤ i) (i1 : i + 6 ≤ sc.1) (hn : sc.1 ≤ 3072) (hr : ∀ j, inR (sc.2 j)) (V : VV A σ) : Cs sc d 942 i σ := by
  have L := w_holds (sc := sc) (d := d - 1) (σ := σ) (by omega) (op_holds (d := d - 1 - 1) (by omega) (hr (i + 1).toNat) (hr (i + 2).toNat) V)
  have th := fun (S : St) u Q => s_thrown (sc := sc) (σ := S) (u := u) (Q := Q) (d := d - 1)
  have sn : sc.1 < 2147483648 := by omega
  rcases L with ⟨A', τ, ρ, v, V', iv, z0, rw_, rr⟩ | ⟨A', τ, ρ, v, k, V', iv, hk, z0, rw_, rr⟩
  · unfold RnA at rr
    have il := inL_of iv
    refine ⟨A', ρ, V', fun u l5 l6 => ⟨stU u (v), some (vI 0), some (vI v), ⟨Nat.le_succ _, Nat.le_add_right _ 6⟩, fun Q => ?_⟩⟩
    have eu : ∀ u x, (stU u x).2.2.2 = x := fun _ _ => rfl
    have rw2 : ∀ (u : Bool × Nat × Nat × Int) (Q : Rs → HS → Prop), Ex sc (d - 1) 127 0 [some (vR 0), some (vI (sc.2 (i + 1).toNat)), some (vI (sc.2 (i + 2).toNat)), some (vR 404), none] [] (wH σ u) Q ↔ Q (.inl (some (vI 0))) (wH τ (stU u v)) := rw_
    simp (disch := first | assumption | omega | exact notL_I | exact notL_N | exact notL_R | exact oM | exact ooCh | exact catS_le (Nat.le_of_ble_eq_true rfl) | exact Nat.le_of_ble_eq_true rfl | rfl) only [x274_942, x274_943, x274_944, x274_946, x274_947, x274_948, x274_949, x274_950, x274_952, x274_953, x274_954, x274_955, x274_956, x274_959, x274_961, x274_962, x274_963, x274_965, x274_966, x274_967, x274_968, x274_969, x274_971, x274_972, x274_973, x274_974, x274_977, x274_979, x274_980, x274_983, x274_985, x274_988, x274_989, x274_990, x274_992, x274_995, x274_996, x274_997, x274_998, x274_1000, x274_1001, x274_1002, x274_1005, x274_1006, x274_1007, rw2, rr, th, z0, RL_, eu, cmp_e, Kc_some, if_pos, if_neg, ↓reduceIte, not_true_eq_false, not_false_eq_true]
  · unfold RnA at rr
    refine ⟨A', ρ, V', fun u l5 l6 => ⟨thU u, some (vI (k : Int)), some (vI v), ⟨Nat.le_refl _, Nat.le_refl _⟩, fun Q => ?_⟩⟩
    have k0 : ¬ (k : Int) = 0 := by omega
    have ik : inR (k : Int) := inR_01 (by omega)
    simp (disch := first | assumption | omega | exact notL_I | exact notL_N | exact notL_R | exact oM | exact ooCh | exact catS_le (Nat.le_of_ble_eq_true rfl) | exact Nat.le_of_ble_eq_true rfl | rfl) only [x274_942, x274_943, x274_944, x274_946, x274_947, x274_948, x274_949, x274_950, x274_952, x274_953, x274_954, x274_955, x274_956, x274_959, x274_961, x274_962, x274_963, x274_965, x274_966, x274_967, x274_968, x274_969, x274_971, x274_972, x274_973, x274_974, x274_977, x274_979, x274_980, x274_983, x274_985, x274_988, x274_989, x274_990, x274_992, x274_995, x274_996, x274_997, x274_998, x274_1000, x274_1001, x274_1002, x274_1005, x274_1006, x274_1007, rw_, rr, th, z0, k0, Kc_some, if_pos, if_neg, ↓reduceIte, not_true_eq_false, not_false_eq_true]
theorem c_hit (hd : 200 ≤ d) (i0 : 0 ≤ i) (i1 : i + 6 ≤ sc.1) (hn : sc.1 ≤ 3072) (hr : ∀ j, inR (sc.2 j)) (V : VV A σ) : Cs sc d 1010 i σ := by
  have L := w_hit (sc := sc) (d := d - 1) (σ := σ) (by omega) (op_hit (d := d - 1 - 1) (by omega) (hr (i + 1).toNat) (hr (i + 2).toNat) (hr (i + 3).toNat) V)
  have th := fun (S : St) u Q => s_thrown (sc := sc) (σ := S) (u := u) (Q := Q) (d := d - 1)
  have sn : sc.1 < 2147483648 := by omega
  rcases L with ⟨A', τ, ρ, v, V', iv, z0, rw_, rr⟩ | ⟨A', τ, ρ, v, k, V', iv, hk, z0, rw_, rr⟩
  · unfold RnA at rr
    have il := inL_of iv
    refine ⟨A', ρ, V', fun u l5 l6 => ⟨stU u (v), some (vI 0), some (vI v), ⟨Nat.le_succ _, Nat.le_add_right _ 6⟩, fun Q => ?_⟩⟩
    have eu : ∀ u x, (stU u x).2.2.2 = x := fun _ _ => rfl
    have rw2 : ∀ (u : Bool × Nat × Nat × Int) (Q : Rs → HS → Prop), Ex sc (d - 1) 129 0 [some (vR 0), some (vI (sc.2 (i + 1).toNat)), some (vI (sc.2 (i + 2).toNat)), some (vI (sc.2 (i + 3).toNat)), some (vR 404), none] [] (wH σ u) Q ↔ Q (.inl (some (vI 0))) (wH τ (stU u v)) := rw_
    simp (disch := first | assumption | omega | exact notL_I | exact notL_N | exact notL_R | exact oM | exact ooCh | exact catS_le (Nat.le_of_ble_eq_true rfl) | exact Nat.le_of_ble_eq_true rfl | rfl) only [x274_1010, x274_1011, x274_1012, x274_1014, x274_1015, x274_1016, x274_1017, x274_1018, x274_1020, x274_1021, x274_1022, x274_1023, x274_1024, x274_1026, x274_1027, x274_1028, x274_1029, x274_1030, x274_1033, x274_1035, x274_1036, x274_1037, x274_1039, x274_1040, x274_1041, x274_1042, x274_1043, x274_1045, x274_1046, x274_1047, x274_1048, x274_1049, x274_1051, x274_1052, x274_1053, x274_1054, x274_1057, x274_1059, x274_1060, x274_1063, x274_1065, x274_1068, x274_1069, x274_1070, x274_1072, x274_1075, x274_1076, x274_1077, x274_1078, x274_1080, x274_1081, x274_1082, x274_1085, x274_1086, x274_1087, rw2, rr, th, z0, RL_, eu, cmp_e, Kc_some, if_pos, if_neg, ↓reduceIte, not_true_eq_false, not_false_eq_true]
  · unfold RnA at rr
    refine ⟨A', ρ, V', fun u l5 l6 => ⟨thU u, some (vI (k : Int)), some (vI v), ⟨Nat.le_refl _, Nat.le_refl _⟩, fun Q => ?_⟩⟩
    have k0 : ¬ (k : Int) = 0 := by omega
    have ik : inR (k : Int) := inR_01 (by omega)
    simp (disch := first | assumption | omega | exact notL_I | exact notL_N | exact notL_R | exact oM | exact ooCh | exact catS_le (Nat.le_of_ble_eq_true rfl) | exact Nat.le_of_ble_eq_true rfl | rfl) only [x274_1010, x274_1011, x274_1012, x274_1014, x274_1015, x274_1016, x274_1017, x274_1018, x274_1020, x274_1021, x274_1022, x274_1023, x274_1024, x274_1026, x274_1027, x274_1028, x274_1029, x274_1030, x274_1033, x274_1035, x274_1036, x274_1037, x274_1039, x274_1040, x274_1041, x274_1042, x274_1043, x274_1045, x274_1046, x274_1047, x274_1048, x274_1049, x274_1051, x274_1052, x274_1053, x274_1054, x274_1057, x274_1059, x274_1060, x274_1063, x274_1065, x274_1068, x274_1069, x274_1070, x274_1072, x274_1075, x274_1076, x274_1077, x274_1078, x274_1080, x274_1081, x274_1082, x274_1085, x274_1086, x274_1087, rw_, rr, th, z0, k0, Kc_some, if_pos, if_neg, ↓reduceIte, not_true_eq_false, not_false_eq_true]
theorem c_hits (hd : 200 ≤ d) (i0 : 0 ≤ i) (i1 : i + 6 ≤ sc.1) (hn : sc.1 ≤ 3072) (hr : ∀ j, inR (sc.2 j)) (V : VV A σ) : Cs sc d 1090 i σ := by
  have L := w_hits (sc := sc) (d := d - 1) (σ := σ) (by omega) (op_hits (d := d - 1 - 1) (by omega) (hr (i + 1).toNat) (hr (i + 2).toNat) V)
  have th := fun (S : St) u Q => s_thrown (sc := sc) (σ := S) (u := u) (Q := Q) (d := d - 1)
  have sn : sc.1 < 2147483648 := by omega
  rcases L with ⟨A', τ, ρ, v, V', iv, z0, rw_, rr⟩ | ⟨A', τ, ρ, v, k, V', iv, hk, z0, rw_, rr⟩
  · unfold RnA at rr
    have il := inL_of iv
    refine ⟨A', ρ, V', fun u l5 l6 => ⟨stU u (v), some (vI 0), some (vI v), ⟨Nat.le_succ _, Nat.le_add_right _ 6⟩, fun Q => ?_⟩⟩
    have eu : ∀ u x, (stU u x).2.2.2 = x := fun _ _ => rfl
    have rw2 : ∀ (u : Bool × Nat × Nat × Int) (Q : Rs → HS → Prop), Ex sc (d - 1) 131 0 [some (vR 0), some (vI (sc.2 (i + 1).toNat)), some (vI (sc.2 (i + 2).toNat)), some (vR 404), none] [] (wH σ u) Q ↔ Q (.inl (some (vI 0))) (wH τ (stU u v)) := rw_
    simp (disch := first | assumption | omega | exact notL_I | exact notL_N | exact notL_R | exact oM | exact ooCh | exact catS_le (Nat.le_of_ble_eq_true rfl) | exact Nat.le_of_ble_eq_true rfl | rfl) only [x274_1090, x274_1091, x274_1092, x274_1094, x274_1095, x274_1096, x274_1097, x274_1098, x274_1100, x274_1101, x274_1102, x274_1103, x274_1104, x274_1107, x274_1109, x274_1110, x274_1111, x274_1113, x274_1114, x274_1115, x274_1116, x274_1117, x274_1119, x274_1120, x274_1121, x274_1122, x274_1125, x274_1127, x274_1128, x274_1131, x274_1133, x274_1136, x274_1137, x274_1138, x274_1140, x274_1143, x274_1144, x274_1145, x274_1146, x274_1148, x274_1149, x274_1150, x274_1153, x274_1154, x274_1155, rw2, rr, th, z0, RL_, eu, cmp_e, Kc_some, if_pos, if_neg, ↓reduceIte, not_true_eq_false, not_false_eq_true]
  · unfold RnA at rr
    refine ⟨A', ρ, V', fun u l5 l6 => ⟨thU u, some (vI (k : Int)), some (vI v), ⟨Nat.le_refl _, Nat.le_refl _⟩, fun Q => ?_⟩⟩
    have k0 : ¬ (k : Int) = 0 := by omega
    have ik : inR (k : Int) := inR_01 (by omega)
    simp (disch := first | assumption | omega | exact notL_I | exact notL_N | exact notL_R | exact oM | exact ooCh | exact catS_le (Nat.le_of_ble_eq_true rfl) | exact Nat.le_of_ble_eq_true rfl | rfl) only [x274_1090, x274_1091, x274_1092, x274_1094, x274_1095, x274_1096, x274_1097, x274_1098, x274_1100, x274_1101, x274_1102, x274_1103, x274_1104, x274_1107, x274_1109, x274_1110, x274_1111, x274_1113, x274_1114, x274_1115, x274_1116, x274_1117, x274_1119, x274_1120, x274_1121, x274_1122, x274_1125, x274_1127, x274_1128, x274_1131, x274_1133, x274_1136, x274_1137, x274_1138, x274_1140, x274_1143, x274_1144, x274_1145, x274_1146, x274_1148, x274_1149, x274_1150, x274_1153, x274_1154, x274_1155, rw_, rr, th, z0, k0, Kc_some, if_pos, if_neg, ↓reduceIte, not_true_eq_false, not_false_eq_true]
theorem c_leads (hd : 200 ≤ d) (i0 : 0 ≤ i) (i1 : i + 6 ≤ sc.1) (hn : sc.1 ≤ 3072) (hr : ∀ j, inR (sc.2 j)) (V : VV A σ) : Cs sc d 1158 i σ := by
  have L := w_leads (sc := sc) (d := d - 1) (σ := σ) (by omega) (op_leads (d := d - 1 - 1) (by omega) (hr (i + 1).toNat) (hr (i + 2).toNat) V)
  have th := fun (S : St) u Q => s_thrown (sc := sc) (σ := S) (u := u) (Q := Q) (d := d - 1)
  have sn : sc.1 < 2147483648 := by omega
  rcases L with ⟨A', τ, ρ, v, V', iv, z0, rw_, rr⟩ | ⟨A', τ, ρ, v, k, V', iv, hk, z0, rw_, rr⟩
  · unfold RnA at rr
    have il := inL_of iv
    refine ⟨A', ρ, V', fun u l5 l6 => ⟨stU u (v), some (vI 0), some (vI v), ⟨Nat.le_succ _, Nat.le_add_right _ 6⟩, fun Q => ?_⟩⟩
    have eu : ∀ u x, (stU u x).2.2.2 = x := fun _ _ => rfl
    have rw2 : ∀ (u : Bool × Nat × Nat × Int) (Q : Rs → HS → Prop), Ex sc (d - 1) 134 0 [some (vR 0), some (vI (sc.2 (i + 1).toNat)), some (vI (sc.2 (i + 2).toNat)), some (vR 404), none] [] (wH σ u) Q ↔ Q (.inl (some (vI 0))) (wH τ (stU u v)) := rw_
    simp (disch := first | assumption | omega | exact notL_I | exact notL_N | exact notL_R | exact oM | exact ooCh | exact catS_le (Nat.le_of_ble_eq_true rfl) | exact Nat.le_of_ble_eq_true rfl | rfl) only [x274_1158, x274_1159, x274_1160, x274_1162, x274_1163, x274_1164, x274_1165, x274_1166, x274_1168, x274_1169, x274_1170, x274_1171, x274_1172, x274_1175, x274_1177, x274_1178, x274_1179, x274_1181, x274_1182, x274_1183, x274_1184, x274_1185, x274_1187, x274_1188, x274_1189, x274_1190, x274_1193, x274_1195, x274_1196, x274_1199, x274_1201, x274_1204, x274_1205, x274_1206, x274_1208, x274_1211, x274_1212, x274_1213, x274_1214, x274_1216, x274_1217, x274_1218, x274_1221, x274_1222, x274_1223, rw2, rr, th, z0, RL_, eu, cmp_e, Kc_some, if_pos, if_neg, ↓reduceIte, not_true_eq_false, not_false_eq_true]
  · unfold RnA at rr
    refine ⟨A', ρ, V', fun u l5 l6 => ⟨thU u, some (vI (k : Int)), some (vI v), ⟨Nat.le_refl _, Nat.le_refl _⟩, fun Q => ?_⟩⟩
    have k0 : ¬ (k : Int) = 0 := by omega
    have ik : inR (k : Int) := inR_01 (by omega)
    simp (disch := first | assumption | omega | exact notL_I | exact notL_N | exact notL_R | exact oM | exact ooCh | exact catS_le (Nat.le_of_ble_eq_true rfl) | exact Nat.le_of_ble_eq_true rfl | rfl) only [x274_1158, x274_1159, x274_1160, x274_1162, x274_1163, x274_1164, x274_1165, x274_1166, x274_1168, x274_1169, x274_1170, x274_1171, x274_1172, x274_1175, x274_1177, x274_1178, x274_1179, x274_1181, x274_1182, x274_1183, x274_1184, x274_1185, x274_1187, x274_1188, x274_1189, x274_1190, x274_1193, x274_1195, x274_1196, x274_1199, x274_1201, x274_1204, x274_1205, x274_1206, x274_1208, x274_1211, x274_1212, x274_1213, x274_1214, x274_1216, x274_1217, x274_1218, x274_1221, x274_1222, x274_1223, rw_, rr, th, z0, k0, Kc_some, if_pos, if_neg, ↓reduceIte, not_true_eq_false, not_false_eq_true]
theorem c_core (hd : 200 ≤ d) (i0 : 0 ≤ i) (i1 : i + 6 ≤ sc.1) (hn : sc.1 ≤ 3072) (hr : ∀ j, inR (sc.2 j)) (V : VV A σ) : Cs sc d 1251 i σ := by
  have L := w_core (sc := sc) (d := d - 1) (σ := σ) (by omega) (op_core (d := d - 1 - 1) (by omega) (hr (i + 1).toNat) V)
  have th := fun (S : St) u Q => s_thrown (sc := sc) (σ := S) (u := u) (Q := Q) (d := d - 1)
  have sn : sc.1 < 2147483648 := by omega
  rcases L with ⟨A', τ, ρ, v, V', iv, z0, rw_, rr⟩ | ⟨A', τ, ρ, v, k, V', iv, hk, z0, rw_, rr⟩
  · unfold RnA at rr
    have il := inL_of iv
    refine ⟨A', ρ, V', fun u l5 l6 => ⟨stU u (v), some (vI 0), some (vI v), ⟨Nat.le_succ _, Nat.le_add_right _ 6⟩, fun Q => ?_⟩⟩
    have eu : ∀ u x, (stU u x).2.2.2 = x := fun _ _ => rfl
    have rw2 : ∀ (u : Bool × Nat × Nat × Int) (Q : Rs → HS → Prop), Ex sc (d - 1) 143 0 [some (vR 0), some (vI (sc.2 (i + 1).toNat)), some (vR 404), none] [] (wH σ u) Q ↔ Q (.inl (some (vI 0))) (wH τ (stU u v)) := rw_
    simp (disch := first | assumption | omega | exact notL_I | exact notL_N | exact notL_R | exact oM | exact ooCh | exact catS_le (Nat.le_of_ble_eq_true rfl) | exact Nat.le_of_ble_eq_true rfl | rfl) only [x274_1251, x274_1252, x274_1253, x274_1255, x274_1256, x274_1257, x274_1258, x274_1259, x274_1262, x274_1264, x274_1265, x274_1266, x274_1268, x274_1269, x274_1270, x274_1271, x274_1274, x274_1276, x274_1277, x274_1280, x274_1282, x274_1285, x274_1286, x274_1287, x274_1289, x274_1292, x274_1293, x274_1294, x274_1295, x274_1297, x274_1298, x274_1299, x274_1302, x274_1303, x274_1304, rw2, rr, th, z0, RL_, eu, cmp_e, Kc_some, if_pos, if_neg, ↓reduceIte, not_true_eq_false, not_false_eq_true]
  · unfold RnA at rr
    refine ⟨A', ρ, V', fun u l5 l6 => ⟨thU u, some (vI (k : Int)), some (vI v), ⟨Nat.le_refl _, Nat.le_refl _⟩, fun Q => ?_⟩⟩
    have k0 : ¬ (k : Int) = 0 := by omega
    have ik : inR (k : Int) := inR_01 (by omega)
    simp (disch := first | assumption | omega | exact notL_I | exact notL_N | exact notL_R | exact oM | exact ooCh | exact catS_le (Nat.le_of_ble_eq_true rfl) | exact Nat.le_of_ble_eq_true rfl | rfl) only [x274_1251, x274_1252, x274_1253, x274_1255, x274_1256, x274_1257, x274_1258, x274_1259, x274_1262, x274_1264, x274_1265, x274_1266, x274_1268, x274_1269, x274_1270, x274_1271, x274_1274, x274_1276, x274_1277, x274_1280, x274_1282, x274_1285, x274_1286, x274_1287, x274_1289, x274_1292, x274_1293, x274_1294, x274_1295, x274_1297, x274_1298, x274_1299, x274_1302, x274_1303, x274_1304, rw_, rr, th, z0, k0, Kc_some, if_pos, if_neg, ↓reduceIte, not_true_eq_false, not_false_eq_true]
theorem c_ask (hd : 200 ≤ d) (i0 : 0 ≤ i) (i1 : i + 6 ≤ sc.1) (hn : sc.1 ≤ 3072) (hr : ∀ j, inR (sc.2 j)) (V : VV A σ) : Cs sc d 1307 i σ := by
  have L := w_ask (sc := sc) (d := d - 1) (σ := σ) (by omega) (op_ask (d := d - 1 - 1) (by omega) (hr (i + 1).toNat) V)
  have th := fun (S : St) u Q => s_thrown (sc := sc) (σ := S) (u := u) (Q := Q) (d := d - 1)
  have sn : sc.1 < 2147483648 := by omega
  rcases L with ⟨A', τ, ρ, v, V', iv, z0, rw_, rr⟩ | ⟨A', τ, ρ, v, k, V', iv, hk, z0, rw_, rr⟩
  · unfold RnA at rr
    have il := inL_of iv
    refine ⟨A', ρ, V', fun u l5 l6 => ⟨stU u (v), some (vI 0), some (vI v), ⟨Nat.le_succ _, Nat.le_add_right _ 6⟩, fun Q => ?_⟩⟩
    have eu : ∀ u x, (stU u x).2.2.2 = x := fun _ _ => rfl
    have rw2 : ∀ (u : Bool × Nat × Nat × Int) (Q : Rs → HS → Prop), Ex sc (d - 1) 147 0 [some (vR 0), some (vI (sc.2 (i + 1).toNat)), some (vR 404), none] [] (wH σ u) Q ↔ Q (.inl (some (vI 0))) (wH τ (stU u v)) := rw_
    simp (disch := first | assumption | omega | exact notL_I | exact notL_N | exact notL_R | exact oM | exact ooCh | exact catS_le (Nat.le_of_ble_eq_true rfl) | exact Nat.le_of_ble_eq_true rfl | rfl) only [x274_1307, x274_1308, x274_1309, x274_1311, x274_1312, x274_1313, x274_1314, x274_1315, x274_1318, x274_1320, x274_1321, x274_1322, x274_1324, x274_1325, x274_1326, x274_1327, x274_1330, x274_1332, x274_1333, x274_1336, x274_1338, x274_1341, x274_1342, x274_1343, x274_1345, x274_1348, x274_1349, x274_1350, x274_1351, x274_1353, x274_1354, x274_1355, x274_1358, x274_1359, x274_1360, rw2, rr, th, z0, RL_, eu, cmp_e, Kc_some, if_pos, if_neg, ↓reduceIte, not_true_eq_false, not_false_eq_true]
  · unfold RnA at rr
    refine ⟨A', ρ, V', fun u l5 l6 => ⟨thU u, some (vI (k : Int)), some (vI v), ⟨Nat.le_refl _, Nat.le_refl _⟩, fun Q => ?_⟩⟩
    have k0 : ¬ (k : Int) = 0 := by omega
    have ik : inR (k : Int) := inR_01 (by omega)
    simp (disch := first | assumption | omega | exact notL_I | exact notL_N | exact notL_R | exact oM | exact ooCh | exact catS_le (Nat.le_of_ble_eq_true rfl) | exact Nat.le_of_ble_eq_true rfl | rfl) only [x274_1307, x274_1308, x274_1309, x274_1311, x274_1312, x274_1313, x274_1314, x274_1315, x274_1318, x274_1320, x274_1321, x274_1322, x274_1324, x274_1325, x274_1326, x274_1327, x274_1330, x274_1332, x274_1333, x274_1336, x274_1338, x274_1341, x274_1342, x274_1343, x274_1345, x274_1348, x274_1349, x274_1350, x274_1351, x274_1353, x274_1354, x274_1355, x274_1358, x274_1359, x274_1360, rw_, rr, th, z0, k0, Kc_some, if_pos, if_neg, ↓reduceIte, not_true_eq_false, not_false_eq_true]
theorem c_follows (hd : 200 ≤ d) (i0 : 0 ≤ i) (i1 : i + 6 ≤ sc.1) (hn : sc.1 ≤ 3072) (hr : ∀ j, inR (sc.2 j)) (V : VV A σ) : Cs sc d 1400 i σ := by
  have L := w_follows (sc := sc) (d := d - 1) (σ := σ) (by omega) (op_follows (d := d - 1 - 1) (by omega) (hr (i + 1).toNat) V)
  have th := fun (S : St) u Q => s_thrown (sc := sc) (σ := S) (u := u) (Q := Q) (d := d - 1)
  have sn : sc.1 < 2147483648 := by omega
  rcases L with ⟨A', τ, ρ, v, V', iv, z0, rw_, rr⟩ | ⟨A', τ, ρ, v, k, V', iv, hk, z0, rw_, rr⟩
  · unfold RnA at rr
    have il := inL_of iv
    refine ⟨A', ρ, V', fun u l5 l6 => ⟨stU u (v), some (vI 0), some (vI v), ⟨Nat.le_succ _, Nat.le_add_right _ 6⟩, fun Q => ?_⟩⟩
    have eu : ∀ u x, (stU u x).2.2.2 = x := fun _ _ => rfl
    have rw2 : ∀ (u : Bool × Nat × Nat × Int) (Q : Rs → HS → Prop), Ex sc (d - 1) 155 0 [some (vR 0), some (vI (sc.2 (i + 1).toNat)), some (vR 404), none] [] (wH σ u) Q ↔ Q (.inl (some (vI 0))) (wH τ (stU u v)) := rw_
    simp (disch := first | assumption | omega | exact notL_I | exact notL_N | exact notL_R | exact oM | exact ooCh | exact catS_le (Nat.le_of_ble_eq_true rfl) | exact Nat.le_of_ble_eq_true rfl | rfl) only [x274_1400, x274_1401, x274_1402, x274_1404, x274_1405, x274_1406, x274_1407, x274_1408, x274_1411, x274_1413, x274_1414, x274_1415, x274_1417, x274_1418, x274_1419, x274_1420, x274_1423, x274_1425, x274_1426, x274_1429, x274_1431, x274_1434, x274_1435, x274_1436, x274_1438, x274_1441, x274_1442, x274_1443, x274_1444, x274_1446, x274_1447, x274_1448, x274_1451, x274_1452, x274_1453, rw2, rr, th, z0, RL_, eu, cmp_e, Kc_some, if_pos, if_neg, ↓reduceIte, not_true_eq_false, not_false_eq_true]
  · unfold RnA at rr
    refine ⟨A', ρ, V', fun u l5 l6 => ⟨thU u, some (vI (k : Int)), some (vI v), ⟨Nat.le_refl _, Nat.le_refl _⟩, fun Q => ?_⟩⟩
    have k0 : ¬ (k : Int) = 0 := by omega
    have ik : inR (k : Int) := inR_01 (by omega)
    simp (disch := first | assumption | omega | exact notL_I | exact notL_N | exact notL_R | exact oM | exact ooCh | exact catS_le (Nat.le_of_ble_eq_true rfl) | exact Nat.le_of_ble_eq_true rfl | rfl) only [x274_1400, x274_1401, x274_1402, x274_1404, x274_1405, x274_1406, x274_1407, x274_1408, x274_1411, x274_1413, x274_1414, x274_1415, x274_1417, x274_1418, x274_1419, x274_1420, x274_1423, x274_1425, x274_1426, x274_1429, x274_1431, x274_1434, x274_1435, x274_1436, x274_1438, x274_1441, x274_1442, x274_1443, x274_1444, x274_1446, x274_1447, x274_1448, x274_1451, x274_1452, x274_1453, rw_, rr, th, z0, k0, Kc_some, if_pos, if_neg, ↓reduceIte, not_true_eq_false, not_false_eq_true]
theorem c_ends (hd : 200 ≤ d) (i0 : 0 ≤ i) (i1 : i + 6 ≤ sc.1) (hn : sc.1 ≤ 3072) (hr : ∀ j, inR (sc.2 j)) (V : VV A σ) : Cs sc d 1456 i σ := by
  have L := w_ends (sc := sc) (d := d - 1) (σ := σ) (by omega) (op_ends (d := d - 1 - 1) (by omega) (hr (i + 1).toNat) V)
  have th := fun (S : St) u Q => s_thrown (sc := sc) (σ := S) (u := u) (Q := Q) (d := d - 1)
  have sn : sc.1 < 2147483648 := by omega
  rcases L with ⟨A', τ, ρ, v, V', iv, z0, rw_, rr⟩ | ⟨A', τ, ρ, v, k, V', iv, hk, z0, rw_, rr⟩
  · unfold RnA at rr
    have il := inL_of iv
    refine ⟨A', ρ, V', fun u l5 l6 => ⟨stU u (v), some (vI 0), some (vI v), ⟨Nat.le_succ _, Nat.le_add_right _ 6⟩, fun Q => ?_⟩⟩
    have eu : ∀ u x, (stU u x).2.2.2 = x := fun _ _ => rfl
    have rw2 : ∀ (u : Bool × Nat × Nat × Int) (Q : Rs → HS → Prop), Ex sc (d - 1) 162 0 [some (vR 0), some (vI (sc.2 (i + 1).toNat)), some (vR 404), none] [] (wH σ u) Q ↔ Q (.inl (some (vI 0))) (wH τ (stU u v)) := rw_
    simp (disch := first | assumption | omega | exact notL_I | exact notL_N | exact notL_R | exact oM | exact ooCh | exact catS_le (Nat.le_of_ble_eq_true rfl) | exact Nat.le_of_ble_eq_true rfl | rfl) only [x274_1456, x274_1457, x274_1458, x274_1460, x274_1461, x274_1462, x274_1463, x274_1464, x274_1467, x274_1469, x274_1470, x274_1471, x274_1473, x274_1474, x274_1475, x274_1476, x274_1479, x274_1481, x274_1482, x274_1485, x274_1487, x274_1490, x274_1491, x274_1492, x274_1494, x274_1497, x274_1498, x274_1499, x274_1500, x274_1502, x274_1503, x274_1504, x274_1507, x274_1508, x274_1509, rw2, rr, th, z0, RL_, eu, cmp_e, Kc_some, if_pos, if_neg, ↓reduceIte, not_true_eq_false, not_false_eq_true]
  · unfold RnA at rr
    refine ⟨A', ρ, V', fun u l5 l6 => ⟨thU u, some (vI (k : Int)), some (vI v), ⟨Nat.le_refl _, Nat.le_refl _⟩, fun Q => ?_⟩⟩
    have k0 : ¬ (k : Int) = 0 := by omega
    have ik : inR (k : Int) := inR_01 (by omega)
    simp (disch := first | assumption | omega | exact notL_I | exact notL_N | exact notL_R | exact oM | exact ooCh | exact catS_le (Nat.le_of_ble_eq_true rfl) | exact Nat.le_of_ble_eq_true rfl | rfl) only [x274_1456, x274_1457, x274_1458, x274_1460, x274_1461, x274_1462, x274_1463, x274_1464, x274_1467, x274_1469, x274_1470, x274_1471, x274_1473, x274_1474, x274_1475, x274_1476, x274_1479, x274_1481, x274_1482, x274_1485, x274_1487, x274_1490, x274_1491, x274_1492, x274_1494, x274_1497, x274_1498, x274_1499, x274_1500, x274_1502, x274_1503, x274_1504, x274_1507, x274_1508, x274_1509, rw_, rr, th, z0, k0, Kc_some, if_pos, if_neg, ↓reduceIte, not_true_eq_false, not_false_eq_true]
theorem c_rank (hd : 200 ≤ d) (i0 : 0 ≤ i) (i1 : i + 6 ≤ sc.1) (hn : sc.1 ≤ 3072) (hr : ∀ j, inR (sc.2 j)) (V : VV A σ) : Cs sc d 1512 i σ := by
  have L := w_rank (sc := sc) (d := d - 1) (σ := σ) (by omega) (op_rank (d := d - 1 - 1) (by omega) (hr (i + 1).toNat) (hr (i + 2).toNat) (hr (i + 3).toNat) V)
  have th := fun (S : St) u Q => s_thrown (sc := sc) (σ := S) (u := u) (Q := Q) (d := d - 1)
  have sn : sc.1 < 2147483648 := by omega
  rcases L with ⟨A', τ, ρ, v, V', iv, z0, rw_, rr⟩ | ⟨A', τ, ρ, v, k, V', iv, hk, z0, rw_, rr⟩
  · unfold RnA at rr
    have il := inL_of iv
    refine ⟨A', ρ, V', fun u l5 l6 => ⟨stU u (v), some (vI 0), some (vI v), ⟨Nat.le_succ _, Nat.le_add_right _ 6⟩, fun Q => ?_⟩⟩
    have eu : ∀ u x, (stU u x).2.2.2 = x := fun _ _ => rfl
    have rw2 : ∀ (u : Bool × Nat × Nat × Int) (Q : Rs → HS → Prop), Ex sc (d - 1) 170 0 [some (vR 0), some (vI (sc.2 (i + 1).toNat)), some (vI (sc.2 (i + 2).toNat)), some (vI (sc.2 (i + 3).toNat)), some (vR 404), none] [] (wH σ u) Q ↔ Q (.inl (some (vI 0))) (wH τ (stU u v)) := rw_
    simp (disch := first | assumption | omega | exact notL_I | exact notL_N | exact notL_R | exact oM | exact ooCh | exact catS_le (Nat.le_of_ble_eq_true rfl) | exact Nat.le_of_ble_eq_true rfl | rfl) only [x274_1512, x274_1513, x274_1514, x274_1516, x274_1517, x274_1518, x274_1519, x274_1520, x274_1522, x274_1523, x274_1524, x274_1525, x274_1526, x274_1528, x274_1529, x274_1530, x274_1531, x274_1532, x274_1535, x274_1537, x274_1538, x274_1539, x274_1541, x274_1542, x274_1543, x274_1544, x274_1545, x274_1547, x274_1548, x274_1549, x274_1550, x274_1551, x274_1553, x274_1554, x274_1555, x274_1556, x274_1559, x274_1561, x274_1562, x274_1565, x274_1567, x274_1570, x274_1571, x274_1572, x274_1574, x274_1577, x274_1578, x274_1579, x274_1580, x274_1582, x274_1583, x274_1584, x274_1587, x274_1588, x274_1589, rw2, rr, th, z0, RL_, eu, cmp_e, Kc_some, if_pos, if_neg, ↓reduceIte, not_true_eq_false, not_false_eq_true]
  · unfold RnA at rr
    refine ⟨A', ρ, V', fun u l5 l6 => ⟨thU u, some (vI (k : Int)), some (vI v), ⟨Nat.le_refl _, Nat.le_refl _⟩, fun Q => ?_⟩⟩
    have k0 : ¬ (k : Int) = 0 := by omega
    have ik : inR (k : Int) := inR_01 (by omega)
    simp (disch := first | assumption | omega | exact notL_I | exact notL_N | exact notL_R | exact oM | exact ooCh | exact catS_le (Nat.le_of_ble_eq_true rfl) | exact Nat.le_of_ble_eq_true rfl | rfl) only [x274_1512, x274_1513, x274_1514, x274_1516, x274_1517, x274_1518, x274_1519, x274_1520, x274_1522, x274_1523, x274_1524, x274_1525, x274_1526, x274_1528, x274_1529, x274_1530, x274_1531, x274_1532, x274_1535, x274_1537, x274_1538, x274_1539, x274_1541, x274_1542, x274_1543, x274_1544, x274_1545, x274_1547, x274_1548, x274_1549, x274_1550, x274_1551, x274_1553, x274_1554, x274_1555, x274_1556, x274_1559, x274_1561, x274_1562, x274_1565, x274_1567, x274_1570, x274_1571, x274_1572, x274_1574, x274_1577, x274_1578, x274_1579, x274_1580, x274_1582, x274_1583, x274_1584, x274_1587, x274_1588, x274_1589, rw_, rr, th, z0, k0, Kc_some, if_pos, if_neg, ↓reduceIte, not_true_eq_false, not_false_eq_true]
theorem c_columns (hd : 200 ≤ d) (i0 : 0 ≤ i) (i1 : i + 6 ≤ sc.1) (hn : sc.1 ≤ 3072) (hr : ∀ j, inR (sc.2 j)) (V : VV A σ) : Cs sc d 1592 i σ := by
  have L := w_columns (sc := sc) (d := d - 1) (σ := σ) (by omega) (op_columns (d := d - 1 - 1) (by omega) (hr (i + 1).toNat) (hr (i + 2).toNat) V)
  have th := fun (S : St) u Q => s_thrown (sc := sc) (σ := S) (u := u) (Q := Q) (d := d - 1)
  have sn : sc.1 < 2147483648 := by omega
  rcases L with ⟨A', τ, ρ, v, V', iv, z0, rw_, rr⟩ | ⟨A', τ, ρ, v, k, V', iv, hk, z0, rw_, rr⟩
  · unfold RnA at rr
    have il := inL_of iv
    refine ⟨A', ρ, V', fun u l5 l6 => ⟨stU u (v), some (vI 0), some (vI v), ⟨Nat.le_succ _, Nat.le_add_right _ 6⟩, fun Q => ?_⟩⟩
    have eu : ∀ u x, (stU u x).2.2.2 = x := fun _ _ => rfl
    have rw2 : ∀ (u : Bool × Nat × Nat × Int) (Q : Rs → HS → Prop), Ex sc (d - 1) 172 0 [some (vR 0), some (vI (sc.2 (i + 1).toNat)), some (vI (sc.2 (i + 2).toNat)), some (vR 404), none] [] (wH σ u) Q ↔ Q (.inl (some (vI 0))) (wH τ (stU u v)) := rw_
    simp (disch := first | assumption | omega | exact notL_I | exact notL_N | exact notL_R | exact oM | exact ooCh | exact catS_le (Nat.le_of_ble_eq_true rfl) | exact Nat.le_of_ble_eq_true rfl | rfl) only [x274_1592, x274_1593, x274_1594, x274_1596, x274_1597, x274_1598, x274_1599, x274_1600, x274_1602, x274_1603, x274_1604, x274_1605, x274_1606, x274_1609, x274_1611, x274_1612, x274_1613, x274_1615, x274_1616, x274_1617, x274_1618, x274_1619, x274_1621, x274_1622, x274_1623, x274_1624, x274_1627, x274_1629, x274_1630, x274_1633, x274_1635, x274_1638, x274_1639, x274_1640, x274_1642, x274_1645, x274_1646, x274_1647, x274_1648, x274_1650, x274_1651, x274_1652, x274_1655, x274_1656, x274_1657, rw2, rr, th, z0, RL_, eu, cmp_e, Kc_some, if_pos, if_neg, ↓reduceIte, not_true_eq_false, not_false_eq_true]
  · unfold RnA at rr
    refine ⟨A', ρ, V', fun u l5 l6 => ⟨thU u, some (vI (k : Int)), some (vI v), ⟨Nat.le_refl _, Nat.le_refl _⟩, fun Q => ?_⟩⟩
    have k0 : ¬ (k : Int) = 0 := by omega
    have ik : inR (k : Int) := inR_01 (by omega)
    simp (disch := first | assumption | omega | exact notL_I | exact notL_N | exact notL_R | exact oM | exact ooCh | exact catS_le (Nat.le_of_ble_eq_true rfl) | exact Nat.le_of_ble_eq_true rfl | rfl) only [x274_1592, x274_1593, x274_1594, x274_1596, x274_1597, x274_1598, x274_1599, x274_1600, x274_1602, x274_1603, x274_1604, x274_1605, x274_1606, x274_1609, x274_1611, x274_1612, x274_1613, x274_1615, x274_1616, x274_1617, x274_1618, x274_1619, x274_1621, x274_1622, x274_1623, x274_1624, x274_1627, x274_1629, x274_1630, x274_1633, x274_1635, x274_1638, x274_1639, x274_1640, x274_1642, x274_1645, x274_1646, x274_1647, x274_1648, x274_1650, x274_1651, x274_1652, x274_1655, x274_1656, x274_1657, rw_, rr, th, z0, k0, Kc_some, if_pos, if_neg, ↓reduceIte, not_true_eq_false, not_false_eq_true]
set_option maxRecDepth 20000 in
theorem c_feed (hd : 200 ≤ d) (i0 : 0 ≤ i) (i1 : i + 6 ≤ sc.1) (hn : sc.1 ≤ 3072) (hr : ∀ j, inR (sc.2 j)) (V : VV A σ) : Cs sc d 152 i σ := by
  have L := op_feed (sc := sc) (d := d - 1) (w1 := sc.2 (i + 1).toNat) (w2 := sc.2 (i + 2).toNat) (w3 := sc.2 (i + 3).toNat) (w4 := sc.2 (i + 4).toNat) (w5 := sc.2 (i + 5).toNat) (by omega) V
  have sn : sc.1 < 2147483648 := by omega
  obtain ⟨A', τ, ρ, r, v, V', hv, hm, rr⟩ := L
  unfold RnA at rr
  cases r with
  | inl w =>
    obtain ⟨e, z0, rc⟩ := hm
    subst e
    unfold RnA at rc
    refine ⟨A', ρ, V', fun u l5 l6 => ⟨u, l5, l6, ⟨Nat.le_succ _, Nat.le_add_right _ 6⟩, fun Q => ?_⟩⟩
    have ic := fun lv st hs Q => (e_icmpw (sc := sc) (d := d) (y := 274) (pc := 220) (lv := lv) (st := st) (hs := hs) (Q := Q) (a := w) (b := w) ((cd274 220).trans rfl)).trans (by rw [if_pos (by simp only [cmpI, decide_eq_true_eq])])
    simp (disch := first | assumption | omega | exact notL_I | exact notL_N | exact notL_R | exact oM | exact ooCh | exact catS_le (Nat.le_of_ble_eq_true rfl) | exact Nat.le_of_ble_eq_true rfl | rfl) only [x274_152, x274_153, x274_154, x274_156, x274_157, x274_158, x274_159, x274_160, x274_162, x274_163, x274_164, x274_165, x274_166, x274_168, x274_169, x274_170, x274_171, x274_172, x274_174, x274_175, x274_176, x274_177, x274_178, x274_180, x274_181, x274_182, x274_183, x274_186, x274_187, x274_188, x274_190, x274_191, x274_192, x274_193, x274_194, x274_196, x274_197, x274_198, x274_199, x274_200, x274_202, x274_203, x274_204, x274_205, x274_206, x274_208, x274_209, x274_210, x274_211, x274_212, x274_214, x274_215, x274_216, x274_217, x274_223, x274_224, rc, rr, ic, Kc_some, if_pos, if_neg, ↓reduceIte, not_true_eq_false, not_false_eq_true]
  | inr k =>
    obtain ⟨hk, -⟩ := hm
    rcases hk with ⟨-, e⟩ | ⟨-, e⟩
    · exact absurd e (by decide)
    · exact absurd e (by decide)
set_option maxRecDepth 20000 in
theorem c_end (hd : 200 ≤ d) (i0 : 0 ≤ i) (i1 : i + 6 ≤ sc.1) (hn : sc.1 ≤ 3072) (hr : ∀ j, inR (sc.2 j)) (V : VV A σ) : Cs sc d 225 i σ := by
  have L := op_end (sc := sc) (d := d - 1) (σ := σ) (by omega) (hr (i + 1).toNat) V
  have sn : sc.1 < 2147483648 := by omega
  obtain ⟨A', τ, ρ, r, v, V', hv, hm, rr⟩ := L
  unfold RnA at rr
  cases r with
  | inl w =>
    obtain ⟨e, z0, rc⟩ := hm
    subst e
    unfold RnA at rc
    refine ⟨A', ρ, V', fun u l5 l6 => ⟨u, l5, l6, ⟨Nat.le_succ _, Nat.le_add_right _ 6⟩, fun Q => ?_⟩⟩
    have ic := fun lv st hs Q => (e_icmpw (sc := sc) (d := d) (y := 274) (pc := 245) (lv := lv) (st := st) (hs := hs) (Q := Q) (a := w) (b := w) ((cd274 245).trans rfl)).trans (by rw [if_pos (by simp only [cmpI, decide_eq_true_eq])])
    simp (disch := first | assumption | omega | exact notL_I | exact notL_N | exact notL_R | exact oM | exact ooCh | exact catS_le (Nat.le_of_ble_eq_true rfl) | exact Nat.le_of_ble_eq_true rfl | rfl) only [x274_225, x274_226, x274_227, x274_229, x274_230, x274_231, x274_232, x274_235, x274_236, x274_237, x274_239, x274_240, x274_241, x274_242, x274_248, x274_249, rc, rr, ic, Kc_some, if_pos, if_neg, ↓reduceIte, not_true_eq_false, not_false_eq_true]
  | inr k =>
    obtain ⟨hk, -⟩ := hm
    rcases hk with ⟨-, e⟩ | ⟨-, e⟩
    · exact absurd e (by decide)
    · exact absurd e (by decide)
set_option maxRecDepth 20000 in
theorem c_fault (hd : 200 ≤ d) (i0 : 0 ≤ i) (i1 : i + 6 ≤ sc.1) (hn : sc.1 ≤ 3072) (hr : ∀ j, inR (sc.2 j)) (V : VV A σ) : Cs sc d 306 i σ := by
  have L := op_fault (sc := sc) (d := d - 1) (σ := σ) (by omega) (hr (i + 1).toNat) V
  have sn : sc.1 < 2147483648 := by omega
  obtain ⟨A', τ, ρ, r, v, V', hv, hm, rr⟩ := L
  unfold RnA at rr
  cases r with
  | inl w =>
    obtain ⟨e, z0, rc⟩ := hm
    subst e
    unfold RnA at rc
    refine ⟨A', ρ, V', fun u l5 l6 => ⟨u, l5, l6, ⟨Nat.le_succ _, Nat.le_add_right _ 6⟩, fun Q => ?_⟩⟩
    have ic := fun lv st hs Q => (e_icmpw (sc := sc) (d := d) (y := 274) (pc := 326) (lv := lv) (st := st) (hs := hs) (Q := Q) (a := w) (b := w) ((cd274 326).trans rfl)).trans (by rw [if_pos (by simp only [cmpI, decide_eq_true_eq])])
    simp (disch := first | assumption | omega | exact notL_I | exact notL_N | exact notL_R | exact oM | exact ooCh | exact catS_le (Nat.le_of_ble_eq_true rfl) | exact Nat.le_of_ble_eq_true rfl | rfl) only [x274_306, x274_307, x274_308, x274_310, x274_311, x274_312, x274_313, x274_316, x274_317, x274_318, x274_320, x274_321, x274_322, x274_323, x274_329, x274_330, rc, rr, ic, Kc_some, if_pos, if_neg, ↓reduceIte, not_true_eq_false, not_false_eq_true]
  | inr k =>
    obtain ⟨hk, -⟩ := hm
    rcases hk with ⟨-, e⟩ | ⟨-, e⟩
    · exact absurd e (by decide)
    · exact absurd e (by decide)
set_option maxRecDepth 20000 in
theorem c_stands (hd : 200 ≤ d) (i0 : 0 ≤ i) (i1 : i + 6 ≤ sc.1) (hn : sc.1 ≤ 3072) (hr : ∀ j, inR (sc.2 j)) (V : VV A σ) : Cs sc d 1226 i σ := by
  have L := op_stands (sc := sc) (d := d - 1) (σ := σ) (by omega) (hr (i + 1).toNat) V
  have sn : sc.1 < 2147483648 := by omega
  obtain ⟨A', τ, ρ, r, v, V', hv, hm, rr⟩ := L
  unfold RnA at rr
  cases r with
  | inl w =>
    obtain ⟨e, z0, rc⟩ := hm
    subst e
    unfold RnA at rc
    refine ⟨A', ρ, V', fun u l5 l6 => ⟨u, l5, l6, ⟨Nat.le_succ _, Nat.le_add_right _ 6⟩, fun Q => ?_⟩⟩
    have ic := fun lv st hs Q => (e_icmpw (sc := sc) (d := d) (y := 274) (pc := 1246) (lv := lv) (st := st) (hs := hs) (Q := Q) (a := w) (b := w) ((cd274 1246).trans rfl)).trans (by rw [if_pos (by simp only [cmpI, decide_eq_true_eq])])
    simp (disch := first | assumption | omega | exact notL_I | exact notL_N | exact notL_R | exact oM | exact ooCh | exact catS_le (Nat.le_of_ble_eq_true rfl) | exact Nat.le_of_ble_eq_true rfl | rfl) only [x274_1226, x274_1227, x274_1228, x274_1230, x274_1231, x274_1232, x274_1233, x274_1236, x274_1237, x274_1238, x274_1240, x274_1241, x274_1242, x274_1243, x274_1249, x274_1250, rc, rr, ic, Kc_some, if_pos, if_neg, ↓reduceIte, not_true_eq_false, not_false_eq_true]
  | inr k =>
    obtain ⟨hk, -⟩ := hm
    rcases hk with ⟨-, e⟩ | ⟨-, e⟩
    · exact absurd e (by decide)
    · exact absurd e (by decide)
set_option maxRecDepth 20000 in
theorem c_answer (hd : 200 ≤ d) (i0 : 0 ≤ i) (i1 : i + 6 ≤ sc.1) (hn : sc.1 ≤ 3072) (hr : ∀ j, inR (sc.2 j)) (V : VV A σ) : Cs sc d 1363 i σ := by
  have L := op_answer (sc := sc) (d := d - 1) (σ := σ) (by omega) (hr (i + 1).toNat) (hr (i + 2).toNat) V
  have sn : sc.1 < 2147483648 := by omega
  obtain ⟨A', τ, ρ, r, v, V', hv, hm, rr⟩ := L
  unfold RnA at rr
  cases r with
  | inl w =>
    obtain ⟨e, z0, rc⟩ := hm
    subst e
    unfold RnA at rc
    refine ⟨A', ρ, V', fun u l5 l6 => ⟨u, l5, l6, ⟨Nat.le_succ _, Nat.le_add_right _ 6⟩, fun Q => ?_⟩⟩
    have ic := fun lv st hs Q => (e_icmpw (sc := sc) (d := d) (y := 274) (pc := 1395) (lv := lv) (st := st) (hs := hs) (Q := Q) (a := w) (b := w) ((cd274 1395).trans rfl)).trans (by rw [if_pos (by simp only [cmpI, decide_eq_true_eq])])
    simp (disch := first | assumption | omega | exact notL_I | exact notL_N | exact notL_R | exact oM | exact ooCh | exact catS_le (Nat.le_of_ble_eq_true rfl) | exact Nat.le_of_ble_eq_true rfl | rfl) only [x274_1363, x274_1364, x274_1365, x274_1367, x274_1368, x274_1369, x274_1370, x274_1371, x274_1373, x274_1374, x274_1375, x274_1376, x274_1379, x274_1380, x274_1381, x274_1383, x274_1384, x274_1385, x274_1386, x274_1387, x274_1389, x274_1390, x274_1391, x274_1392, x274_1398, x274_1399, rc, rr, ic, Kc_some, if_pos, if_neg, ↓reduceIte, not_true_eq_false, not_false_eq_true]
  | inr k =>
    obtain ⟨hk, -⟩ := hm
    rcases hk with ⟨-, e⟩ | ⟨-, e⟩
    · exact absurd e (by decide)
    · exact absurd e (by decide)
end Cs
