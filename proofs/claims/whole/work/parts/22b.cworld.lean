/-! the class's cells (wip/whole/gen12.py) -/
theorem Ra_s {σ : St} {u : Bool × Nat × Nat × Int} {ty a n : Nat} {i : Int} {f : Int → Prop} (hs : shp a = (0, ty, n, [])) (ha : a < NW) (hn : n < 2147483648) (h0 : 0 ≤ i) (h1 : i < n) : Ra (wH σ u) ty a i f = f (σ a i) := by
  unfold Ra
  rw [rdA_w hs ha hn h0 h1]
theorem Wa_s {σ : St} {u : Bool × Nat × Nat × Int} {ty a n : Nat} {i x : Int} {f : HS → Prop} (hs : shp a = (0, ty, n, [])) (ha : a < NW) (hn : n < 2147483648) (h0 : 0 ≤ i) (h1 : i < n) : Wa (wH σ u) ty a i x f = f (wH (su σ a i x) u) := by
  unfold Wa
  rw [wrA_w hs ha hn h0 h1]
theorem oO_s {σ : St} {u : Bool × Nat × Nat × Int} {a c : Nat} {w : Nat × List (Nat × Nat)} (hs : shp a = (2, c, w)) (ha : a < NW) : isObj (wH σ u) c (vR a) = true := by
  show (match hget (wH σ u) a with | some (.inr (.inr (c2, _))) => c2 == c | _ => false) = true
  rw [hget_w ha, hs, wcE_O]
  simp
theorem pM_some {σ : St} {u : Bool × Nat × Nat × Int} {x : Int} {f : HS → Prop} (hx : x = 0 ∨ x = 1) : Pf (wH σ u) 12 373 32 (vI x) f = f (wH (su σ 373 32 x) u) := Pf_int (w := (0, _)) rfl (by decide) rfl (by decide) (by rcases hx with rfl | rfl <;> rfl)
def oAt (a : Nat) : Prop := a + 2 < NW ∧ shp a = (2, 1, 0, [(1, a + 1), (2, a + 2)]) ∧ shp (a + 1) = (0, 0, 3, []) ∧ shp (a + 2) = (0, 0, 9, [])
theorem ooAt {σ : St} {u : Bool × Nat × Nat × Int} {a : Nat} (o : oAt a) : isObj (wH σ u) 1 (vR a) = true := oO_s (w := (0, _)) o.2.1 (Nat.lt_of_le_of_lt (Nat.le_add_right a 2) o.1)
theorem gAt_count {σ : St} {u : Bool × Nat × Nat × Int} {a : Nat} (o : oAt a) {f : V → Prop} : Gf (wH σ u) 1 a 0 f = f (vI (σ a 0)) := Gf_int (w := (0, _)) o.2.1 (Nat.lt_of_le_of_lt (Nat.le_add_right a 2) o.1) rfl (by decide)
theorem pAt_count {σ : St} {u : Bool × Nat × Nat × Int} {a : Nat} (o : oAt a) {x : Int} {f : HS → Prop} : Pf (wH σ u) 1 a 0 (vI x) f = f (wH (su σ a 0 x) u) := Pf_int (w := (0, _)) o.2.1 (Nat.lt_of_le_of_lt (Nat.le_add_right a 2) o.1) rfl (by decide) rfl
theorem gAt_table {σ : St} {u : Bool × Nat × Nat × Int} {a : Nat} (o : oAt a) {f : V → Prop} : Gf (wH σ u) 1 a 1 f = f (vR (a + 1)) := Gf_ref (w := (0, _)) o.2.1 (Nat.lt_of_le_of_lt (Nat.le_add_right a 2) o.1) rfl
theorem RAt_table {σ : St} {u : Bool × Nat × Nat × Int} {a : Nat} (o : oAt a) {i : Int} {f : Int → Prop} (h0 : 0 ≤ i) (h1 : i < 3) : Ra (wH σ u) 0 (a + 1) i f = f (σ (a + 1) i) := Ra_s o.2.2.1 (Nat.lt_of_le_of_lt (Nat.add_le_add_left (by decide : 1 ≤ 2) a) o.1) (by decide) h0 h1
theorem WAt_table {σ : St} {u : Bool × Nat × Nat × Int} {a : Nat} (o : oAt a) {i x : Int} {f : HS → Prop} (h0 : 0 ≤ i) (h1 : i < 3) : Wa (wH σ u) 0 (a + 1) i x f = f (wH (su σ (a + 1) i x) u) := Wa_s o.2.2.1 (Nat.lt_of_le_of_lt (Nat.add_le_add_left (by decide : 1 ≤ 2) a) o.1) (by decide) h0 h1
theorem LAt_table {σ : St} {u : Bool × Nat × Nat × Int} {a : Nat} (o : oAt a) {f : Int → Prop} : La (wH σ u) (a + 1) f = f 3 := La_w o.2.2.1 (Nat.lt_of_le_of_lt (Nat.add_le_add_left (by decide : 1 ≤ 2) a) o.1) (by decide) (by decide)
theorem sAt_table {a : Nat} (o : oAt a) : shp (a + 1) = (0, 0, 3, []) ∧ a + 1 < NW := ⟨o.2.2.1, (Nat.lt_of_le_of_lt (Nat.add_le_add_left (by decide : 1 ≤ 2) a) o.1)⟩
theorem gAt_place {σ : St} {u : Bool × Nat × Nat × Int} {a : Nat} (o : oAt a) {f : V → Prop} : Gf (wH σ u) 1 a 2 f = f (vR (a + 2)) := Gf_ref (w := (0, _)) o.2.1 (Nat.lt_of_le_of_lt (Nat.le_add_right a 2) o.1) rfl
theorem RAt_place {σ : St} {u : Bool × Nat × Nat × Int} {a : Nat} (o : oAt a) {i : Int} {f : Int → Prop} (h0 : 0 ≤ i) (h1 : i < 9) : Ra (wH σ u) 0 (a + 2) i f = f (σ (a + 2) i) := Ra_s o.2.2.2 (Nat.lt_of_le_of_lt (Nat.add_le_add_left (by decide : 2 ≤ 2) a) o.1) (by decide) h0 h1
theorem WAt_place {σ : St} {u : Bool × Nat × Nat × Int} {a : Nat} (o : oAt a) {i x : Int} {f : HS → Prop} (h0 : 0 ≤ i) (h1 : i < 9) : Wa (wH σ u) 0 (a + 2) i x f = f (wH (su σ (a + 2) i x) u) := Wa_s o.2.2.2 (Nat.lt_of_le_of_lt (Nat.add_le_add_left (by decide : 2 ≤ 2) a) o.1) (by decide) h0 h1
theorem LAt_place {σ : St} {u : Bool × Nat × Nat × Int} {a : Nat} (o : oAt a) {f : Int → Prop} : La (wH σ u) (a + 2) f = f 9 := La_w o.2.2.2 (Nat.lt_of_le_of_lt (Nat.add_le_add_left (by decide : 2 ≤ 2) a) o.1) (by decide) (by decide)
theorem sAt_place {a : Nat} (o : oAt a) : shp (a + 2) = (0, 0, 9, []) ∧ a + 2 < NW := ⟨o.2.2.2, (Nat.lt_of_le_of_lt (Nat.add_le_add_left (by decide : 2 ≤ 2) a) o.1)⟩
def oRu (a : Nat) : Prop := a + 6 < NW ∧ shp a = (2, 8, 0, [(1, a + 1), (2, a + 4)]) ∧ oAt (a + 1) ∧ oAt (a + 4)
theorem oRu.ahead {a : Nat} (o : oRu a) : oAt (a + 1) := o.2.2.1
theorem oRu.behind {a : Nat} (o : oRu a) : oAt (a + 4) := o.2.2.2
theorem ooRu {σ : St} {u : Bool × Nat × Nat × Int} {a : Nat} (o : oRu a) : isObj (wH σ u) 8 (vR a) = true := oO_s (w := (0, _)) o.2.1 (Nat.lt_of_le_of_lt (Nat.le_add_right a 6) o.1)
theorem gRu_kind {σ : St} {u : Bool × Nat × Nat × Int} {a : Nat} (o : oRu a) {f : V → Prop} : Gf (wH σ u) 8 a 0 f = f (vI (σ a 0)) := Gf_int (w := (0, _)) o.2.1 (Nat.lt_of_le_of_lt (Nat.le_add_right a 6) o.1) rfl (by decide)
theorem pRu_kind {σ : St} {u : Bool × Nat × Nat × Int} {a : Nat} (o : oRu a) {x : Int} {f : HS → Prop} : Pf (wH σ u) 8 a 0 (vI x) f = f (wH (su σ a 0 x) u) := Pf_int (w := (0, _)) o.2.1 (Nat.lt_of_le_of_lt (Nat.le_add_right a 6) o.1) rfl (by decide) rfl
theorem gRu_ahead {σ : St} {u : Bool × Nat × Nat × Int} {a : Nat} (o : oRu a) {f : V → Prop} : Gf (wH σ u) 8 a 1 f = f (vR (a + 1)) := Gf_ref (w := (0, _)) o.2.1 (Nat.lt_of_le_of_lt (Nat.le_add_right a 6) o.1) rfl
theorem gRu_behind {σ : St} {u : Bool × Nat × Nat × Int} {a : Nat} (o : oRu a) {f : V → Prop} : Gf (wH σ u) 8 a 2 f = f (vR (a + 4)) := Gf_ref (w := (0, _)) o.2.1 (Nat.lt_of_le_of_lt (Nat.le_add_right a 6) o.1) rfl
theorem gRu_left {σ : St} {u : Bool × Nat × Nat × Int} {a : Nat} (o : oRu a) {f : V → Prop} : Gf (wH σ u) 8 a 3 f = f (vI (σ a 3)) := Gf_int (w := (0, _)) o.2.1 (Nat.lt_of_le_of_lt (Nat.le_add_right a 6) o.1) rfl (by decide)
theorem pRu_left {σ : St} {u : Bool × Nat × Nat × Int} {a : Nat} (o : oRu a) {x : Int} {f : HS → Prop} : Pf (wH σ u) 8 a 3 (vI x) f = f (wH (su σ a 3 x) u) := Pf_int (w := (0, _)) o.2.1 (Nat.lt_of_le_of_lt (Nat.le_add_right a 6) o.1) rfl (by decide) rfl
theorem gRu_right {σ : St} {u : Bool × Nat × Nat × Int} {a : Nat} (o : oRu a) {f : V → Prop} : Gf (wH σ u) 8 a 4 f = f (vI (σ a 4)) := Gf_int (w := (0, _)) o.2.1 (Nat.lt_of_le_of_lt (Nat.le_add_right a 6) o.1) rfl (by decide)
theorem pRu_right {σ : St} {u : Bool × Nat × Nat × Int} {a : Nat} (o : oRu a) {x : Int} {f : HS → Prop} : Pf (wH σ u) 8 a 4 (vI x) f = f (wH (su σ a 4 x) u) := Pf_int (w := (0, _)) o.2.1 (Nat.lt_of_le_of_lt (Nat.le_add_right a 6) o.1) rfl (by decide) rfl
def oRo (a : Nat) : Prop := a + 4 < NW ∧ shp a = (2, 7, 0, [(2, a + 1), (3, a + 2), (4, a + 3), (5, a + 4)]) ∧ shp (a + 1) = (0, 0, 40, []) ∧ shp (a + 2) = (0, 0, 40, []) ∧ shp (a + 3) = (0, 0, 120, []) ∧ shp (a + 4) = (0, 0, 100, [])
theorem ooRo {σ : St} {u : Bool × Nat × Nat × Int} {a : Nat} (o : oRo a) : isObj (wH σ u) 7 (vR a) = true := oO_s (w := (0, _)) o.2.1 (Nat.lt_of_le_of_lt (Nat.le_add_right a 4) o.1)
theorem gRo_count {σ : St} {u : Bool × Nat × Nat × Int} {a : Nat} (o : oRo a) {f : V → Prop} : Gf (wH σ u) 7 a 0 f = f (vI (σ a 0)) := Gf_int (w := (0, _)) o.2.1 (Nat.lt_of_le_of_lt (Nat.le_add_right a 4) o.1) rfl (by decide)
theorem pRo_count {σ : St} {u : Bool × Nat × Nat × Int} {a : Nat} (o : oRo a) {x : Int} {f : HS → Prop} : Pf (wH σ u) 7 a 0 (vI x) f = f (wH (su σ a 0 x) u) := Pf_int (w := (0, _)) o.2.1 (Nat.lt_of_le_of_lt (Nat.le_add_right a 4) o.1) rfl (by decide) rfl
theorem gRo_nextNumber {σ : St} {u : Bool × Nat × Nat × Int} {a : Nat} (o : oRo a) {f : V → Prop} : Gf (wH σ u) 7 a 1 f = f (vI (σ a 1)) := Gf_int (w := (0, _)) o.2.1 (Nat.lt_of_le_of_lt (Nat.le_add_right a 4) o.1) rfl (by decide)
theorem pRo_nextNumber {σ : St} {u : Bool × Nat × Nat × Int} {a : Nat} (o : oRo a) {x : Int} {f : HS → Prop} : Pf (wH σ u) 7 a 1 (vI x) f = f (wH (su σ a 1 x) u) := Pf_int (w := (0, _)) o.2.1 (Nat.lt_of_le_of_lt (Nat.le_add_right a 4) o.1) rfl (by decide) rfl
theorem gRo_number {σ : St} {u : Bool × Nat × Nat × Int} {a : Nat} (o : oRo a) {f : V → Prop} : Gf (wH σ u) 7 a 2 f = f (vR (a + 1)) := Gf_ref (w := (0, _)) o.2.1 (Nat.lt_of_le_of_lt (Nat.le_add_right a 4) o.1) rfl
theorem RRo_number {σ : St} {u : Bool × Nat × Nat × Int} {a : Nat} (o : oRo a) {i : Int} {f : Int → Prop} (h0 : 0 ≤ i) (h1 : i < 40) : Ra (wH σ u) 0 (a + 1) i f = f (σ (a + 1) i) := Ra_s o.2.2.1 (Nat.lt_of_le_of_lt (Nat.add_le_add_left (by decide : 1 ≤ 4) a) o.1) (by decide) h0 h1
theorem WRo_number {σ : St} {u : Bool × Nat × Nat × Int} {a : Nat} (o : oRo a) {i x : Int} {f : HS → Prop} (h0 : 0 ≤ i) (h1 : i < 40) : Wa (wH σ u) 0 (a + 1) i x f = f (wH (su σ (a + 1) i x) u) := Wa_s o.2.2.1 (Nat.lt_of_le_of_lt (Nat.add_le_add_left (by decide : 1 ≤ 4) a) o.1) (by decide) h0 h1
theorem LRo_number {σ : St} {u : Bool × Nat × Nat × Int} {a : Nat} (o : oRo a) {f : Int → Prop} : La (wH σ u) (a + 1) f = f 40 := La_w o.2.2.1 (Nat.lt_of_le_of_lt (Nat.add_le_add_left (by decide : 1 ≤ 4) a) o.1) (by decide) (by decide)
theorem sRo_number {a : Nat} (o : oRo a) : shp (a + 1) = (0, 0, 40, []) ∧ a + 1 < NW := ⟨o.2.2.1, (Nat.lt_of_le_of_lt (Nat.add_le_add_left (by decide : 1 ≤ 4) a) o.1)⟩
theorem gRo_table {σ : St} {u : Bool × Nat × Nat × Int} {a : Nat} (o : oRo a) {f : V → Prop} : Gf (wH σ u) 7 a 3 f = f (vR (a + 2)) := Gf_ref (w := (0, _)) o.2.1 (Nat.lt_of_le_of_lt (Nat.le_add_right a 4) o.1) rfl
theorem RRo_table {σ : St} {u : Bool × Nat × Nat × Int} {a : Nat} (o : oRo a) {i : Int} {f : Int → Prop} (h0 : 0 ≤ i) (h1 : i < 40) : Ra (wH σ u) 0 (a + 2) i f = f (σ (a + 2) i) := Ra_s o.2.2.2.1 (Nat.lt_of_le_of_lt (Nat.add_le_add_left (by decide : 2 ≤ 4) a) o.1) (by decide) h0 h1
theorem WRo_table {σ : St} {u : Bool × Nat × Nat × Int} {a : Nat} (o : oRo a) {i x : Int} {f : HS → Prop} (h0 : 0 ≤ i) (h1 : i < 40) : Wa (wH σ u) 0 (a + 2) i x f = f (wH (su σ (a + 2) i x) u) := Wa_s o.2.2.2.1 (Nat.lt_of_le_of_lt (Nat.add_le_add_left (by decide : 2 ≤ 4) a) o.1) (by decide) h0 h1
theorem LRo_table {σ : St} {u : Bool × Nat × Nat × Int} {a : Nat} (o : oRo a) {f : Int → Prop} : La (wH σ u) (a + 2) f = f 40 := La_w o.2.2.2.1 (Nat.lt_of_le_of_lt (Nat.add_le_add_left (by decide : 2 ≤ 4) a) o.1) (by decide) (by decide)
theorem sRo_table {a : Nat} (o : oRo a) : shp (a + 2) = (0, 0, 40, []) ∧ a + 2 < NW := ⟨o.2.2.2.1, (Nat.lt_of_le_of_lt (Nat.add_le_add_left (by decide : 2 ≤ 4) a) o.1)⟩
theorem gRo_term {σ : St} {u : Bool × Nat × Nat × Int} {a : Nat} (o : oRo a) {f : V → Prop} : Gf (wH σ u) 7 a 4 f = f (vR (a + 3)) := Gf_ref (w := (0, _)) o.2.1 (Nat.lt_of_le_of_lt (Nat.le_add_right a 4) o.1) rfl
theorem RRo_term {σ : St} {u : Bool × Nat × Nat × Int} {a : Nat} (o : oRo a) {i : Int} {f : Int → Prop} (h0 : 0 ≤ i) (h1 : i < 120) : Ra (wH σ u) 0 (a + 3) i f = f (σ (a + 3) i) := Ra_s o.2.2.2.2.1 (Nat.lt_of_le_of_lt (Nat.add_le_add_left (by decide : 3 ≤ 4) a) o.1) (by decide) h0 h1
theorem WRo_term {σ : St} {u : Bool × Nat × Nat × Int} {a : Nat} (o : oRo a) {i x : Int} {f : HS → Prop} (h0 : 0 ≤ i) (h1 : i < 120) : Wa (wH σ u) 0 (a + 3) i x f = f (wH (su σ (a + 3) i x) u) := Wa_s o.2.2.2.2.1 (Nat.lt_of_le_of_lt (Nat.add_le_add_left (by decide : 3 ≤ 4) a) o.1) (by decide) h0 h1
theorem LRo_term {σ : St} {u : Bool × Nat × Nat × Int} {a : Nat} (o : oRo a) {f : Int → Prop} : La (wH σ u) (a + 3) f = f 120 := La_w o.2.2.2.2.1 (Nat.lt_of_le_of_lt (Nat.add_le_add_left (by decide : 3 ≤ 4) a) o.1) (by decide) (by decide)
theorem sRo_term {a : Nat} (o : oRo a) : shp (a + 3) = (0, 0, 120, []) ∧ a + 3 < NW := ⟨o.2.2.2.2.1, (Nat.lt_of_le_of_lt (Nat.add_le_add_left (by decide : 3 ≤ 4) a) o.1)⟩
theorem gRo_used {σ : St} {u : Bool × Nat × Nat × Int} {a : Nat} (o : oRo a) {f : V → Prop} : Gf (wH σ u) 7 a 5 f = f (vR (a + 4)) := Gf_ref (w := (0, _)) o.2.1 (Nat.lt_of_le_of_lt (Nat.le_add_right a 4) o.1) rfl
theorem RRo_used {σ : St} {u : Bool × Nat × Nat × Int} {a : Nat} (o : oRo a) {i : Int} {f : Int → Prop} (h0 : 0 ≤ i) (h1 : i < 100) : Ra (wH σ u) 0 (a + 4) i f = f (σ (a + 4) i) := Ra_s o.2.2.2.2.2 (Nat.lt_of_le_of_lt (Nat.add_le_add_left (by decide : 4 ≤ 4) a) o.1) (by decide) h0 h1
theorem WRo_used {σ : St} {u : Bool × Nat × Nat × Int} {a : Nat} (o : oRo a) {i x : Int} {f : HS → Prop} (h0 : 0 ≤ i) (h1 : i < 100) : Wa (wH σ u) 0 (a + 4) i x f = f (wH (su σ (a + 4) i x) u) := Wa_s o.2.2.2.2.2 (Nat.lt_of_le_of_lt (Nat.add_le_add_left (by decide : 4 ≤ 4) a) o.1) (by decide) h0 h1
theorem LRo_used {σ : St} {u : Bool × Nat × Nat × Int} {a : Nat} (o : oRo a) {f : Int → Prop} : La (wH σ u) (a + 4) f = f 100 := La_w o.2.2.2.2.2 (Nat.lt_of_le_of_lt (Nat.add_le_add_left (by decide : 4 ≤ 4) a) o.1) (by decide) (by decide)
theorem sRo_used {a : Nat} (o : oRo a) : shp (a + 4) = (0, 0, 100, []) ∧ a + 4 < NW := ⟨o.2.2.2.2.2, (Nat.lt_of_le_of_lt (Nat.add_le_add_left (by decide : 4 ≤ 4) a) o.1)⟩
def oLo (a : Nat) : Prop := a + 2 < NW ∧ shp a = (2, 5, 0, [(2, a + 1), (3, a + 2)]) ∧ shp (a + 1) = (0, 0, 700, []) ∧ shp (a + 2) = (0, 0, 200, [])
theorem ooLo {σ : St} {u : Bool × Nat × Nat × Int} {a : Nat} (o : oLo a) : isObj (wH σ u) 5 (vR a) = true := oO_s (w := (0, _)) o.2.1 (Nat.lt_of_le_of_lt (Nat.le_add_right a 2) o.1)
theorem gLo_state {σ : St} {u : Bool × Nat × Nat × Int} {a : Nat} (o : oLo a) {f : V → Prop} : Gf (wH σ u) 5 a 0 f = f (vI (σ a 0)) := Gf_int (w := (0, _)) o.2.1 (Nat.lt_of_le_of_lt (Nat.le_add_right a 2) o.1) rfl (by decide)
theorem pLo_state {σ : St} {u : Bool × Nat × Nat × Int} {a : Nat} (o : oLo a) {x : Int} {f : HS → Prop} : Pf (wH σ u) 5 a 0 (vI x) f = f (wH (su σ a 0 x) u) := Pf_int (w := (0, _)) o.2.1 (Nat.lt_of_le_of_lt (Nat.le_add_right a 2) o.1) rfl (by decide) rfl
theorem gLo_count {σ : St} {u : Bool × Nat × Nat × Int} {a : Nat} (o : oLo a) {f : V → Prop} : Gf (wH σ u) 5 a 1 f = f (vI (σ a 1)) := Gf_int (w := (0, _)) o.2.1 (Nat.lt_of_le_of_lt (Nat.le_add_right a 2) o.1) rfl (by decide)
theorem pLo_count {σ : St} {u : Bool × Nat × Nat × Int} {a : Nat} (o : oLo a) {x : Int} {f : HS → Prop} : Pf (wH σ u) 5 a 1 (vI x) f = f (wH (su σ a 1 x) u) := Pf_int (w := (0, _)) o.2.1 (Nat.lt_of_le_of_lt (Nat.le_add_right a 2) o.1) rfl (by decide) rfl
theorem gLo_steps {σ : St} {u : Bool × Nat × Nat × Int} {a : Nat} (o : oLo a) {f : V → Prop} : Gf (wH σ u) 5 a 2 f = f (vR (a + 1)) := Gf_ref (w := (0, _)) o.2.1 (Nat.lt_of_le_of_lt (Nat.le_add_right a 2) o.1) rfl
theorem RLo_steps {σ : St} {u : Bool × Nat × Nat × Int} {a : Nat} (o : oLo a) {i : Int} {f : Int → Prop} (h0 : 0 ≤ i) (h1 : i < 700) : Ra (wH σ u) 0 (a + 1) i f = f (σ (a + 1) i) := Ra_s o.2.2.1 (Nat.lt_of_le_of_lt (Nat.add_le_add_left (by decide : 1 ≤ 2) a) o.1) (by decide) h0 h1
theorem WLo_steps {σ : St} {u : Bool × Nat × Nat × Int} {a : Nat} (o : oLo a) {i x : Int} {f : HS → Prop} (h0 : 0 ≤ i) (h1 : i < 700) : Wa (wH σ u) 0 (a + 1) i x f = f (wH (su σ (a + 1) i x) u) := Wa_s o.2.2.1 (Nat.lt_of_le_of_lt (Nat.add_le_add_left (by decide : 1 ≤ 2) a) o.1) (by decide) h0 h1
theorem LLo_steps {σ : St} {u : Bool × Nat × Nat × Int} {a : Nat} (o : oLo a) {f : Int → Prop} : La (wH σ u) (a + 1) f = f 700 := La_w o.2.2.1 (Nat.lt_of_le_of_lt (Nat.add_le_add_left (by decide : 1 ≤ 2) a) o.1) (by decide) (by decide)
theorem sLo_steps {a : Nat} (o : oLo a) : shp (a + 1) = (0, 0, 700, []) ∧ a + 1 < NW := ⟨o.2.2.1, (Nat.lt_of_le_of_lt (Nat.add_le_add_left (by decide : 1 ≤ 2) a) o.1)⟩
theorem gLo_makers {σ : St} {u : Bool × Nat × Nat × Int} {a : Nat} (o : oLo a) {f : V → Prop} : Gf (wH σ u) 5 a 3 f = f (vR (a + 2)) := Gf_ref (w := (0, _)) o.2.1 (Nat.lt_of_le_of_lt (Nat.le_add_right a 2) o.1) rfl
theorem RLo_makers {σ : St} {u : Bool × Nat × Nat × Int} {a : Nat} (o : oLo a) {i : Int} {f : Int → Prop} (h0 : 0 ≤ i) (h1 : i < 200) : Ra (wH σ u) 0 (a + 2) i f = f (σ (a + 2) i) := Ra_s o.2.2.2 (Nat.lt_of_le_of_lt (Nat.add_le_add_left (by decide : 2 ≤ 2) a) o.1) (by decide) h0 h1
theorem WLo_makers {σ : St} {u : Bool × Nat × Nat × Int} {a : Nat} (o : oLo a) {i x : Int} {f : HS → Prop} (h0 : 0 ≤ i) (h1 : i < 200) : Wa (wH σ u) 0 (a + 2) i x f = f (wH (su σ (a + 2) i x) u) := Wa_s o.2.2.2 (Nat.lt_of_le_of_lt (Nat.add_le_add_left (by decide : 2 ≤ 2) a) o.1) (by decide) h0 h1
theorem LLo_makers {σ : St} {u : Bool × Nat × Nat × Int} {a : Nat} (o : oLo a) {f : Int → Prop} : La (wH σ u) (a + 2) f = f 200 := La_w o.2.2.2 (Nat.lt_of_le_of_lt (Nat.add_le_add_left (by decide : 2 ≤ 2) a) o.1) (by decide) (by decide)
theorem sLo_makers {a : Nat} (o : oLo a) : shp (a + 2) = (0, 0, 200, []) ∧ a + 2 < NW := ⟨o.2.2.2, (Nat.lt_of_le_of_lt (Nat.add_le_add_left (by decide : 2 ≤ 2) a) o.1)⟩
def oHa (a : Nat) : Prop := a + 83 < NW ∧ shp a = (2, 3, 0, [(2, a + 1), (3, a + 2), (4, a + 3), (5, a + 8), (6, a + 11)]) ∧ shp (a + 1) = (0, 0, 26, []) ∧ shp (a + 2) = (1, 8, 10, [(0, a + 14), (1, a + 21), (2, a + 28), (3, a + 35), (4, a + 42), (5, a + 49), (6, a + 56), (7, a + 63), (8, a + 70), (9, a + 77)]) ∧ oRo (a + 3) ∧ oLo (a + 8) ∧ oAt (a + 11) ∧ oRu (a + 14) ∧ oRu (a + 21) ∧ oRu (a + 28) ∧ oRu (a + 35) ∧ oRu (a + 42) ∧ oRu (a + 49) ∧ oRu (a + 56) ∧ oRu (a + 63) ∧ oRu (a + 70) ∧ oRu (a + 77)
theorem oHa.rows {a : Nat} (o : oHa a) : oRo (a + 3) := o.2.2.2.2.1
theorem oHa.log {a : Nat} (o : oHa a) : oLo (a + 8) := o.2.2.2.2.2.1
theorem oHa.planned {a : Nat} (o : oHa a) : oAt (a + 11) := o.2.2.2.2.2.2.1
theorem oHa.r0 {a : Nat} (o : oHa a) : oRu (a + 14) := o.2.2.2.2.2.2.2.1
theorem oHa.r1 {a : Nat} (o : oHa a) : oRu (a + 21) := o.2.2.2.2.2.2.2.2.1
theorem oHa.r2 {a : Nat} (o : oHa a) : oRu (a + 28) := o.2.2.2.2.2.2.2.2.2.1
theorem oHa.r3 {a : Nat} (o : oHa a) : oRu (a + 35) := o.2.2.2.2.2.2.2.2.2.2.1
theorem oHa.r4 {a : Nat} (o : oHa a) : oRu (a + 42) := o.2.2.2.2.2.2.2.2.2.2.2.1
theorem oHa.r5 {a : Nat} (o : oHa a) : oRu (a + 49) := o.2.2.2.2.2.2.2.2.2.2.2.2.1
theorem oHa.r6 {a : Nat} (o : oHa a) : oRu (a + 56) := o.2.2.2.2.2.2.2.2.2.2.2.2.2.1
theorem oHa.r7 {a : Nat} (o : oHa a) : oRu (a + 63) := o.2.2.2.2.2.2.2.2.2.2.2.2.2.2.1
theorem oHa.r8 {a : Nat} (o : oHa a) : oRu (a + 70) := o.2.2.2.2.2.2.2.2.2.2.2.2.2.2.2.1
theorem oHa.r9 {a : Nat} (o : oHa a) : oRu (a + 77) := o.2.2.2.2.2.2.2.2.2.2.2.2.2.2.2.2
theorem ooHa {σ : St} {u : Bool × Nat × Nat × Int} {a : Nat} (o : oHa a) : isObj (wH σ u) 3 (vR a) = true := oO_s (w := (0, _)) o.2.1 (Nat.lt_of_le_of_lt (Nat.le_add_right a 83) o.1)
theorem gHa_tableCount {σ : St} {u : Bool × Nat × Nat × Int} {a : Nat} (o : oHa a) {f : V → Prop} : Gf (wH σ u) 3 a 0 f = f (vI (σ a 0)) := Gf_int (w := (0, _)) o.2.1 (Nat.lt_of_le_of_lt (Nat.le_add_right a 83) o.1) rfl (by decide)
theorem pHa_tableCount {σ : St} {u : Bool × Nat × Nat × Int} {a : Nat} (o : oHa a) {x : Int} {f : HS → Prop} : Pf (wH σ u) 3 a 0 (vI x) f = f (wH (su σ a 0 x) u) := Pf_int (w := (0, _)) o.2.1 (Nat.lt_of_le_of_lt (Nat.le_add_right a 83) o.1) rfl (by decide) rfl
theorem gHa_ruleCount {σ : St} {u : Bool × Nat × Nat × Int} {a : Nat} (o : oHa a) {f : V → Prop} : Gf (wH σ u) 3 a 1 f = f (vI (σ a 1)) := Gf_int (w := (0, _)) o.2.1 (Nat.lt_of_le_of_lt (Nat.le_add_right a 83) o.1) rfl (by decide)
theorem pHa_ruleCount {σ : St} {u : Bool × Nat × Nat × Int} {a : Nat} (o : oHa a) {x : Int} {f : HS → Prop} : Pf (wH σ u) 3 a 1 (vI x) f = f (wH (su σ a 1 x) u) := Pf_int (w := (0, _)) o.2.1 (Nat.lt_of_le_of_lt (Nat.le_add_right a 83) o.1) rfl (by decide) rfl
theorem gHa_columns {σ : St} {u : Bool × Nat × Nat × Int} {a : Nat} (o : oHa a) {f : V → Prop} : Gf (wH σ u) 3 a 2 f = f (vR (a + 1)) := Gf_ref (w := (0, _)) o.2.1 (Nat.lt_of_le_of_lt (Nat.le_add_right a 83) o.1) rfl
theorem RHa_columns {σ : St} {u : Bool × Nat × Nat × Int} {a : Nat} (o : oHa a) {i : Int} {f : Int → Prop} (h0 : 0 ≤ i) (h1 : i < 26) : Ra (wH σ u) 0 (a + 1) i f = f (σ (a + 1) i) := Ra_s o.2.2.1 (Nat.lt_of_le_of_lt (Nat.add_le_add_left (by decide : 1 ≤ 83) a) o.1) (by decide) h0 h1
theorem WHa_columns {σ : St} {u : Bool × Nat × Nat × Int} {a : Nat} (o : oHa a) {i x : Int} {f : HS → Prop} (h0 : 0 ≤ i) (h1 : i < 26) : Wa (wH σ u) 0 (a + 1) i x f = f (wH (su σ (a + 1) i x) u) := Wa_s o.2.2.1 (Nat.lt_of_le_of_lt (Nat.add_le_add_left (by decide : 1 ≤ 83) a) o.1) (by decide) h0 h1
theorem LHa_columns {σ : St} {u : Bool × Nat × Nat × Int} {a : Nat} (o : oHa a) {f : Int → Prop} : La (wH σ u) (a + 1) f = f 26 := La_w o.2.2.1 (Nat.lt_of_le_of_lt (Nat.add_le_add_left (by decide : 1 ≤ 83) a) o.1) (by decide) (by decide)
theorem sHa_columns {a : Nat} (o : oHa a) : shp (a + 1) = (0, 0, 26, []) ∧ a + 1 < NW := ⟨o.2.2.1, (Nat.lt_of_le_of_lt (Nat.add_le_add_left (by decide : 1 ≤ 83) a) o.1)⟩
theorem gHa_rules {σ : St} {u : Bool × Nat × Nat × Int} {a : Nat} (o : oHa a) {f : V → Prop} : Gf (wH σ u) 3 a 3 f = f (vR (a + 2)) := Gf_ref (w := (0, _)) o.2.1 (Nat.lt_of_le_of_lt (Nat.le_add_right a 83) o.1) rfl
theorem gHa_rows {σ : St} {u : Bool × Nat × Nat × Int} {a : Nat} (o : oHa a) {f : V → Prop} : Gf (wH σ u) 3 a 4 f = f (vR (a + 3)) := Gf_ref (w := (0, _)) o.2.1 (Nat.lt_of_le_of_lt (Nat.le_add_right a 83) o.1) rfl
theorem gHa_log {σ : St} {u : Bool × Nat × Nat × Int} {a : Nat} (o : oHa a) {f : V → Prop} : Gf (wH σ u) 3 a 5 f = f (vR (a + 8)) := Gf_ref (w := (0, _)) o.2.1 (Nat.lt_of_le_of_lt (Nat.le_add_right a 83) o.1) rfl
theorem gHa_planned {σ : St} {u : Bool × Nat × Nat × Int} {a : Nat} (o : oHa a) {f : V → Prop} : Gf (wH σ u) 3 a 6 f = f (vR (a + 11)) := Gf_ref (w := (0, _)) o.2.1 (Nat.lt_of_le_of_lt (Nat.le_add_right a 83) o.1) rfl
def oLe (a : Nat) : Prop := a + 4 < NW ∧ shp a = (2, 4, 0, [(0, a + 1), (1, a + 2), (3, a + 3), (4, a + 4)]) ∧ shp (a + 1) = (0, 0, 100, []) ∧ shp (a + 2) = (0, 0, 100, []) ∧ shp (a + 3) = (0, 0, 40, []) ∧ shp (a + 4) = (0, 0, 40, [])
theorem ooLe {σ : St} {u : Bool × Nat × Nat × Int} {a : Nat} (o : oLe a) : isObj (wH σ u) 4 (vR a) = true := oO_s (w := (0, _)) o.2.1 (Nat.lt_of_le_of_lt (Nat.le_add_right a 4) o.1)
theorem gLe_standsFor {σ : St} {u : Bool × Nat × Nat × Int} {a : Nat} (o : oLe a) {f : V → Prop} : Gf (wH σ u) 4 a 0 f = f (vR (a + 1)) := Gf_ref (w := (0, _)) o.2.1 (Nat.lt_of_le_of_lt (Nat.le_add_right a 4) o.1) rfl
theorem RLe_standsFor {σ : St} {u : Bool × Nat × Nat × Int} {a : Nat} (o : oLe a) {i : Int} {f : Int → Prop} (h0 : 0 ≤ i) (h1 : i < 100) : Ra (wH σ u) 0 (a + 1) i f = f (σ (a + 1) i) := Ra_s o.2.2.1 (Nat.lt_of_le_of_lt (Nat.add_le_add_left (by decide : 1 ≤ 4) a) o.1) (by decide) h0 h1
theorem WLe_standsFor {σ : St} {u : Bool × Nat × Nat × Int} {a : Nat} (o : oLe a) {i x : Int} {f : HS → Prop} (h0 : 0 ≤ i) (h1 : i < 100) : Wa (wH σ u) 0 (a + 1) i x f = f (wH (su σ (a + 1) i x) u) := Wa_s o.2.2.1 (Nat.lt_of_le_of_lt (Nat.add_le_add_left (by decide : 1 ≤ 4) a) o.1) (by decide) h0 h1
theorem LLe_standsFor {σ : St} {u : Bool × Nat × Nat × Int} {a : Nat} (o : oLe a) {f : Int → Prop} : La (wH σ u) (a + 1) f = f 100 := La_w o.2.2.1 (Nat.lt_of_le_of_lt (Nat.add_le_add_left (by decide : 1 ≤ 4) a) o.1) (by decide) (by decide)
theorem sLe_standsFor {a : Nat} (o : oLe a) : shp (a + 1) = (0, 0, 100, []) ∧ a + 1 < NW := ⟨o.2.2.1, (Nat.lt_of_le_of_lt (Nat.add_le_add_left (by decide : 1 ≤ 4) a) o.1)⟩
theorem gLe_trail {σ : St} {u : Bool × Nat × Nat × Int} {a : Nat} (o : oLe a) {f : V → Prop} : Gf (wH σ u) 4 a 1 f = f (vR (a + 2)) := Gf_ref (w := (0, _)) o.2.1 (Nat.lt_of_le_of_lt (Nat.le_add_right a 4) o.1) rfl
theorem RLe_trail {σ : St} {u : Bool × Nat × Nat × Int} {a : Nat} (o : oLe a) {i : Int} {f : Int → Prop} (h0 : 0 ≤ i) (h1 : i < 100) : Ra (wH σ u) 0 (a + 2) i f = f (σ (a + 2) i) := Ra_s o.2.2.2.1 (Nat.lt_of_le_of_lt (Nat.add_le_add_left (by decide : 2 ≤ 4) a) o.1) (by decide) h0 h1
theorem WLe_trail {σ : St} {u : Bool × Nat × Nat × Int} {a : Nat} (o : oLe a) {i x : Int} {f : HS → Prop} (h0 : 0 ≤ i) (h1 : i < 100) : Wa (wH σ u) 0 (a + 2) i x f = f (wH (su σ (a + 2) i x) u) := Wa_s o.2.2.2.1 (Nat.lt_of_le_of_lt (Nat.add_le_add_left (by decide : 2 ≤ 4) a) o.1) (by decide) h0 h1
theorem LLe_trail {σ : St} {u : Bool × Nat × Nat × Int} {a : Nat} (o : oLe a) {f : Int → Prop} : La (wH σ u) (a + 2) f = f 100 := La_w o.2.2.2.1 (Nat.lt_of_le_of_lt (Nat.add_le_add_left (by decide : 2 ≤ 4) a) o.1) (by decide) (by decide)
theorem sLe_trail {a : Nat} (o : oLe a) : shp (a + 2) = (0, 0, 100, []) ∧ a + 2 < NW := ⟨o.2.2.2.1, (Nat.lt_of_le_of_lt (Nat.add_le_add_left (by decide : 2 ≤ 4) a) o.1)⟩
theorem gLe_trailSize {σ : St} {u : Bool × Nat × Nat × Int} {a : Nat} (o : oLe a) {f : V → Prop} : Gf (wH σ u) 4 a 2 f = f (vI (σ a 2)) := Gf_int (w := (0, _)) o.2.1 (Nat.lt_of_le_of_lt (Nat.le_add_right a 4) o.1) rfl (by decide)
theorem pLe_trailSize {σ : St} {u : Bool × Nat × Nat × Int} {a : Nat} (o : oLe a) {x : Int} {f : HS → Prop} : Pf (wH σ u) 4 a 2 (vI x) f = f (wH (su σ a 2 x) u) := Pf_int (w := (0, _)) o.2.1 (Nat.lt_of_le_of_lt (Nat.le_add_right a 4) o.1) rfl (by decide) rfl
theorem gLe_chosen {σ : St} {u : Bool × Nat × Nat × Int} {a : Nat} (o : oLe a) {f : V → Prop} : Gf (wH σ u) 4 a 3 f = f (vR (a + 3)) := Gf_ref (w := (0, _)) o.2.1 (Nat.lt_of_le_of_lt (Nat.le_add_right a 4) o.1) rfl
theorem RLe_chosen {σ : St} {u : Bool × Nat × Nat × Int} {a : Nat} (o : oLe a) {i : Int} {f : Int → Prop} (h0 : 0 ≤ i) (h1 : i < 40) : Ra (wH σ u) 0 (a + 3) i f = f (σ (a + 3) i) := Ra_s o.2.2.2.2.1 (Nat.lt_of_le_of_lt (Nat.add_le_add_left (by decide : 3 ≤ 4) a) o.1) (by decide) h0 h1
theorem WLe_chosen {σ : St} {u : Bool × Nat × Nat × Int} {a : Nat} (o : oLe a) {i x : Int} {f : HS → Prop} (h0 : 0 ≤ i) (h1 : i < 40) : Wa (wH σ u) 0 (a + 3) i x f = f (wH (su σ (a + 3) i x) u) := Wa_s o.2.2.2.2.1 (Nat.lt_of_le_of_lt (Nat.add_le_add_left (by decide : 3 ≤ 4) a) o.1) (by decide) h0 h1
theorem LLe_chosen {σ : St} {u : Bool × Nat × Nat × Int} {a : Nat} (o : oLe a) {f : Int → Prop} : La (wH σ u) (a + 3) f = f 40 := La_w o.2.2.2.2.1 (Nat.lt_of_le_of_lt (Nat.add_le_add_left (by decide : 3 ≤ 4) a) o.1) (by decide) (by decide)
theorem sLe_chosen {a : Nat} (o : oLe a) : shp (a + 3) = (0, 0, 40, []) ∧ a + 3 < NW := ⟨o.2.2.2.2.1, (Nat.lt_of_le_of_lt (Nat.add_le_add_left (by decide : 3 ≤ 4) a) o.1)⟩
theorem gLe_mark {σ : St} {u : Bool × Nat × Nat × Int} {a : Nat} (o : oLe a) {f : V → Prop} : Gf (wH σ u) 4 a 4 f = f (vR (a + 4)) := Gf_ref (w := (0, _)) o.2.1 (Nat.lt_of_le_of_lt (Nat.le_add_right a 4) o.1) rfl
theorem RLe_mark {σ : St} {u : Bool × Nat × Nat × Int} {a : Nat} (o : oLe a) {i : Int} {f : Int → Prop} (h0 : 0 ≤ i) (h1 : i < 40) : Ra (wH σ u) 0 (a + 4) i f = f (σ (a + 4) i) := Ra_s o.2.2.2.2.2 (Nat.lt_of_le_of_lt (Nat.add_le_add_left (by decide : 4 ≤ 4) a) o.1) (by decide) h0 h1
theorem WLe_mark {σ : St} {u : Bool × Nat × Nat × Int} {a : Nat} (o : oLe a) {i x : Int} {f : HS → Prop} (h0 : 0 ≤ i) (h1 : i < 40) : Wa (wH σ u) 0 (a + 4) i x f = f (wH (su σ (a + 4) i x) u) := Wa_s o.2.2.2.2.2 (Nat.lt_of_le_of_lt (Nat.add_le_add_left (by decide : 4 ≤ 4) a) o.1) (by decide) h0 h1
theorem LLe_mark {σ : St} {u : Bool × Nat × Nat × Int} {a : Nat} (o : oLe a) {f : Int → Prop} : La (wH σ u) (a + 4) f = f 40 := La_w o.2.2.2.2.2 (Nat.lt_of_le_of_lt (Nat.add_le_add_left (by decide : 4 ≤ 4) a) o.1) (by decide) (by decide)
theorem sLe_mark {a : Nat} (o : oLe a) : shp (a + 4) = (0, 0, 40, []) ∧ a + 4 < NW := ⟨o.2.2.2.2.2, (Nat.lt_of_le_of_lt (Nat.add_le_add_left (by decide : 4 ≤ 4) a) o.1)⟩
theorem gLe_length {σ : St} {u : Bool × Nat × Nat × Int} {a : Nat} (o : oLe a) {f : V → Prop} : Gf (wH σ u) 4 a 5 f = f (vI (σ a 5)) := Gf_int (w := (0, _)) o.2.1 (Nat.lt_of_le_of_lt (Nat.le_add_right a 4) o.1) rfl (by decide)
theorem pLe_length {σ : St} {u : Bool × Nat × Nat × Int} {a : Nat} (o : oLe a) {x : Int} {f : HS → Prop} : Pf (wH σ u) 4 a 5 (vI x) f = f (wH (su σ a 5 x) u) := Pf_int (w := (0, _)) o.2.1 (Nat.lt_of_le_of_lt (Nat.le_add_right a 4) o.1) rfl (by decide) rfl
theorem ooAn {σ : St} {u : Bool × Nat × Nat × Int} : isObj (wH σ u) 0 (vR 119) = true := oO_s (w := (0, _)) rfl (by decide)
theorem gAn_count {σ : St} {u : Bool × Nat × Nat × Int} {f : V → Prop} : Gf (wH σ u) 0 119 0 f = f (vI (σ 119 0)) := Gf_int (w := (0, _)) rfl (by decide) rfl (by decide)
theorem pAn_count {σ : St} {u : Bool × Nat × Nat × Int} {x : Int} {f : HS → Prop} : Pf (wH σ u) 0 119 0 (vI x) f = f (wH (su σ 119 0 x) u) := Pf_int (w := (0, _)) rfl (by decide) rfl (by decide) rfl
theorem gAn_width {σ : St} {u : Bool × Nat × Nat × Int} {f : V → Prop} : Gf (wH σ u) 0 119 1 f = f (vI (σ 119 1)) := Gf_int (w := (0, _)) rfl (by decide) rfl (by decide)
theorem pAn_width {σ : St} {u : Bool × Nat × Nat × Int} {x : Int} {f : HS → Prop} : Pf (wH σ u) 0 119 1 (vI x) f = f (wH (su σ 119 1 x) u) := Pf_int (w := (0, _)) rfl (by decide) rfl (by decide) rfl
theorem gAn_codes {σ : St} {u : Bool × Nat × Nat × Int} {f : V → Prop} : Gf (wH σ u) 0 119 2 f = f (vR (120)) := Gf_ref (w := (0, _)) rfl (by decide) rfl
theorem RAn_codes {σ : St} {u : Bool × Nat × Nat × Int} {i : Int} {f : Int → Prop} (h0 : 0 ≤ i) (h1 : i < 1600) : Ra (wH σ u) 0 (120) i f = f (σ (120) i) := Ra_s rfl (by decide) (by decide) h0 h1
theorem WAn_codes {σ : St} {u : Bool × Nat × Nat × Int} {i x : Int} {f : HS → Prop} (h0 : 0 ≤ i) (h1 : i < 1600) : Wa (wH σ u) 0 (120) i x f = f (wH (su σ (120) i x) u) := Wa_s rfl (by decide) (by decide) h0 h1
theorem LAn_codes {σ : St} {u : Bool × Nat × Nat × Int} {f : Int → Prop} : La (wH σ u) (120) f = f 1600 := La_w rfl (by decide) (by decide) (by decide)
theorem sAn_codes : shp 120 = (0, 0, 1600, []) ∧ 120 < NW := ⟨rfl, by decide⟩
theorem ooFn {σ : St} {u : Bool × Nat × Nat × Int} : isObj (wH σ u) 2 (vR 101) = true := oO_s (w := (0, _)) rfl (by decide)
theorem gFn_bound {σ : St} {u : Bool × Nat × Nat × Int} {f : V → Prop} : Gf (wH σ u) 2 101 0 f = f (vR (102)) := Gf_ref (w := (0, _)) rfl (by decide) rfl
theorem RFn_bound {σ : St} {u : Bool × Nat × Nat × Int} {i : Int} {f : Int → Prop} (h0 : 0 ≤ i) (h1 : i < 26) : Ra (wH σ u) 0 (102) i f = f (σ (102) i) := Ra_s rfl (by decide) (by decide) h0 h1
theorem WFn_bound {σ : St} {u : Bool × Nat × Nat × Int} {i x : Int} {f : HS → Prop} (h0 : 0 ≤ i) (h1 : i < 26) : Wa (wH σ u) 0 (102) i x f = f (wH (su σ (102) i x) u) := Wa_s rfl (by decide) (by decide) h0 h1
theorem LFn_bound {σ : St} {u : Bool × Nat × Nat × Int} {f : Int → Prop} : La (wH σ u) (102) f = f 26 := La_w rfl (by decide) (by decide) (by decide)
theorem sFn_bound : shp 102 = (0, 0, 26, []) ∧ 102 < NW := ⟨rfl, by decide⟩
theorem gFn_trail {σ : St} {u : Bool × Nat × Nat × Int} {f : V → Prop} : Gf (wH σ u) 2 101 1 f = f (vR (103)) := Gf_ref (w := (0, _)) rfl (by decide) rfl
theorem RFn_trail {σ : St} {u : Bool × Nat × Nat × Int} {i : Int} {f : Int → Prop} (h0 : 0 ≤ i) (h1 : i < 26) : Ra (wH σ u) 0 (103) i f = f (σ (103) i) := Ra_s rfl (by decide) (by decide) h0 h1
theorem WFn_trail {σ : St} {u : Bool × Nat × Nat × Int} {i x : Int} {f : HS → Prop} (h0 : 0 ≤ i) (h1 : i < 26) : Wa (wH σ u) 0 (103) i x f = f (wH (su σ (103) i x) u) := Wa_s rfl (by decide) (by decide) h0 h1
theorem LFn_trail {σ : St} {u : Bool × Nat × Nat × Int} {f : Int → Prop} : La (wH σ u) (103) f = f 26 := La_w rfl (by decide) (by decide) (by decide)
theorem sFn_trail : shp 103 = (0, 0, 26, []) ∧ 103 < NW := ⟨rfl, by decide⟩
theorem gFn_trailSize {σ : St} {u : Bool × Nat × Nat × Int} {f : V → Prop} : Gf (wH σ u) 2 101 2 f = f (vI (σ 101 2)) := Gf_int (w := (0, _)) rfl (by decide) rfl (by decide)
theorem pFn_trailSize {σ : St} {u : Bool × Nat × Nat × Int} {x : Int} {f : HS → Prop} : Pf (wH σ u) 2 101 2 (vI x) f = f (wH (su σ 101 2 x) u) := Pf_int (w := (0, _)) rfl (by decide) rfl (by decide) rfl
theorem gFn_chosen {σ : St} {u : Bool × Nat × Nat × Int} {f : V → Prop} : Gf (wH σ u) 2 101 3 f = f (vR (104)) := Gf_ref (w := (0, _)) rfl (by decide) rfl
theorem RFn_chosen {σ : St} {u : Bool × Nat × Nat × Int} {i : Int} {f : Int → Prop} (h0 : 0 ≤ i) (h1 : i < 3) : Ra (wH σ u) 0 (104) i f = f (σ (104) i) := Ra_s rfl (by decide) (by decide) h0 h1
theorem WFn_chosen {σ : St} {u : Bool × Nat × Nat × Int} {i x : Int} {f : HS → Prop} (h0 : 0 ≤ i) (h1 : i < 3) : Wa (wH σ u) 0 (104) i x f = f (wH (su σ (104) i x) u) := Wa_s rfl (by decide) (by decide) h0 h1
theorem LFn_chosen {σ : St} {u : Bool × Nat × Nat × Int} {f : Int → Prop} : La (wH σ u) (104) f = f 3 := La_w rfl (by decide) (by decide) (by decide)
theorem sFn_chosen : shp 104 = (0, 0, 3, []) ∧ 104 < NW := ⟨rfl, by decide⟩
theorem gFn_mark {σ : St} {u : Bool × Nat × Nat × Int} {f : V → Prop} : Gf (wH σ u) 2 101 4 f = f (vR (105)) := Gf_ref (w := (0, _)) rfl (by decide) rfl
theorem RFn_mark {σ : St} {u : Bool × Nat × Nat × Int} {i : Int} {f : Int → Prop} (h0 : 0 ≤ i) (h1 : i < 3) : Ra (wH σ u) 0 (105) i f = f (σ (105) i) := Ra_s rfl (by decide) (by decide) h0 h1
theorem WFn_mark {σ : St} {u : Bool × Nat × Nat × Int} {i x : Int} {f : HS → Prop} (h0 : 0 ≤ i) (h1 : i < 3) : Wa (wH σ u) 0 (105) i x f = f (wH (su σ (105) i x) u) := Wa_s rfl (by decide) (by decide) h0 h1
theorem LFn_mark {σ : St} {u : Bool × Nat × Nat × Int} {f : Int → Prop} : La (wH σ u) (105) f = f 3 := La_w rfl (by decide) (by decide) (by decide)
theorem sFn_mark : shp 105 = (0, 0, 3, []) ∧ 105 < NW := ⟨rfl, by decide⟩
theorem gFn_open {σ : St} {u : Bool × Nat × Nat × Int} {f : V → Prop} : Gf (wH σ u) 2 101 5 f = f (vR (106)) := Gf_ref (w := (0, _)) rfl (by decide) rfl
theorem RFn_open {σ : St} {u : Bool × Nat × Nat × Int} {i : Int} {f : Int → Prop} (h0 : 0 ≤ i) (h1 : i < 3) : Ra (wH σ u) 0 (106) i f = f (σ (106) i) := Ra_s rfl (by decide) (by decide) h0 h1
theorem WFn_open {σ : St} {u : Bool × Nat × Nat × Int} {i x : Int} {f : HS → Prop} (h0 : 0 ≤ i) (h1 : i < 3) : Wa (wH σ u) 0 (106) i x f = f (wH (su σ (106) i x) u) := Wa_s rfl (by decide) (by decide) h0 h1
theorem LFn_open {σ : St} {u : Bool × Nat × Nat × Int} {f : Int → Prop} : La (wH σ u) (106) f = f 3 := La_w rfl (by decide) (by decide) (by decide)
theorem sFn_open : shp 106 = (0, 0, 3, []) ∧ 106 < NW := ⟨rfl, by decide⟩
theorem gFn_depth {σ : St} {u : Bool × Nat × Nat × Int} {f : V → Prop} : Gf (wH σ u) 2 101 6 f = f (vI (σ 101 6)) := Gf_int (w := (0, _)) rfl (by decide) rfl (by decide)
theorem pFn_depth {σ : St} {u : Bool × Nat × Nat × Int} {x : Int} {f : HS → Prop} : Pf (wH σ u) 2 101 6 (vI x) f = f (wH (su σ 101 6 x) u) := Pf_int (w := (0, _)) rfl (by decide) rfl (by decide) rfl
theorem gFn_limit {σ : St} {u : Bool × Nat × Nat × Int} {f : V → Prop} : Gf (wH σ u) 2 101 7 f = f (vI (σ 101 7)) := Gf_int (w := (0, _)) rfl (by decide) rfl (by decide)
theorem pFn_limit {σ : St} {u : Bool × Nat × Nat × Int} {x : Int} {f : HS → Prop} : Pf (wH σ u) 2 101 7 (vI x) f = f (wH (su σ 101 7 x) u) := Pf_int (w := (0, _)) rfl (by decide) rfl (by decide) rfl
theorem ooWa {σ : St} {u : Bool × Nat × Nat × Int} : isObj (wH σ u) 10 (vR 117) = true := oO_s (w := (0, _)) rfl (by decide)
theorem gWa_ranks {σ : St} {u : Bool × Nat × Nat × Int} {f : V → Prop} : Gf (wH σ u) 10 117 0 f = f (vR (118)) := Gf_ref (w := (0, _)) rfl (by decide) rfl
theorem RWa_ranks {σ : St} {u : Bool × Nat × Nat × Int} {i : Int} {f : Int → Prop} (h0 : 0 ≤ i) (h1 : i < 78) : Ra (wH σ u) 0 (118) i f = f (σ (118) i) := Ra_s rfl (by decide) (by decide) h0 h1
theorem WWa_ranks {σ : St} {u : Bool × Nat × Nat × Int} {i x : Int} {f : HS → Prop} (h0 : 0 ≤ i) (h1 : i < 78) : Wa (wH σ u) 0 (118) i x f = f (wH (su σ (118) i x) u) := Wa_s rfl (by decide) (by decide) h0 h1
theorem LWa_ranks {σ : St} {u : Bool × Nat × Nat × Int} {f : Int → Prop} : La (wH σ u) (118) f = f 78 := La_w rfl (by decide) (by decide) (by decide)
theorem sWa_ranks : shp 118 = (0, 0, 78, []) ∧ 118 < NW := ⟨rfl, by decide⟩
theorem gWa_raised {σ : St} {u : Bool × Nat × Nat × Int} {f : V → Prop} : Gf (wH σ u) 10 117 1 f = f (vI (σ 117 1)) := Gf_int (w := (0, _)) rfl (by decide) rfl (by decide)
theorem pWa_raised {σ : St} {u : Bool × Nat × Nat × Int} {x : Int} {f : HS → Prop} (hx : x = 0 ∨ x = 1) : Pf (wH σ u) 10 117 1 (vI x) f = f (wH (su σ 117 1 x) u) := Pf_int (w := (0, _)) rfl (by decide) rfl (by decide) (by rcases hx with rfl | rfl <;> rfl)
theorem gWa_ringed {σ : St} {u : Bool × Nat × Nat × Int} {f : V → Prop} : Gf (wH σ u) 10 117 2 f = f (vI (σ 117 2)) := Gf_int (w := (0, _)) rfl (by decide) rfl (by decide)
theorem pWa_ringed {σ : St} {u : Bool × Nat × Nat × Int} {x : Int} {f : HS → Prop} (hx : x = 0 ∨ x = 1) : Pf (wH σ u) 10 117 2 (vI x) f = f (wH (su σ 117 2 x) u) := Pf_int (w := (0, _)) rfl (by decide) rfl (by decide) (by rcases hx with rfl | rfl <;> rfl)
theorem ooTo {σ : St} {u : Bool × Nat × Nat × Int} : isObj (wH σ u) 9 (vR 89) = true := oO_s (w := (0, _)) rfl (by decide)
theorem gTo_count {σ : St} {u : Bool × Nat × Nat × Int} {f : V → Prop} : Gf (wH σ u) 9 89 0 f = f (vI (σ 89 0)) := Gf_int (w := (0, _)) rfl (by decide) rfl (by decide)
theorem pTo_count {σ : St} {u : Bool × Nat × Nat × Int} {x : Int} {f : HS → Prop} : Pf (wH σ u) 9 89 0 (vI x) f = f (wH (su σ 89 0 x) u) := Pf_int (w := (0, _)) rfl (by decide) rfl (by decide) rfl
theorem gTo_at {σ : St} {u : Bool × Nat × Nat × Int} {f : V → Prop} : Gf (wH σ u) 9 89 1 f = f (vI (σ 89 1)) := Gf_int (w := (0, _)) rfl (by decide) rfl (by decide)
theorem pTo_at {σ : St} {u : Bool × Nat × Nat × Int} {x : Int} {f : HS → Prop} : Pf (wH σ u) 9 89 1 (vI x) f = f (wH (su σ 89 1 x) u) := Pf_int (w := (0, _)) rfl (by decide) rfl (by decide) rfl
theorem gTo_kinds {σ : St} {u : Bool × Nat × Nat × Int} {f : V → Prop} : Gf (wH σ u) 9 89 2 f = f (vR (90)) := Gf_ref (w := (0, _)) rfl (by decide) rfl
theorem RTo_kinds {σ : St} {u : Bool × Nat × Nat × Int} {i : Int} {f : Int → Prop} (h0 : 0 ≤ i) (h1 : i < 1001) : Ra (wH σ u) 0 (90) i f = f (σ (90) i) := Ra_s rfl (by decide) (by decide) h0 h1
theorem WTo_kinds {σ : St} {u : Bool × Nat × Nat × Int} {i x : Int} {f : HS → Prop} (h0 : 0 ≤ i) (h1 : i < 1001) : Wa (wH σ u) 0 (90) i x f = f (wH (su σ (90) i x) u) := Wa_s rfl (by decide) (by decide) h0 h1
theorem LTo_kinds {σ : St} {u : Bool × Nat × Nat × Int} {f : Int → Prop} : La (wH σ u) (90) f = f 1001 := La_w rfl (by decide) (by decide) (by decide)
theorem sTo_kinds : shp 90 = (0, 0, 1001, []) ∧ 90 < NW := ⟨rfl, by decide⟩
theorem gTo_values {σ : St} {u : Bool × Nat × Nat × Int} {f : V → Prop} : Gf (wH σ u) 9 89 3 f = f (vR (91)) := Gf_ref (w := (0, _)) rfl (by decide) rfl
theorem RTo_values {σ : St} {u : Bool × Nat × Nat × Int} {i : Int} {f : Int → Prop} (h0 : 0 ≤ i) (h1 : i < 1001) : Ra (wH σ u) 0 (91) i f = f (σ (91) i) := Ra_s rfl (by decide) (by decide) h0 h1
theorem WTo_values {σ : St} {u : Bool × Nat × Nat × Int} {i x : Int} {f : HS → Prop} (h0 : 0 ≤ i) (h1 : i < 1001) : Wa (wH σ u) 0 (91) i x f = f (wH (su σ (91) i x) u) := Wa_s rfl (by decide) (by decide) h0 h1
theorem LTo_values {σ : St} {u : Bool × Nat × Nat × Int} {f : Int → Prop} : La (wH σ u) (91) f = f 1001 := La_w rfl (by decide) (by decide) (by decide)
theorem sTo_values : shp 91 = (0, 0, 1001, []) ∧ 91 < NW := ⟨rfl, by decide⟩
theorem gTo_places {σ : St} {u : Bool × Nat × Nat × Int} {f : V → Prop} : Gf (wH σ u) 9 89 4 f = f (vR (92)) := Gf_ref (w := (0, _)) rfl (by decide) rfl
theorem RTo_places {σ : St} {u : Bool × Nat × Nat × Int} {i : Int} {f : Int → Prop} (h0 : 0 ≤ i) (h1 : i < 1001) : Ra (wH σ u) 0 (92) i f = f (σ (92) i) := Ra_s rfl (by decide) (by decide) h0 h1
theorem WTo_places {σ : St} {u : Bool × Nat × Nat × Int} {i x : Int} {f : HS → Prop} (h0 : 0 ≤ i) (h1 : i < 1001) : Wa (wH σ u) 0 (92) i x f = f (wH (su σ (92) i x) u) := Wa_s rfl (by decide) (by decide) h0 h1
theorem LTo_places {σ : St} {u : Bool × Nat × Nat × Int} {f : Int → Prop} : La (wH σ u) (92) f = f 1001 := La_w rfl (by decide) (by decide) (by decide)
theorem sTo_places : shp 92 = (0, 0, 1001, []) ∧ 92 < NW := ⟨rfl, by decide⟩
theorem ooPa {σ : St} {u : Bool × Nat × Nat × Int} : isObj (wH σ u) 6 (vR 87) = true := oO_s (w := (0, _)) rfl (by decide)
theorem gPa_fault {σ : St} {u : Bool × Nat × Nat × Int} {f : V → Prop} : Gf (wH σ u) 6 87 0 f = f (vI (σ 87 0)) := Gf_int (w := (0, _)) rfl (by decide) rfl (by decide)
theorem pPa_fault {σ : St} {u : Bool × Nat × Nat × Int} {x : Int} {f : HS → Prop} : Pf (wH σ u) 6 87 0 (vI x) f = f (wH (su σ 87 0 x) u) := Pf_int (w := (0, _)) rfl (by decide) rfl (by decide) rfl
theorem gPa_faultPlace {σ : St} {u : Bool × Nat × Nat × Int} {f : V → Prop} : Gf (wH σ u) 6 87 1 f = f (vI (σ 87 1)) := Gf_int (w := (0, _)) rfl (by decide) rfl (by decide)
theorem pPa_faultPlace {σ : St} {u : Bool × Nat × Nat × Int} {x : Int} {f : HS → Prop} : Pf (wH σ u) 6 87 1 (vI x) f = f (wH (su σ 87 1 x) u) := Pf_int (w := (0, _)) rfl (by decide) rfl (by decide) rfl
theorem gPa_asked {σ : St} {u : Bool × Nat × Nat × Int} {f : V → Prop} : Gf (wH σ u) 6 87 2 f = f (vR (88)) := Gf_ref (w := (0, _)) rfl (by decide) rfl
theorem RPa_asked {σ : St} {u : Bool × Nat × Nat × Int} {i : Int} {f : Int → Prop} (h0 : 0 ≤ i) (h1 : i < 3) : Ra (wH σ u) 0 (88) i f = f (σ (88) i) := Ra_s rfl (by decide) (by decide) h0 h1
theorem WPa_asked {σ : St} {u : Bool × Nat × Nat × Int} {i x : Int} {f : HS → Prop} (h0 : 0 ≤ i) (h1 : i < 3) : Wa (wH σ u) 0 (88) i x f = f (wH (su σ (88) i x) u) := Wa_s rfl (by decide) (by decide) h0 h1
theorem LPa_asked {σ : St} {u : Bool × Nat × Nat × Int} {f : Int → Prop} : La (wH σ u) (88) f = f 3 := La_w rfl (by decide) (by decide) (by decide)
theorem sPa_asked : shp 88 = (0, 0, 3, []) ∧ 88 < NW := ⟨rfl, by decide⟩
theorem gPa_askedCount {σ : St} {u : Bool × Nat × Nat × Int} {f : V → Prop} : Gf (wH σ u) 6 87 3 f = f (vI (σ 87 3)) := Gf_int (w := (0, _)) rfl (by decide) rfl (by decide)
theorem pPa_askedCount {σ : St} {u : Bool × Nat × Nat × Int} {x : Int} {f : HS → Prop} : Pf (wH σ u) 6 87 3 (vI x) f = f (wH (su σ 87 3 x) u) := Pf_int (w := (0, _)) rfl (by decide) rfl (by decide) rfl
theorem gPa_tokens {σ : St} {u : Bool × Nat × Nat × Int} {f : V → Prop} : Gf (wH σ u) 6 87 4 f = f (vR (89)) := Gf_ref (w := (0, _)) rfl (by decide) rfl
theorem gPa_cells {σ : St} {u : Bool × Nat × Nat × Int} {f : V → Prop} : Gf (wH σ u) 6 87 5 f = f (vR (93)) := Gf_ref (w := (0, _)) rfl (by decide) rfl
theorem RPa_cells {σ : St} {u : Bool × Nat × Nat × Int} {i : Int} {f : Int → Prop} (h0 : 0 ≤ i) (h1 : i < 3) : Ra (wH σ u) 0 (93) i f = f (σ (93) i) := Ra_s rfl (by decide) (by decide) h0 h1
theorem WPa_cells {σ : St} {u : Bool × Nat × Nat × Int} {i x : Int} {f : HS → Prop} (h0 : 0 ≤ i) (h1 : i < 3) : Wa (wH σ u) 0 (93) i x f = f (wH (su σ (93) i x) u) := Wa_s rfl (by decide) (by decide) h0 h1
theorem LPa_cells {σ : St} {u : Bool × Nat × Nat × Int} {f : Int → Prop} : La (wH σ u) (93) f = f 3 := La_w rfl (by decide) (by decide) (by decide)
theorem sPa_cells : shp 93 = (0, 0, 3, []) ∧ 93 < NW := ⟨rfl, by decide⟩
theorem ooCh {σ : St} {u : Bool × Nat × Nat × Int} : isObj (wH σ u) 11 (vR 0) = true := oO_s (w := (0, _)) rfl (by decide)
theorem gCh_halls {σ : St} {u : Bool × Nat × Nat × Int} {f : V → Prop} : Gf (wH σ u) 11 0 0 f = f (vR (1)) := Gf_ref (w := (0, _)) rfl (by decide) rfl
theorem gCh_spare {σ : St} {u : Bool × Nat × Nat × Int} {f : V → Prop} : Gf (wH σ u) 11 0 1 f = f (vR (2)) := Gf_ref (w := (0, _)) rfl (by decide) rfl
theorem gCh_tape {σ : St} {u : Bool × Nat × Nat × Int} {f : V → Prop} : Gf (wH σ u) 11 0 2 f = f (vR (86)) := Gf_ref (w := (0, _)) rfl (by decide) rfl
theorem RCh_tape {σ : St} {u : Bool × Nat × Nat × Int} {i : Int} {f : Int → Prop} (h0 : 0 ≤ i) (h1 : i < 1000) : Ra (wH σ u) 0 (86) i f = f (σ (86) i) := Ra_s rfl (by decide) (by decide) h0 h1
theorem WCh_tape {σ : St} {u : Bool × Nat × Nat × Int} {i x : Int} {f : HS → Prop} (h0 : 0 ≤ i) (h1 : i < 1000) : Wa (wH σ u) 0 (86) i x f = f (wH (su σ (86) i x) u) := Wa_s rfl (by decide) (by decide) h0 h1
theorem LCh_tape {σ : St} {u : Bool × Nat × Nat × Int} {f : Int → Prop} : La (wH σ u) (86) f = f 1000 := La_w rfl (by decide) (by decide) (by decide)
theorem sCh_tape : shp 86 = (0, 0, 1000, []) ∧ 86 < NW := ⟨rfl, by decide⟩
theorem gCh_tapeLength {σ : St} {u : Bool × Nat × Nat × Int} {f : V → Prop} : Gf (wH σ u) 11 0 3 f = f (vI (σ 0 3)) := Gf_int (w := (0, _)) rfl (by decide) rfl (by decide)
theorem pCh_tapeLength {σ : St} {u : Bool × Nat × Nat × Int} {x : Int} {f : HS → Prop} : Pf (wH σ u) 11 0 3 (vI x) f = f (wH (su σ 0 3 x) u) := Pf_int (w := (0, _)) rfl (by decide) rfl (by decide) rfl
theorem gCh_parser {σ : St} {u : Bool × Nat × Nat × Int} {f : V → Prop} : Gf (wH σ u) 11 0 4 f = f (vR (87)) := Gf_ref (w := (0, _)) rfl (by decide) rfl
theorem gCh_told {σ : St} {u : Bool × Nat × Nat × Int} {f : V → Prop} : Gf (wH σ u) 11 0 5 f = f (vR (94)) := Gf_ref (w := (0, _)) rfl (by decide) rfl
theorem gCh_finder {σ : St} {u : Bool × Nat × Nat × Int} {f : V → Prop} : Gf (wH σ u) 11 0 6 f = f (vR (101)) := Gf_ref (w := (0, _)) rfl (by decide) rfl
theorem gCh_latestLead {σ : St} {u : Bool × Nat × Nat × Int} {f : V → Prop} : Gf (wH σ u) 11 0 7 f = f (vR (107)) := Gf_ref (w := (0, _)) rfl (by decide) rfl
theorem gCh_coreLead {σ : St} {u : Bool × Nat × Nat × Int} {f : V → Prop} : Gf (wH σ u) 11 0 8 f = f (vR (112)) := Gf_ref (w := (0, _)) rfl (by decide) rfl
theorem gCh_ways {σ : St} {u : Bool × Nat × Nat × Int} {f : V → Prop} : Gf (wH σ u) 11 0 9 f = f (vR (117)) := Gf_ref (w := (0, _)) rfl (by decide) rfl
theorem gCh_answers {σ : St} {u : Bool × Nat × Nat × Int} {f : V → Prop} : Gf (wH σ u) 11 0 10 f = f (vR (119)) := Gf_ref (w := (0, _)) rfl (by decide) rfl
theorem Rr_halls {σ : St} {u : Bool × Nat × Nat × Int} {i : Int} {f : V → Prop} (h0 : 0 ≤ i) (h1 : i ≤ 2) : Rr (wH σ u) 1 i f = f (vR (121 + 84 * i.toNat)) := by
  rcases (show i = 0 ∨ i = 1 ∨ i = 2 by omega) with rfl | rfl | rfl
  · exact Rr_w (w := [(0, 121), (1, 205), (2, 289)]) (c := 3) (n := 3) rfl (by decide) (by decide) (by decide) h0 (by decide) rfl
  · exact Rr_w (w := [(0, 121), (1, 205), (2, 289)]) (c := 3) (n := 3) rfl (by decide) (by decide) (by decide) h0 (by decide) rfl
  · exact Rr_w (w := [(0, 121), (1, 205), (2, 289)]) (c := 3) (n := 3) rfl (by decide) (by decide) (by decide) h0 (by decide) rfl
theorem Rr_rules {σ : St} {u : Bool × Nat × Nat × Int} {a : Nat} (o : oHa a) {i : Int} {f : V → Prop} (h0 : 0 ≤ i) (h1 : i ≤ 9) : Rr (wH σ u) (a + 2) i f = f (vR (a + 14 + 7 * i.toNat)) := by
  have q : (a + 2 < NW) := Nat.lt_of_le_of_lt (Nat.add_le_add_left (by decide : 2 ≤ 83) a) o.1
  rcases (show i = 0 ∨ i = 1 ∨ i = 2 ∨ i = 3 ∨ i = 4 ∨ i = 5 ∨ i = 6 ∨ i = 7 ∨ i = 8 ∨ i = 9 by omega) with rfl | rfl | rfl | rfl | rfl | rfl | rfl | rfl | rfl | rfl
  · exact Rr_w o.2.2.2.1 q (by decide) (by decide) h0 (by decide) rfl
  · exact Rr_w o.2.2.2.1 q (by decide) (by decide) h0 (by decide) rfl
  · exact Rr_w o.2.2.2.1 q (by decide) (by decide) h0 (by decide) rfl
  · exact Rr_w o.2.2.2.1 q (by decide) (by decide) h0 (by decide) rfl
  · exact Rr_w o.2.2.2.1 q (by decide) (by decide) h0 (by decide) rfl
  · exact Rr_w o.2.2.2.1 q (by decide) (by decide) h0 (by decide) rfl
  · exact Rr_w o.2.2.2.1 q (by decide) (by decide) h0 (by decide) rfl
  · exact Rr_w o.2.2.2.1 q (by decide) (by decide) h0 (by decide) rfl
  · exact Rr_w o.2.2.2.1 q (by decide) (by decide) h0 (by decide) rfl
  · exact Rr_w o.2.2.2.1 q (by decide) (by decide) h0 (by decide) rfl
theorem oHa.ru {a : Nat} (o : oHa a) {k : Nat} (hk : k ≤ 9) : oRu (a + 14 + 7 * k) := by
  rcases (show k = 0 ∨ k = 1 ∨ k = 2 ∨ k = 3 ∨ k = 4 ∨ k = 5 ∨ k = 6 ∨ k = 7 ∨ k = 8 ∨ k = 9 by omega) with rfl | rfl | rfl | rfl | rfl | rfl | rfl | rfl | rfl | rfl
  · exact o.r0
  · exact o.r1
  · exact o.r2
  · exact o.r3
  · exact o.r4
  · exact o.r5
  · exact o.r6
  · exact o.r7
  · exact o.r8
  · exact o.r9
theorem oHa_2 : oHa 2 := ⟨by decide, rfl, rfl, rfl, ⟨by decide, rfl, rfl, rfl, rfl, rfl⟩, ⟨by decide, rfl, rfl, rfl⟩, ⟨by decide, rfl, rfl, rfl⟩, ⟨by decide, rfl, ⟨by decide, rfl, rfl, rfl⟩, ⟨by decide, rfl, rfl, rfl⟩⟩, ⟨by decide, rfl, ⟨by decide, rfl, rfl, rfl⟩, ⟨by decide, rfl, rfl, rfl⟩⟩, ⟨by decide, rfl, ⟨by decide, rfl, rfl, rfl⟩, ⟨by decide, rfl, rfl, rfl⟩⟩, ⟨by decide, rfl, ⟨by decide, rfl, rfl, rfl⟩, ⟨by decide, rfl, rfl, rfl⟩⟩, ⟨by decide, rfl, ⟨by decide, rfl, rfl, rfl⟩, ⟨by decide, rfl, rfl, rfl⟩⟩, ⟨by decide, rfl, ⟨by decide, rfl, rfl, rfl⟩, ⟨by decide, rfl, rfl, rfl⟩⟩, ⟨by decide, rfl, ⟨by decide, rfl, rfl, rfl⟩, ⟨by decide, rfl, rfl, rfl⟩⟩, ⟨by decide, rfl, ⟨by decide, rfl, rfl, rfl⟩, ⟨by decide, rfl, rfl, rfl⟩⟩, ⟨by decide, rfl, ⟨by decide, rfl, rfl, rfl⟩, ⟨by decide, rfl, rfl, rfl⟩⟩, ⟨by decide, rfl, ⟨by decide, rfl, rfl, rfl⟩, ⟨by decide, rfl, rfl, rfl⟩⟩⟩
theorem oHa_121 : oHa 121 := ⟨by decide, rfl, rfl, rfl, ⟨by decide, rfl, rfl, rfl, rfl, rfl⟩, ⟨by decide, rfl, rfl, rfl⟩, ⟨by decide, rfl, rfl, rfl⟩, ⟨by decide, rfl, ⟨by decide, rfl, rfl, rfl⟩, ⟨by decide, rfl, rfl, rfl⟩⟩, ⟨by decide, rfl, ⟨by decide, rfl, rfl, rfl⟩, ⟨by decide, rfl, rfl, rfl⟩⟩, ⟨by decide, rfl, ⟨by decide, rfl, rfl, rfl⟩, ⟨by decide, rfl, rfl, rfl⟩⟩, ⟨by decide, rfl, ⟨by decide, rfl, rfl, rfl⟩, ⟨by decide, rfl, rfl, rfl⟩⟩, ⟨by decide, rfl, ⟨by decide, rfl, rfl, rfl⟩, ⟨by decide, rfl, rfl, rfl⟩⟩, ⟨by decide, rfl, ⟨by decide, rfl, rfl, rfl⟩, ⟨by decide, rfl, rfl, rfl⟩⟩, ⟨by decide, rfl, ⟨by decide, rfl, rfl, rfl⟩, ⟨by decide, rfl, rfl, rfl⟩⟩, ⟨by decide, rfl, ⟨by decide, rfl, rfl, rfl⟩, ⟨by decide, rfl, rfl, rfl⟩⟩, ⟨by decide, rfl, ⟨by decide, rfl, rfl, rfl⟩, ⟨by decide, rfl, rfl, rfl⟩⟩, ⟨by decide, rfl, ⟨by decide, rfl, rfl, rfl⟩, ⟨by decide, rfl, rfl, rfl⟩⟩⟩
theorem oHa_205 : oHa 205 := ⟨by decide, rfl, rfl, rfl, ⟨by decide, rfl, rfl, rfl, rfl, rfl⟩, ⟨by decide, rfl, rfl, rfl⟩, ⟨by decide, rfl, rfl, rfl⟩, ⟨by decide, rfl, ⟨by decide, rfl, rfl, rfl⟩, ⟨by decide, rfl, rfl, rfl⟩⟩, ⟨by decide, rfl, ⟨by decide, rfl, rfl, rfl⟩, ⟨by decide, rfl, rfl, rfl⟩⟩, ⟨by decide, rfl, ⟨by decide, rfl, rfl, rfl⟩, ⟨by decide, rfl, rfl, rfl⟩⟩, ⟨by decide, rfl, ⟨by decide, rfl, rfl, rfl⟩, ⟨by decide, rfl, rfl, rfl⟩⟩, ⟨by decide, rfl, ⟨by decide, rfl, rfl, rfl⟩, ⟨by decide, rfl, rfl, rfl⟩⟩, ⟨by decide, rfl, ⟨by decide, rfl, rfl, rfl⟩, ⟨by decide, rfl, rfl, rfl⟩⟩, ⟨by decide, rfl, ⟨by decide, rfl, rfl, rfl⟩, ⟨by decide, rfl, rfl, rfl⟩⟩, ⟨by decide, rfl, ⟨by decide, rfl, rfl, rfl⟩, ⟨by decide, rfl, rfl, rfl⟩⟩, ⟨by decide, rfl, ⟨by decide, rfl, rfl, rfl⟩, ⟨by decide, rfl, rfl, rfl⟩⟩, ⟨by decide, rfl, ⟨by decide, rfl, rfl, rfl⟩, ⟨by decide, rfl, rfl, rfl⟩⟩⟩
theorem oHa_289 : oHa 289 := ⟨by decide, rfl, rfl, rfl, ⟨by decide, rfl, rfl, rfl, rfl, rfl⟩, ⟨by decide, rfl, rfl, rfl⟩, ⟨by decide, rfl, rfl, rfl⟩, ⟨by decide, rfl, ⟨by decide, rfl, rfl, rfl⟩, ⟨by decide, rfl, rfl, rfl⟩⟩, ⟨by decide, rfl, ⟨by decide, rfl, rfl, rfl⟩, ⟨by decide, rfl, rfl, rfl⟩⟩, ⟨by decide, rfl, ⟨by decide, rfl, rfl, rfl⟩, ⟨by decide, rfl, rfl, rfl⟩⟩, ⟨by decide, rfl, ⟨by decide, rfl, rfl, rfl⟩, ⟨by decide, rfl, rfl, rfl⟩⟩, ⟨by decide, rfl, ⟨by decide, rfl, rfl, rfl⟩, ⟨by decide, rfl, rfl, rfl⟩⟩, ⟨by decide, rfl, ⟨by decide, rfl, rfl, rfl⟩, ⟨by decide, rfl, rfl, rfl⟩⟩, ⟨by decide, rfl, ⟨by decide, rfl, rfl, rfl⟩, ⟨by decide, rfl, rfl, rfl⟩⟩, ⟨by decide, rfl, ⟨by decide, rfl, rfl, rfl⟩, ⟨by decide, rfl, rfl, rfl⟩⟩, ⟨by decide, rfl, ⟨by decide, rfl, rfl, rfl⟩, ⟨by decide, rfl, rfl, rfl⟩⟩, ⟨by decide, rfl, ⟨by decide, rfl, rfl, rfl⟩, ⟨by decide, rfl, rfl, rfl⟩⟩⟩
theorem oRu_94 : oRu 94 := ⟨by decide, rfl, ⟨by decide, rfl, rfl, rfl⟩, ⟨by decide, rfl, rfl, rfl⟩⟩
theorem oLe_107 : oLe 107 := ⟨by decide, rfl, rfl, rfl, rfl, rfl⟩
theorem oLe_112 : oLe 112 := ⟨by decide, rfl, rfl, rfl, rfl, rfl⟩
theorem oHa_h {i : Int} (h0 : 0 ≤ i) (h1 : i ≤ 2) : oHa (121 + 84 * i.toNat) := by
  rcases (show i = 0 ∨ i = 1 ∨ i = 2 by omega) with rfl | rfl | rfl
  · exact oHa_121
  · exact oHa_205
  · exact oHa_289
