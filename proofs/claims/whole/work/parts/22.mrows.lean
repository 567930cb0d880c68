/-! reads and writes of the reference's rows (wip/whole/gen9.py) -/
theorem RM_cols {σ : St} {u : Bool × Nat × Nat × Int} {i : Int} {f : Int → Prop} (h0 : 0 ≤ i) (h1 : i < 130) : Ra (wH σ u) 0 374 i f = f (σ 374 i) := by
  unfold Ra
  rw [rM_cols h0 h1]
theorem WM_cols {σ : St} {u : Bool × Nat × Nat × Int} {i x : Int} {f : HS → Prop} (h0 : 0 ≤ i) (h1 : i < 130) : Wa (wH σ u) 0 374 i x f = f (wH (su σ 374 i x) u) := by
  unfold Wa
  rw [wM_cols h0 h1]
theorem RM_ruleMany {σ : St} {u : Bool × Nat × Nat × Int} {i : Int} {f : Int → Prop} (h0 : 0 ≤ i) (h1 : i < 5) : Ra (wH σ u) 0 375 i f = f (σ 375 i) := by
  unfold Ra
  rw [rM_ruleMany h0 h1]
theorem WM_ruleMany {σ : St} {u : Bool × Nat × Nat × Int} {i x : Int} {f : HS → Prop} (h0 : 0 ≤ i) (h1 : i < 5) : Wa (wH σ u) 0 375 i x f = f (wH (su σ 375 i x) u) := by
  unfold Wa
  rw [wM_ruleMany h0 h1]
theorem RM_rules {σ : St} {u : Bool × Nat × Nat × Int} {i : Int} {f : Int → Prop} (h0 : 0 ≤ i) (h1 : i < 1500) : Ra (wH σ u) 0 376 i f = f (σ 376 i) := by
  unfold Ra
  rw [rM_rules h0 h1]
theorem WM_rules {σ : St} {u : Bool × Nat × Nat × Int} {i x : Int} {f : HS → Prop} (h0 : 0 ≤ i) (h1 : i < 1500) : Wa (wH σ u) 0 376 i x f = f (wH (su σ 376 i x) u) := by
  unfold Wa
  rw [wM_rules h0 h1]
theorem RM_there {σ : St} {u : Bool × Nat × Nat × Int} {i : Int} {f : Int → Prop} (h0 : 0 ≤ i) (h1 : i < 1000) : Ra (wH σ u) 0 377 i f = f (σ 377 i) := by
  unfold Ra
  rw [rM_there h0 h1]
theorem WM_there {σ : St} {u : Bool × Nat × Nat × Int} {i x : Int} {f : HS → Prop} (h0 : 0 ≤ i) (h1 : i < 1000) : Wa (wH σ u) 0 377 i x f = f (wH (su σ 377 i x) u) := by
  unfold Wa
  rw [wM_there h0 h1]
theorem RM_rowTable {σ : St} {u : Bool × Nat × Nat × Int} {i : Int} {f : Int → Prop} (h0 : 0 ≤ i) (h1 : i < 1000) : Ra (wH σ u) 0 378 i f = f (σ 378 i) := by
  unfold Ra
  rw [rM_rowTable h0 h1]
theorem WM_rowTable {σ : St} {u : Bool × Nat × Nat × Int} {i x : Int} {f : HS → Prop} (h0 : 0 ≤ i) (h1 : i < 1000) : Wa (wH σ u) 0 378 i x f = f (wH (su σ 378 i x) u) := by
  unfold Wa
  rw [wM_rowTable h0 h1]
theorem RM_terms {σ : St} {u : Bool × Nat × Nat × Int} {i : Int} {f : Int → Prop} (h0 : 0 ≤ i) (h1 : i < 3000) : Ra (wH σ u) 0 379 i f = f (σ 379 i) := by
  unfold Ra
  rw [rM_terms h0 h1]
theorem WM_terms {σ : St} {u : Bool × Nat × Nat × Int} {i x : Int} {f : HS → Prop} (h0 : 0 ≤ i) (h1 : i < 3000) : Wa (wH σ u) 0 379 i x f = f (wH (su σ 379 i x) u) := by
  unfold Wa
  rw [wM_terms h0 h1]
theorem RM_byStep {σ : St} {u : Bool × Nat × Nat × Int} {i : Int} {f : Int → Prop} (h0 : 0 ≤ i) (h1 : i < 1000) : Ra (wH σ u) 0 380 i f = f (σ 380 i) := by
  unfold Ra
  rw [rM_byStep h0 h1]
theorem WM_byStep {σ : St} {u : Bool × Nat × Nat × Int} {i x : Int} {f : HS → Prop} (h0 : 0 ≤ i) (h1 : i < 1000) : Wa (wH σ u) 0 380 i x f = f (wH (su σ 380 i x) u) := by
  unfold Wa
  rw [wM_byStep h0 h1]
theorem RM_nextRow {σ : St} {u : Bool × Nat × Nat × Int} {i : Int} {f : Int → Prop} (h0 : 0 ≤ i) (h1 : i < 5) : Ra (wH σ u) 0 381 i f = f (σ 381 i) := by
  unfold Ra
  rw [rM_nextRow h0 h1]
theorem WM_nextRow {σ : St} {u : Bool × Nat × Nat × Int} {i x : Int} {f : HS → Prop} (h0 : 0 ≤ i) (h1 : i < 5) : Wa (wH σ u) 0 381 i x f = f (wH (su σ 381 i x) u) := by
  unfold Wa
  rw [wM_nextRow h0 h1]
theorem RM_state {σ : St} {u : Bool × Nat × Nat × Int} {i : Int} {f : Int → Prop} (h0 : 0 ≤ i) (h1 : i < 5) : Ra (wH σ u) 0 382 i f = f (σ 382 i) := by
  unfold Ra
  rw [rM_state h0 h1]
theorem WM_state {σ : St} {u : Bool × Nat × Nat × Int} {i x : Int} {f : HS → Prop} (h0 : 0 ≤ i) (h1 : i < 5) : Wa (wH σ u) 0 382 i x f = f (wH (su σ 382 i x) u) := by
  unfold Wa
  rw [wM_state h0 h1]
theorem RM_stepMany {σ : St} {u : Bool × Nat × Nat × Int} {i : Int} {f : Int → Prop} (h0 : 0 ≤ i) (h1 : i < 5) : Ra (wH σ u) 0 383 i f = f (σ 383 i) := by
  unfold Ra
  rw [rM_stepMany h0 h1]
theorem WM_stepMany {σ : St} {u : Bool × Nat × Nat × Int} {i x : Int} {f : HS → Prop} (h0 : 0 ≤ i) (h1 : i < 5) : Wa (wH σ u) 0 383 i x f = f (wH (su σ 383 i x) u) := by
  unfold Wa
  rw [wM_stepMany h0 h1]
theorem RM_steps {σ : St} {u : Bool × Nat × Nat × Int} {i : Int} {f : Int → Prop} (h0 : 0 ≤ i) (h1 : i < 5120) : Ra (wH σ u) 0 384 i f = f (σ 384 i) := by
  unfold Ra
  rw [rM_steps h0 h1]
theorem WM_steps {σ : St} {u : Bool × Nat × Nat × Int} {i x : Int} {f : HS → Prop} (h0 : 0 ≤ i) (h1 : i < 5120) : Wa (wH σ u) 0 384 i x f = f (wH (su σ 384 i x) u) := by
  unfold Wa
  rw [wM_steps h0 h1]
theorem RM_named {σ : St} {u : Bool × Nat × Nat × Int} {i : Int} {f : Int → Prop} (h0 : 0 ≤ i) (h1 : i < 500) : Ra (wH σ u) 1 385 i f = f (σ 385 i) := by
  unfold Ra
  rw [rM_named h0 h1]
theorem WM_named {σ : St} {u : Bool × Nat × Nat × Int} {i x : Int} {f : HS → Prop} (h0 : 0 ≤ i) (h1 : i < 500) : Wa (wH σ u) 1 385 i x f = f (wH (su σ 385 i x) u) := by
  unfold Wa
  rw [wM_named h0 h1]
theorem RM_tape {σ : St} {u : Bool × Nat × Nat × Int} {i : Int} {f : Int → Prop} (h0 : 0 ≤ i) (h1 : i < 1000) : Ra (wH σ u) 0 386 i f = f (σ 386 i) := by
  unfold Ra
  rw [rM_tape h0 h1]
theorem WM_tape {σ : St} {u : Bool × Nat × Nat × Int} {i x : Int} {f : HS → Prop} (h0 : 0 ≤ i) (h1 : i < 1000) : Wa (wH σ u) 0 386 i x f = f (wH (su σ 386 i x) u) := by
  unfold Wa
  rw [wM_tape h0 h1]
theorem RM_list {σ : St} {u : Bool × Nat × Nat × Int} {i : Int} {f : Int → Prop} (h0 : 0 ≤ i) (h1 : i < 3) : Ra (wH σ u) 0 387 i f = f (σ 387 i) := by
  unfold Ra
  rw [rM_list h0 h1]
theorem WM_list {σ : St} {u : Bool × Nat × Nat × Int} {i x : Int} {f : HS → Prop} (h0 : 0 ≤ i) (h1 : i < 3) : Wa (wH σ u) 0 387 i x f = f (wH (su σ 387 i x) u) := by
  unfold Wa
  rw [wM_list h0 h1]
theorem RM_seen {σ : St} {u : Bool × Nat × Nat × Int} {i : Int} {f : Int → Prop} (h0 : 0 ≤ i) (h1 : i < 100) : Ra (wH σ u) 1 388 i f = f (σ 388 i) := by
  unfold Ra
  rw [rM_seen h0 h1]
theorem WM_seen {σ : St} {u : Bool × Nat × Nat × Int} {i x : Int} {f : HS → Prop} (h0 : 0 ≤ i) (h1 : i < 100) : Wa (wH σ u) 1 388 i x f = f (wH (su σ 388 i x) u) := by
  unfold Wa
  rw [wM_seen h0 h1]
theorem RM_bound {σ : St} {u : Bool × Nat × Nat × Int} {i : Int} {f : Int → Prop} (h0 : 0 ≤ i) (h1 : i < 26) : Ra (wH σ u) 0 389 i f = f (σ 389 i) := by
  unfold Ra
  rw [rM_bound h0 h1]
theorem WM_bound {σ : St} {u : Bool × Nat × Nat × Int} {i x : Int} {f : HS → Prop} (h0 : 0 ≤ i) (h1 : i < 26) : Wa (wH σ u) 0 389 i x f = f (wH (su σ 389 i x) u) := by
  unfold Wa
  rw [wM_bound h0 h1]
theorem RM_hitRow {σ : St} {u : Bool × Nat × Nat × Int} {i : Int} {f : Int → Prop} (h0 : 0 ≤ i) (h1 : i < 3) : Ra (wH σ u) 0 390 i f = f (σ 390 i) := by
  unfold Ra
  rw [rM_hitRow h0 h1]
theorem WM_hitRow {σ : St} {u : Bool × Nat × Nat × Int} {i x : Int} {f : HS → Prop} (h0 : 0 ≤ i) (h1 : i < 3) : Wa (wH σ u) 0 390 i x f = f (wH (su σ 390 i x) u) := by
  unfold Wa
  rw [wM_hitRow h0 h1]
theorem RM_bestRow {σ : St} {u : Bool × Nat × Nat × Int} {i : Int} {f : Int → Prop} (h0 : 0 ≤ i) (h1 : i < 3) : Ra (wH σ u) 0 391 i f = f (σ 391 i) := by
  unfold Ra
  rw [rM_bestRow h0 h1]
theorem WM_bestRow {σ : St} {u : Bool × Nat × Nat × Int} {i x : Int} {f : HS → Prop} (h0 : 0 ≤ i) (h1 : i < 3) : Wa (wH σ u) 0 391 i x f = f (wH (su σ 391 i x) u) := by
  unfold Wa
  rw [wM_bestRow h0 h1]
theorem RM_was {σ : St} {u : Bool × Nat × Nat × Int} {i : Int} {f : Int → Prop} (h0 : 0 ≤ i) (h1 : i < 234) : Ra (wH σ u) 0 392 i f = f (σ 392 i) := by
  unfold Ra
  rw [rM_was h0 h1]
theorem WM_was {σ : St} {u : Bool × Nat × Nat × Int} {i x : Int} {f : HS → Prop} (h0 : 0 ≤ i) (h1 : i < 234) : Wa (wH σ u) 0 392 i x f = f (wH (su σ 392 i x) u) := by
  unfold Wa
  rw [wM_was h0 h1]
theorem RM_follow {σ : St} {u : Bool × Nat × Nat × Int} {i : Int} {f : Int → Prop} (h0 : 0 ≤ i) (h1 : i < 26) : Ra (wH σ u) 0 393 i f = f (σ 393 i) := by
  unfold Ra
  rw [rM_follow h0 h1]
theorem WM_follow {σ : St} {u : Bool × Nat × Nat × Int} {i x : Int} {f : HS → Prop} (h0 : 0 ≤ i) (h1 : i < 26) : Wa (wH σ u) 0 393 i x f = f (wH (su σ 393 i x) u) := by
  unfold Wa
  rw [wM_follow h0 h1]
theorem RM_stand {σ : St} {u : Bool × Nat × Nat × Int} {i : Int} {f : Int → Prop} (h0 : 0 ≤ i) (h1 : i < 100) : Ra (wH σ u) 0 394 i f = f (σ 394 i) := by
  unfold Ra
  rw [rM_stand h0 h1]
theorem WM_stand {σ : St} {u : Bool × Nat × Nat × Int} {i x : Int} {f : HS → Prop} (h0 : 0 ≤ i) (h1 : i < 100) : Wa (wH σ u) 0 394 i x f = f (wH (su σ 394 i x) u) := by
  unfold Wa
  rw [wM_stand h0 h1]
theorem RM_image {σ : St} {u : Bool × Nat × Nat × Int} {i : Int} {f : Int → Prop} (h0 : 0 ≤ i) (h1 : i < 200) : Ra (wH σ u) 0 395 i f = f (σ 395 i) := by
  unfold Ra
  rw [rM_image h0 h1]
theorem WM_image {σ : St} {u : Bool × Nat × Nat × Int} {i x : Int} {f : HS → Prop} (h0 : 0 ≤ i) (h1 : i < 200) : Wa (wH σ u) 0 395 i x f = f (wH (su σ 395 i x) u) := by
  unfold Wa
  rw [wM_image h0 h1]
theorem RM_told {σ : St} {u : Bool × Nat × Nat × Int} {i : Int} {f : Int → Prop} (h0 : 0 ≤ i) (h1 : i < 100) : Ra (wH σ u) 0 396 i f = f (σ 396 i) := by
  unfold Ra
  rw [rM_told h0 h1]
theorem WM_told {σ : St} {u : Bool × Nat × Nat × Int} {i x : Int} {f : HS → Prop} (h0 : 0 ≤ i) (h1 : i < 100) : Wa (wH σ u) 0 396 i x f = f (wH (su σ 396 i x) u) := by
  unfold Wa
  rw [wM_told h0 h1]
theorem RM_stays {σ : St} {u : Bool × Nat × Nat × Int} {i : Int} {f : Int → Prop} (h0 : 0 ≤ i) (h1 : i < 200) : Ra (wH σ u) 1 397 i f = f (σ 397 i) := by
  unfold Ra
  rw [rM_stays h0 h1]
theorem WM_stays {σ : St} {u : Bool × Nat × Nat × Int} {i x : Int} {f : HS → Prop} (h0 : 0 ≤ i) (h1 : i < 200) : Wa (wH σ u) 1 397 i x f = f (wH (su σ 397 i x) u) := by
  unfold Wa
  rw [wM_stays h0 h1]
theorem RM_found {σ : St} {u : Bool × Nat × Nat × Int} {i : Int} {f : Int → Prop} (h0 : 0 ≤ i) (h1 : i < 4803) : Ra (wH σ u) 0 398 i f = f (σ 398 i) := by
  unfold Ra
  rw [rM_found h0 h1]
theorem WM_found {σ : St} {u : Bool × Nat × Nat × Int} {i x : Int} {f : HS → Prop} (h0 : 0 ≤ i) (h1 : i < 4803) : Wa (wH σ u) 0 398 i x f = f (wH (su σ 398 i x) u) := by
  unfold Wa
  rw [wM_found h0 h1]
theorem RM_asked {σ : St} {u : Bool × Nat × Nat × Int} {i : Int} {f : Int → Prop} (h0 : 0 ≤ i) (h1 : i < 3) : Ra (wH σ u) 0 399 i f = f (σ 399 i) := by
  unfold Ra
  rw [rM_asked h0 h1]
theorem WM_asked {σ : St} {u : Bool × Nat × Nat × Int} {i x : Int} {f : HS → Prop} (h0 : 0 ≤ i) (h1 : i < 3) : Wa (wH σ u) 0 399 i x f = f (wH (su σ 399 i x) u) := by
  unfold Wa
  rw [wM_asked h0 h1]
theorem RM_leadsTo {σ : St} {u : Bool × Nat × Nat × Int} {i : Int} {f : Int → Prop} (h0 : 0 ≤ i) (h1 : i < 6084) : Ra (wH σ u) 1 400 i f = f (σ 400 i) := by
  unfold Ra
  rw [rM_leadsTo h0 h1]
theorem WM_leadsTo {σ : St} {u : Bool × Nat × Nat × Int} {i x : Int} {f : HS → Prop} (h0 : 0 ≤ i) (h1 : i < 6084) : Wa (wH σ u) 1 400 i x f = f (wH (su σ 400 i x) u) := by
  unfold Wa
  rw [wM_leadsTo h0 h1]
theorem RM_isNew {σ : St} {u : Bool × Nat × Nat × Int} {i : Int} {f : Int → Prop} (h0 : 0 ≤ i) (h1 : i < 6084) : Ra (wH σ u) 1 401 i f = f (σ 401 i) := by
  unfold Ra
  rw [rM_isNew h0 h1]
theorem WM_isNew {σ : St} {u : Bool × Nat × Nat × Int} {i x : Int} {f : HS → Prop} (h0 : 0 ≤ i) (h1 : i < 6084) : Wa (wH σ u) 1 401 i x f = f (wH (su σ 401 i x) u) := by
  unfold Wa
  rw [wM_isNew h0 h1]
theorem RM_ranks {σ : St} {u : Bool × Nat × Nat × Int} {i : Int} {f : Int → Prop} (h0 : 0 ≤ i) (h1 : i < 78) : Ra (wH σ u) 0 402 i f = f (σ 402 i) := by
  unfold Ra
  rw [rM_ranks h0 h1]
theorem WM_ranks {σ : St} {u : Bool × Nat × Nat × Int} {i x : Int} {f : HS → Prop} (h0 : 0 ≤ i) (h1 : i < 78) : Wa (wH σ u) 0 402 i x f = f (wH (su σ 402 i x) u) := by
  unfold Wa
  rw [wM_ranks h0 h1]
theorem RM_reach {σ : St} {u : Bool × Nat × Nat × Int} {i : Int} {f : Int → Prop} (h0 : 0 ≤ i) (h1 : i < 6084) : Ra (wH σ u) 1 403 i f = f (σ 403 i) := by
  unfold Ra
  rw [rM_reach h0 h1]
theorem WM_reach {σ : St} {u : Bool × Nat × Nat × Int} {i x : Int} {f : HS → Prop} (h0 : 0 ≤ i) (h1 : i < 6084) : Wa (wH σ u) 1 403 i x f = f (wH (su σ 403 i x) u) := by
  unfold Wa
  rw [wM_reach h0 h1]
theorem oM {σ : St} {u : Bool × Nat × Nat × Int} : isObj (wH σ u) 12 (vR 373) = true := by
  show (match hget (wH σ u) 373 with | some (.inr (.inr (c2, _))) => c2 == 12 | _ => false) = true
  rw [hget_w (by decide), show shp 373 = (2, 12, 0, _) from rfl, wcE_O]
  rfl
