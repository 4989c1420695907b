/-! A ROW OF OPERATIONS IS A QUERY'S ROW -/
theorem fm_len {x : List Int} (h : q_fm x) : 1 ≤ x.length := by
  rcases h with ⟨w, rfl, -⟩ | ⟨w, n, rfl, -⟩ | ⟨w, v, rfl, -⟩ | ⟨ws, rfl, -⟩ | rfl | rfl | rfl <;> simp
/-- an operation at place k of a row -/
theorem fm_at {r : Nat → Int} {x : List Int} {k : Nat} (h : q_fm x) (hr : ∀ i, i < x.length → r (k + i) = x.getD i 0) : q_ol r k = x.length ∧ q_dt r k = q_dx x ∧ q_op r k ∧ (r k = 4 → q_nd x = 1) ∧ (5 ≤ r k → q_nd x = 2) := by
  have r0 : r k = x.getD 0 0 := hr 0 (fm_len h)
  rcases h with ⟨w, rfl, hw⟩ | ⟨w, n, rfl, hw, hn⟩ | ⟨w, v, rfl, hw, hv⟩ | ⟨ws, rfl, h1, h2, h3⟩ | rfl | rfl | rfl
  · have e0 : r k = 0 := r0
    have e1 : r (k + 1) = w := hr 1 (by simp)
    refine ⟨by unfold q_ol; rw [e0]; rfl, by unfold q_dt; rw [e0]; rfl, ⟨by omega, fun _ => by rw [e1]; exact hw, fun q => by omega, fun q => by omega, fun q => by omega⟩, fun q => by omega, fun q => by omega⟩
  · have e0 : r k = 1 := r0
    have e1 : r (k + 1) = w := hr 1 (by simp)
    have e2 : r (k + 2) = n := hr 2 (by simp)
    refine ⟨by unfold q_ol; rw [e0]; rfl, by unfold q_dt; rw [e0]; rfl, ⟨by omega, fun _ => by rw [e1]; exact hw, fun _ => by rw [e2]; exact hn, fun q => by omega, fun q => by omega⟩, fun q => by omega, fun q => by omega⟩
  · have e0 : r k = 2 := r0
    have e1 : r (k + 1) = w := hr 1 (by simp)
    have e2 : r (k + 2) = v := hr 2 (by simp)
    refine ⟨by unfold q_ol; rw [e0]; rfl, by unfold q_dt; rw [e0]; rfl, ⟨by omega, fun _ => by rw [e1]; exact hw, fun q => by omega, fun _ => by rw [e2]; exact hv, fun q => by omega⟩, fun q => by omega, fun q => by omega⟩
  · have e0 : r k = 3 := r0
    have e1 : r (k + 1) = (ws.length : Int) := hr 1 (by simp)
    refine ⟨?_, by unfold q_dt; rw [e0]; rfl, ⟨by omega, fun q => by omega, fun q => by omega, fun q => by omega, fun _ => ⟨by omega, by omega, fun i hi => ?_⟩⟩, fun q => by omega, fun q => by omega⟩
    · unfold q_ol
      rw [if_neg (by omega), if_neg (by omega), if_pos e0, e1]
      simp; omega
    · have hi2 : i < ws.length := by omega
      have e2 : r (k + 2 + i) = ws.getD i 0 := by
        rw [show k + 2 + i = k + (i + 2) by omega, hr (i + 2) (by simp; omega)]
        simp [List.getD_eq_getElem?_getD]
      rw [e2]
      have : ws.getD i 0 = ws[i] := by simp [List.getD_eq_getElem?_getD, hi2]
      rw [this]
      exact h3 _ (List.getElem_mem hi2)
  · have e0 : r k = 4 := r0
    exact ⟨by unfold q_ol; rw [e0]; rfl, by unfold q_dt; rw [e0]; rfl, ⟨by omega, fun q => by omega, fun q => by omega, fun q => by omega, fun q => by omega⟩, fun q => rfl, fun q => by omega⟩
  · have e0 : r k = 5 := r0
    exact ⟨by unfold q_ol; rw [e0]; rfl, by unfold q_dt; rw [e0]; rfl, ⟨by omega, fun q => by omega, fun q => by omega, fun q => by omega, fun q => by omega⟩, fun q => by omega, fun q => rfl⟩
  · have e0 : r k = 6 := r0
    exact ⟨by unfold q_ol; rw [e0]; rfl, by unfold q_dt; rw [e0]; rfl, ⟨by omega, fun q => by omega, fun q => by omega, fun q => by omega, fun q => by omega⟩, fun q => by omega, fun q => rfl⟩
