/-! A ROW OF OPERATIONS IS A QUERY'S ROW -/
theorem fm_len {x : List Int} (h : q_fm x) : 1 ≤ x.length := by
  rcases h with ⟨w, rfl, -⟩ | ⟨w, n, rfl, -⟩ | ⟨w, v, rfl, -⟩ | ⟨ws, rfl, -⟩ | rfl | rfl | rfl <;> simp
/-- an operation at place k of a row -/
theorem fm_at {r : Nat → Int} {x : List Int} {k : Nat} (h : q_fm x) (hr : ∀ i, i < x.length → r (k + i) = x.getD i 0) : q_ol r k = x.length ∧ q_dt r k = q_dx x ∧ q_op r k ∧ (r k = 4 → q_nd x = 1) ∧ (5 ≤ r k → q_nd x = 2) := by
  have r0 : r k = x.getD 0 0 := hr 0 (fm_len h)
  rcases h with ⟨w, rfl, hw⟩ | ⟨w, n, rfl, hw, hn⟩ | ⟨w, v, rfl, hw, hv⟩ | ⟨ws, rfl, h1, h2, h3⟩ | rfl | rfl | rfl
  · have e0 : r k = 0 := r0
    have e1 : r (k + 1) = w := hr 1 (by simp)
    refine ⟨by unfold q_ol; rw [e0]; rfl, by unfold q_dt; rw [e0]; rfl, ⟨by omega, fun _ => by rw [e1]; exact hw, fun q => by omega, fun q => by omega, fun q => by omega⟩, fun q => by omega, fun q => by omega⟩
  · have e0 : r k = 1 := r0
    have e1 : r (k + 1) = w := hr 1 (by simp)
    have e2 : r (k + 2) = n := hr 2 (by simp)
    refine ⟨by unfold q_ol; rw [e0]; rfl, by unfold q_dt; rw [e0]; rfl, ⟨by omega, fun _ => by rw [e1]; exact hw, fun _ => by rw [e2]; exact hn, fun q => by omega, fun q => by omega⟩, fun q => by omega, fun q => by omega⟩
  · have e0 : r k = 2 := r0
    have e1 : r (k + 1) = w := hr 1 (by simp)
    have e2 : r (k + 2) = v := hr 2 (by simp)
    refine ⟨by unfold q_ol; rw [e0]; rfl, by unfold q_dt; rw [e0]; rfl, ⟨by omega, fun _ => by rw [e1]; exact hw, fun q => by omega, fun _ => by rw [e2]; exact hv, fun q => by omega⟩, fun q => by omega, fun q => by omega⟩
  · have e0 : r k = 3 := r0
    have e1 : r (k + 1) = (ws.length : Int) := hr 1 (by simp)
    refine ⟨?_, by unfold q_dt; rw [e0]; rfl, ⟨by omega, fun q => by omega, fun q => by omega, fun q => by omega, fun _ => ⟨by omega, by omega, fun i hi => ?_⟩⟩, fun q => by omega, fun q => by omega⟩
    · unfold q_ol
      rw [if_neg (by omega), if_neg (by omega), if_pos e0, e1]
      simp; omega
    · have hi2 : i < ws.length := by omega
      have e2 : r (k + 2 + i) = ws.getD i 0 := by
        rw [show k + 2 + i = k + (i + 2) by omega, hr (i + 2) (by simp; omega)]
        simp [List.getD_eq_getElem?_getD]
      rw [e2]
      have : ws.getD i 0 = ws[i] := by simp [List.getD_eq_getElem?_getD, hi2]
      rw [this]
      exact h3 _ (List.getElem_mem hi2)
  · have e0 : r k = 4 := r0
    exact ⟨by unfold q_ol; rw [e0]; rfl, by unfold q_dt; rw [e0]; rfl, ⟨by omega, fun q => by omega, fun q => by omega, fun q => by omega, fun q => by omega⟩, fun q => rfl, fun q => by omega⟩
  · have e0 : r k = 5 := r0
    exact ⟨by unfold q_ol; rw [e0]; rfl, by unfold q_dt; rw [e0]; rfl, ⟨by omega, fun q => by omega, fun q => by omega, fun q => by omega, fun q => by omega⟩, fun q => by omega, fun q => rfl⟩
  · have e0 : r k = 6 := r0
    exact ⟨by unfold q_ol; rw [e0]; rfl, by unfold q_dt; rw [e0]; rfl, ⟨by omega, fun q => by omega, fun q => by omega, fun q => by omega, fun q => by omega⟩, fun q => by omega, fun q => rfl⟩
theorem q_rows {r : Nat → Int} : ∀ (b a : qL) (t : Int), (∀ i, i < (a ++ b).flatten.length → r i = (a ++ b).flatten.getD i 0) → q_pos r a.length = a.flatten.length → q_ht r a.length = t → 0 ≤ t → q_wf t b 1 →
    q_pos r (a ++ b).length = (a ++ b).flatten.length ∧ q_ht r (a ++ b).length = 1 ∧ ∀ j, a.length ≤ j → j < (a ++ b).length → q_op r (q_pos r j) ∧ (0 ≤ q_ht r j ∧ q_ht r j ≤ 12) ∧ (r (q_pos r j) = 4 → 1 ≤ q_ht r j) ∧ (5 ≤ r (q_pos r j) → 2 ≤ q_ht r j)
  | [], a, t, hr, hp, ht, h0, hw => by
    have e : t = 1 := hw
    rw [List.append_nil]
    exact ⟨hp, by rw [ht, e], fun j h1 h2 => by omega⟩
  | x :: b, a, t, hr, hp, ht, h0, hw => by
    obtain ⟨⟨f1, f2, f3⟩, hw⟩ := hw
    have ex : a ++ x :: b = (a ++ [x]) ++ b := by simp
    have hx : ∀ i, i < x.length → r (a.flatten.length + i) = x.getD i 0 := fun i hi => by
      have el : (a ++ x :: b).flatten = a.flatten ++ (x ++ b.flatten) := by simp
      rw [hr _ (by rw [el, List.length_append, List.length_append]; omega), el]
      generalize a.flatten = A
      rw [List.getD_eq_getElem?_getD, List.getElem?_append_right (by omega), List.getElem?_append_left (by omega), List.getD_eq_getElem?_getD, show A.length + i - A.length = i by omega]
    obtain ⟨g1, g2, g3, g4, g5⟩ := fm_at f1 hx
    have p1 : q_pos r (a ++ [x]).length = (a ++ [x]).flatten.length := by
      rw [show (a ++ [x]).length = a.length + 1 from by simp]
      show q_pos r a.length + q_ol r (q_pos r a.length) = _
      rw [hp, g1, fl_snoc, List.length_append]
    have t1 : q_ht r (a ++ [x]).length = t + q_dx x := by
      rw [show (a ++ [x]).length = a.length + 1 from by simp]
      show q_ht r a.length + q_dt r (q_pos r a.length) = _
      rw [hp, ht, g2]
    have t0 : 0 ≤ t + q_dx x := by
      unfold q_nd at f2
      unfold q_dx
      split
      · omega
      · rename_i c
        rw [if_neg c] at f2
        split
        · omega
        · rename_i c2
          rw [if_neg c2] at f2; omega
    have ih := q_rows b (a ++ [x]) (t + q_dx x) (by rw [← ex]; exact hr) p1 t1 t0 hw
    rw [← ex] at ih
    refine ⟨ih.1, ih.2.1, fun j h1 h2 => ?_⟩
    by_cases c : j = a.length
    · subst c
      rw [hp, ht]
      exact ⟨g3, ⟨h0, f3⟩, fun q => by have := g4 q; omega, fun q => by have := g5 q; omega⟩
    · exact ih.2.2 j (by rw [List.length_append]; show a.length + 1 ≤ j; omega) h2
theorem q_ok_all {r : Nat → Int} {o : qL} (hr : ∀ i, i < o.flatten.length → r i = o.flatten.getD i 0) (hz : q_szL o ≤ 97) (hw : q_wf 0 o 1) : q_ok r (o.flatten.length : Int) o.length := by
  have h1 := q_rows o [] 0 hr rfl rfl (by omega) hw
  have h2 := fl_len o
  exact ⟨by rw [show o.length = ([] ++ o).length from rfl, h1.1]; rfl, by omega, h1.2.1, fun j hj => h1.2.2 j (Nat.zero_le _) hj⟩
