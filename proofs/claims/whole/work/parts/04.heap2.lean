theorem lg_len : ∀ (lo : List (Option AV)) (i : Nat) (v : AV), lg lo i = some v → i < lo.length
  | [], i, v, h => by simp [lg] at h
  | x :: l, 0, v, h => by simp
  | x :: l, n + 1, v, h => by
    have := lg_len l n v (by simpa [lg] using h)
    simp; omega
theorem lvs_mem {b : Nat} {lo : List (Option AV)} {q : Nat × Value} : q ∈ lvs b lo ↔ ∃ v, lg lo q.1 = some v ∧ q.2 = cv b v := by
  unfold lvs
  rw [List.mem_filterMap]
  constructor
  · rintro ⟨i, -, h⟩
    cases hg : lg lo i with
    | none => rw [hg] at h; cases h
    | some v => rw [hg] at h; cases h; exact ⟨v, hg, rfl⟩
  · rintro ⟨v, h1, h2⟩
    refine ⟨q.1, List.mem_range.mpr (lg_len _ _ _ h1), ?_⟩
    rw [h1]
    show some (q.1, cv b v) = some q
    rw [← h2]
theorem Lc.get {b n : Nat} {ls : Array Slot} {lo : List (Option AV)} (h : Lc b n ls lo) {i : Nat} {v : AV} (hi : lg lo i = some v) : ls[i]? = some (.val (cv b v)) := h.2.2 (i, cv b v) (lvs_mem.mpr ⟨v, hi, rfl⟩)
theorem lg_lst : ∀ (lo : List (Option AV)) (i j : Nat) (v : Option AV) (w : AV), lg (lst lo i v) j = some w → (j = i ∧ v = some w) ∨ (j ≠ i ∧ lg lo j = some w)
  | [], i, j, v, w, h => by simp [lst, lg] at h
  | x :: l, 0, 0, v, w, h => by simp [lst, lg] at h; exact Or.inl ⟨rfl, h⟩
  | x :: l, 0, j + 1, v, w, h => by simp [lst, lg] at h; exact Or.inr ⟨by omega, by simpa [lg] using h⟩
  | x :: l, i + 1, 0, v, w, h => by simp [lst, lg] at h; exact Or.inr ⟨by omega, by simpa [lg] using h⟩
  | x :: l, i + 1, j + 1, v, w, h => by
    simp [lst, lg] at h
    rcases lg_lst l i j v w h with ⟨e, h1⟩ | ⟨e, h1⟩
    · exact Or.inl ⟨by omega, h1⟩
    · exact Or.inr ⟨by omega, by simpa [lg] using h1⟩
/-- no long stands just ahead of a place -/
def noL (lo : List (Option AV)) : Nat → Bool
  | 0 => true
  | i + 1 => match lg lo i with
    | some v => cat v == 1
    | none => true
theorem cv_cat (b : Nat) (v : AV) : (cv b v).category = cat v := by
  rcases v with x | x | _ | x <;> rfl
theorem Lc.of1 {b n : Nat} {ls : Array Slot} {lo : List (Option AV)} {i : Nat} {v : AV} (hno : noL lo i = true) (h : lv_has ls n ((i, cv b v) :: (lvs b lo).filter (fun q => !(q.1 == i) && !(q.1 + 1 == i && q.2.category == 2)))) : Lc b n ls (lst lo i (some v)) := by
  refine ⟨h.1, h.2.1, fun q hq => h.2.2 q ?_⟩
  obtain ⟨w, h1, h2⟩ := lvs_mem.mp hq
  rcases lg_lst _ _ _ _ _ h1 with ⟨e, h3⟩ | ⟨e, h3⟩
  · cases h3
    refine List.mem_cons.mpr (Or.inl ?_)
    rw [← e, ← h2]
  · refine List.mem_cons.mpr (Or.inr (List.mem_filter.mpr ⟨lvs_mem.mpr ⟨w, h3, h2⟩, ?_⟩))
    have e1 : (q.1 == i) = false := by simpa using e
    rw [e1]
    by_cases e2 : q.1 + 1 = i
    · subst e2
      have : cat w = 1 := by simpa [noL, h3] using hno
      rw [h2, cv_cat, this]
      simp
    · have : (q.1 + 1 == i) = false := by simpa using e2
      rw [this]
      rfl
theorem Lc.of2 {b n : Nat} {ls : Array Slot} {lo : List (Option AV)} {i : Nat} {v : AV} (hno : noL lo i = true) (h : lv_has ls n ((i, cv b v) :: (lvs b lo).filter (fun q => !(q.1 == i) && (!(q.1 == i + 1) && !(q.1 + 1 == i && q.2.category == 2))))) : Lc b n ls (lst (lst lo (i + 1) none) i (some v)) := by
  refine ⟨h.1, h.2.1, fun q hq => h.2.2 q ?_⟩
  obtain ⟨w, h1, h2⟩ := lvs_mem.mp hq
  rcases lg_lst _ _ _ _ _ h1 with ⟨e, h3⟩ | ⟨e, h3⟩
  · cases h3
    refine List.mem_cons.mpr (Or.inl ?_)
    rw [← e, ← h2]
  · rcases lg_lst _ _ _ _ _ h3 with ⟨e', h3'⟩ | ⟨e', h3'⟩
    · cases h3'
    · refine List.mem_cons.mpr (Or.inr (List.mem_filter.mpr ⟨lvs_mem.mpr ⟨w, h3', h2⟩, ?_⟩))
      have e1 : (q.1 == i) = false := by simpa using e
      have e1' : (q.1 == i + 1) = false := by simpa using e'
      rw [e1, e1']
      by_cases e2 : q.1 + 1 = i
      · subst e2
        have : cat w = 1 := by simpa [noL, h3'] using hno
        rw [h2, cv_cat, this]
        simp
      · have : (q.1 + 1 == i) = false := by simpa using e2
        rw [this]
        rfl
theorem Wd.upd {D : va_G} {cy : Nat → ClassId} {b a : Nat} {h h' : AH} {H H' : Heap} (w : Wd D cy b h H) (hn : nH h' = nH h) (hr : ∀ a k, inr (iH h' a k)) (hz : H'.size = H.size) (he : va_at D vwCl (b + a, cE cy b h' a) H') (ho : ∀ q, q ≠ b + a → H'[q]? = H[q]?) (hc : ∀ x, x ≠ a → cE cy b h' x = cE cy b h x) : Wd D cy b h' H' := by
  refine ⟨by rw [hz, hn]; exact w.1, fun x hx => ?_, hr⟩
  by_cases e : x = a
  · subst e; exact he
  · rw [hc x e]
    exact (w.2.1 x (by rw [← hn]; exact hx)).kept (ho _ (by intro q; exact e (by simpa using q)))
theorem Wd.push {D : va_G} {cy : Nat → ClassId} {b : Nat} {h h' : AH} {H H' : Heap} (w : Wd D cy b h H) (hn : nH h' = nH h + 1) (hr : ∀ a k, inr (iH h' a k)) (hz : H'.size = H.size + 1) (he : va_at D vwCl (b + nH h, cE cy b h' (nH h)) H') (ho : ∀ q, q < H.size → H'[q]? = H[q]?) (hc : ∀ x, x < nH h → cE cy b h' x = cE cy b h x) : Wd D cy b h' H' := by
  refine ⟨by rw [hz, hn, w.1]; omega, fun x hx => ?_, hr⟩
  by_cases e : x = nH h
  · subst e; exact he
  · have hx' : x < nH h := by omega
    rw [hc x hx']
    exact (w.2.1 x hx').kept (ho _ (by rw [w.1]; show b + x < _; omega))
theorem cE_sI {cy : Nat → ClassId} {b : Nat} {h : AH} {a k : Nat} {v : Int} {x : Nat} (e : x ≠ a) : cE cy b (sI h a k v) x = cE cy b h x := by
  have h1 : iH (sI h a k v) x = iH h x := by funext y; simp [iH, sI, u2, e]
  have h2 : ∀ t, ovs b (sI h a k v) x t = ovs b h x t := fun t => by
    unfold ovs; congr 1; funext j; unfold ov; rw [h1]; rfl
  unfold cE
  rw [h1, h2]
  rfl
theorem cE_sW {cy : Nat → ClassId} {b : Nat} {h : AH} {a : Nat} {g : Nat → Int} {x : Nat} (e : x ≠ a) : cE cy b (sW h a g) x = cE cy b h x := by
  have h1 : iH (sW h a g) x = iH h x := by funext y; simp [iH, sW, r2, e]
  have h2 : ∀ t, ovs b (sW h a g) x t = ovs b h x t := fun t => by
    unfold ovs; congr 1; funext j; unfold ov; rw [h1]; rfl
  unfold cE
  rw [h1, h2]
  rfl
theorem cE_sJ {cy : Nat → ClassId} {b : Nat} {h : AH} {a k : Nat} {v : Int64} {x : Nat} (e : x ≠ a) : cE cy b (sJ h a k v) x = cE cy b h x := by
  have h1 : jH (sJ h a k v) x = jH h x := by funext y; simp [jH, sJ, u2, e]
  unfold cE
  rw [h1]
  rfl
theorem cE_sR {cy : Nat → ClassId} {b : Nat} {h : AH} {a k : Nat} {v : Option Nat} {x : Nat} (e : x ≠ a) : cE cy b (sR h a k v) x = cE cy b h x := by
  have h1 : rH (sR h a k v) x = rH h x := by funext y; simp [rH, sR, u2, e]
  have h2 : ∀ t, ovs b (sR h a k v) x t = ovs b h x t := fun t => by
    unfold ovs; congr 1; funext j; unfold ov; rw [h1]; rfl
  unfold cE
  rw [h1, h2]
  rfl
theorem cE_nw {cy : Nat → ClassId} {b : Nat} {h : AH} {t n : Nat} {x : Nat} (e : x < nH h) : cE cy b (nw h t n) x = cE cy b h x := by
  have e' : x ≠ h.1 := Nat.ne_of_lt e
  have h0 : kH (nw h t n) x = kH h x := by simp [kH, nw, e']
  have h1 : rH (nw h t n) x = rH h x := by funext y; simp [rH, nw, r2, e']
  have h3 : iH (nw h t n) x = iH h x := by funext y; simp [iH, nw, r2, e']
  have h4 : jH (nw h t n) x = jH h x := by funext y; simp [jH, nw, r2, e']
  have h2 : ∀ t', ovs b (nw h t n) x t' = ovs b h x t' := fun t' => by
    unfold ovs; congr 1; funext j; unfold ov; rw [h1, h3]
  unfold cE
  rw [h0, h1, h2, h3, h4]
