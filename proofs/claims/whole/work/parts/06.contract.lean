theorem enL_len (b : Nat) : ∀ av : List AV, (lg_sl (av.map (cv b))).length = (enL av).length
  | [] => rfl
  | x :: av => by
    have ih := enL_len b av
    by_cases hc : cat x = 2
    · have hc' : (cv b x).category = 2 := by rw [cv_cat]; exact hc
      simp [lg_sl, enL, hc, hc'] at ih ⊢
      omega
    · have hc' : ¬ (cv b x).category = 2 := by rw [cv_cat]; exact hc
      simp [lg_sl, enL, hc, hc'] at ih ⊢
      omega
theorem enL_mem : ∀ (av : List AV) (i : Nat) (v : AV), lg (enL av) i = some v → v ∈ av
  | [], i, v, h => by simp [enL, lg] at h
  | x :: av, i, v, h => by
    by_cases hc : cat x = 2
    · rw [enL, if_pos hc] at h
      match i, h with
      | 0, h => cases h; exact List.mem_cons_self
      | 1, h => cases h
      | i + 2, h => exact List.mem_cons_of_mem _ (enL_mem av i v (by simpa [lg] using h))
    · rw [enL, if_neg hc] at h
      match i, h with
      | 0, h => cases h; exact List.mem_cons_self
      | i + 1, h => exact List.mem_cons_of_mem _ (enL_mem av i v (by simpa [lg] using h))
theorem Lc_entry (b n : Nat) (av : List AV) {ls : Array Slot} (h : lv_has ls n (lv_args 0 (av.map (cv b)))) : Lc b n ls (lo0 av n) := by
  refine ⟨h.1, h.2.1, fun q hq => h.2.2 q ?_⟩
  obtain ⟨v, h1, h2⟩ := lvs_mem.mp hq
  unfold lo0 at h1
  rw [lg_app] at h1
  have := enL_args b av 0 q.1 v h1
  rw [Nat.zero_add, ← h2] at this
  exact this
theorem Ct.of {y : MI} {d mc ms : Nat} {av : List AV} {h : AH} {Q : Option AV → AH → Prop} (hy : plainName y.1.cls = true) (hlen : (enL av).length ≤ y.2.2.1) (hw : wp y d mc ms Q 0 (lo0 av y.2.2.1) [] h) : Ct d mc ms y av h Q := by
  intro l E
  refine Met.ofW (cc := y.2.1) (maxL := y.2.2.1) (ret := y.2.2.2) hy rfl ?_
  intro p e s m args below meth c s₁ B hml hv
  obtain ⟨rfl, hav, hWd, hG⟩ := hv
  have hts := atoms_spec (ws := wsM y) B.pre
  have hown : s.vm.findClass y.1.cls = some m.cls := findClass_of_methodNamed B.named
  have hlocks := B.notSynchronized
  have hx := B.exec
  have hb := B.bytes
  have hr := B.returns
  have hin : meth.name = y.1.name := (name_of_methodNamed B.named B.method).1
  have hl := lv_entry (av.map (cv E.1)) (n := y.2.2.1) (by rw [enL_len]; exact hlen)
  rw [lg_entry_eq]
  refine hw E p l e _ s m _ below meth c _ ⟨hx, hb, hml, hown, fun w h => hts w (List.mem_cons_of_mem _ h), hG, fun e => hin.trans e⟩ ?_ (Nat.le_refl _) (Nat.le_refl _) (by rw [hWd.1]; omega) s.heap [] _ 0 0 (Nat.le_of_eq (Nat.zero_add _)) (Nat.le_of_eq (Nat.zero_add _)) hWd va_S.rf (Lc_entry _ _ _ hl) (fun v h => by cases h) (fun i v h => hav v (enL_mem av i v (by rw [lo0, lg_app] at h; exact h)))
  intro v h' pc ls H locs cells slots hi hok hQ hWd' hS hc hs
  refine W.widen (k := mc) (n := ms) hc hs ?_
  have hq : ∀ t : State, t.heap = H → s.WarmedH t.vm → QcM E Q (List.map (cv E.1) av).toArray s (.returned (v.map (cv E.1))) t := fun t ht _ => ⟨v, h', rfl, hok, hQ, by rw [ht]; exact hWd', hS.F ht⟩
  rcases hi with ⟨x, rfl, e1, e2⟩ | ⟨x, rfl, e0, e1, e2⟩ | ⟨x, rfl, e1, e2⟩ | ⟨x, t, rfl, e1, e2⟩ | ⟨rfl, e1, e2⟩
  · exact W.iret (v := Int32.ofInt x) hx hb (hr.trans e1) hq hS.2.2 e2
  · exact W.zret (v := Int32.ofInt x) (ty := .boolean) hx hb (hr.trans e1) (by rcases e0 with rfl | rfl <;> decide +kernel) hq hS.2.2 e2
  · exact W.lret (v := x) hx hb (hr.trans e1) hq hS.2.2 e2
  · exact W.aret (v := .ref (E.1 + x)) (rt := .array t) hx hb (hr.trans e1) (Or.inr ⟨t, rfl⟩) (Or.inr ⟨_, rfl⟩) hq hS.2.2 e2
  · exact W.vret hx hb (hr.trans e1) hq hS.2.2 e2
