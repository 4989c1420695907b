section FROWS
variable {y : MI} {d rc rs : Nat} {Q : Option AV → AH → Prop} {pc q : Nat} {lo : List (Option AV)} {st st' : List AV} {h : AH}
theorem w_goto {off : Int} {t : Nat} (hd : decode y.2.1 pc = .ok (.goto off, 3)) (ht : (pc : Int) + off = (t : Int)) (k : wp y d rc rs Q t lo st h) : wp y d rc rs Q pc lo st h :=
  wp_pure k (fun b p l e R s m args below meth c Z H locs ls cells slots hx hb hL hst kk => lv_goto hx hb hd ht kk) (fun h1 _ => h1)
theorem w_br {P : Prop} {t n : Nat} {w : List AV} (hrow : ∀ (b : Nat) (p : Program) (l : Launch) (e : Env) (R : Room) (s : State) (m : MethodId) (args : Array Value) (below : List Frame) (meth : Method) (c : Code) (Z : State → Prop) (H : Heap) (locs : List Loc) (ls : Array Slot) (cells slots : Nat) (rest : List Value), p.tables.exec = Jvm.exec → c.code = y.2.1 → (∀ v ∈ w, okV v) → (P → W p l e R s m args below meth c H locs cells slots Z (F0 m t ls rest)) → (¬ P → W p l e R s m args below meth c H locs cells slots Z (F0 m n ls rest)) → W p l e R s m args below meth c H locs cells slots Z (F0 m pc ls (w.map (cv b) ++ rest)))
    (kt : P → wp y d rc rs Q t lo st h) (kf : ¬ P → wp y d rc rs Q n lo st h) : wp y d rc rs Q pc lo (w ++ st) h := by
  intro E p l e R s m args below meth c Z hC hR hd1 hd2 hb H locs ls cells slots hc hs hW hS hl hst hlo
  rw [List.map_append]
  have h1 : ∀ v ∈ w, okV v := fun v hv => hst v (List.mem_append_left _ hv)
  have h2 : ∀ v ∈ st, okV v := fun v hv => hst v (List.mem_append_right _ hv)
  exact hrow E.1 p l e R s m args below meth c Z H locs ls cells slots _ hC.1 hC.2.1 h1 (fun hp => kt hp E p l e R s m args below meth c Z hC hR hd1 hd2 hb H locs ls cells slots hc hs hW hS hl h2 hlo) (fun hp => kf hp E p l e R s m args below meth c Z hC hR hd1 hd2 hb H locs ls cells slots hc hs hW hS hl h2 hlo)
/-- the condition of a comparison: 0 eq, 1 ne, 2 lt, 3 ge, 4 gt, 5 le -/
def cmp (o : Nat) (x z : Int) : Prop := match o with
  | 0 => x = z
  | 1 => x ≠ z
  | 2 => x < z
  | 3 => z ≤ x
  | 4 => z < x
  | _ => x ≤ z
def ifI (o : Nat) (off : Int) : Instr := match o with
  | 0 => .ifCond .eq off
  | 1 => .ifCond .ne off
  | 2 => .ifCond .lt off
  | 3 => .ifCond .ge off
  | 4 => .ifCond .gt off
  | _ => .ifCond .le off
def icI (o : Nat) (off : Int) : Instr := match o with
  | 0 => .if_icmp .eq off
  | 1 => .if_icmp .ne off
  | 2 => .if_icmp .lt off
  | 3 => .if_icmp .ge off
  | 4 => .if_icmp .gt off
  | _ => .if_icmp .le off
theorem w_if {o t : Nat} {off x : Int} (ho : o < 6) (hd : decode y.2.1 pc = .ok (ifI o off, 3)) (ht : (pc : Int) + off = (t : Int)) (kt : cmp o x 0 → wp y d rc rs Q t lo st h) (kf : ¬ cmp o x 0 → wp y d rc rs Q (pc + 3) lo st h) : wp y d rc rs Q pc lo (vi x :: st) h := by
  refine w_br (w := [vi x]) (P := cmp o x 0) ?_ kt kf
  intro b p l e R s m args below meth c Z H locs ls cells slots rest hx hb hok k1 k2
  have hi : inr x := (ok_cons.mp hok).1
  rcases (show o = 0 ∨ o = 1 ∨ o = 2 ∨ o = 3 ∨ o = 4 ∨ o = 5 by omega) with rfl | rfl | rfl | rfl | rfl | rfl
  · exact lv_if_eq hx hb hd ht (fun e => k1 ((oi_eq hi in_0).mp e)) (fun e => k2 (fun e' => e ((oi_eq hi in_0).mpr e')))
  · exact lv_if_ne hx hb hd ht (fun e => k1 (fun e' => e ((oi_eq hi in_0).mpr e'))) (fun e => k2 (fun e' => e' ((oi_eq hi in_0).mp e)))
  · exact lv_if_lt hx hb hd ht (fun e => k1 ((oi_lt hi in_0).mp e)) (fun e => k2 (fun e' => e ((oi_lt hi in_0).mpr e')))
  · exact lv_if_ge hx hb hd ht (fun e => k1 ((oi_le in_0 hi).mp e)) (fun e => k2 (fun e' => e ((oi_le in_0 hi).mpr e')))
  · exact lv_if_gt hx hb hd ht (fun e => k1 ((oi_lt in_0 hi).mp e)) (fun e => k2 (fun e' => e ((oi_lt in_0 hi).mpr e')))
  · exact lv_if_le hx hb hd ht (fun e => k1 ((oi_le hi in_0).mp e)) (fun e => k2 (fun e' => e ((oi_le hi in_0).mpr e')))
theorem w_ic {o t : Nat} {off x z : Int} (ho : o < 6) (hd : decode y.2.1 pc = .ok (icI o off, 3)) (ht : (pc : Int) + off = (t : Int)) (kt : cmp o x z → wp y d rc rs Q t lo st h) (kf : ¬ cmp o x z → wp y d rc rs Q (pc + 3) lo st h) : wp y d rc rs Q pc lo (vi z :: vi x :: st) h := by
  refine w_br (w := [vi z, vi x]) (P := cmp o x z) ?_ kt kf
  intro b p l e R s m args below meth c Z H locs ls cells slots rest hx hb hok k1 k2
  have hz : inr z := (ok_cons.mp hok).1
  have hi : inr x := (ok_cons.mp (ok_cons.mp hok).2).1
  rcases (show o = 0 ∨ o = 1 ∨ o = 2 ∨ o = 3 ∨ o = 4 ∨ o = 5 by omega) with rfl | rfl | rfl | rfl | rfl | rfl
  · exact lv_icmp_eq hx hb hd ht (fun e => k1 ((oi_eq hi hz).mp e)) (fun e => k2 (fun e' => e ((oi_eq hi hz).mpr e')))
  · exact lv_icmp_ne hx hb hd ht (fun e => k1 (fun e' => e ((oi_eq hi hz).mpr e'))) (fun e => k2 (fun e' => e' ((oi_eq hi hz).mp e)))
  · exact lv_icmp_lt hx hb hd ht (fun e => k1 ((oi_lt hi hz).mp e)) (fun e => k2 (fun e' => e ((oi_lt hi hz).mpr e')))
  · exact lv_icmp_ge hx hb hd ht (fun e => k1 ((oi_le hz hi).mp e)) (fun e => k2 (fun e' => e ((oi_le hz hi).mpr e')))
  · exact lv_icmp_gt hx hb hd ht (fun e => k1 ((oi_lt hz hi).mp e)) (fun e => k2 (fun e' => e ((oi_lt hz hi).mpr e')))
  · exact lv_icmp_le hx hb hd ht (fun e => k1 ((oi_le hi hz).mp e)) (fun e => k2 (fun e' => e ((oi_le hi hz).mpr e')))
/-- a switch: keys and places in order, else the last -/
def swK (x : Int) (K : Nat → Prop) (t0 : Nat) : List (Int × Nat) → Prop
  | [] => K t0
  | (k, t) :: r => (x = k → K t) ∧ (x ≠ k → swK x K t0 r)
def chkT (pc : Nat) : Int → List Int → List (Int × Nat) → Bool
  | _, [], [] => true
  | lo, o :: os, (k, t) :: r => decide (k = lo) && decide ((pc : Int) + o = (t : Int)) && chkT pc (lo + 1) os r
  | _, _, _ => false
def chkL (pc : Nat) : List (Int × Int) → List (Int × Nat) → Bool
  | [], [] => true
  | (a, o) :: os, (k, t) :: r => decide (k = a) && decide ((pc : Int) + o = (t : Int)) && chkL pc os r
  | _, _ => false
theorem swT {x : Int} {K : Nat → Prop} {t0 pc : Nat} : ∀ {os : List Int} {lo : Int} {r : List (Int × Nat)}, chkT pc lo os r = true → swK x K t0 r → (x < lo ∨ lo + os.length ≤ x → K t0) ∧ ∀ (i : Nat) (o : Int), os[i]? = some o → x = lo + i → ∃ t : Nat, (pc : Int) + o = (t : Int) ∧ K t
  | [], lo, [], h, hk => ⟨fun _ => hk, fun i o ho => by simp at ho⟩
  | [], lo, _ :: _, h, hk => by simp [chkT] at h
  | _ :: _, lo, [], h, hk => by simp [chkT] at h
  | o :: os, lo, (k, t) :: r, h, hk => by
    simp only [chkT, Bool.and_eq_true, decide_eq_true_eq] at h
    obtain ⟨⟨rfl, h2⟩, h3⟩ := h
    obtain ⟨k1, k2⟩ := hk
    by_cases e : x = k
    · subst e
      refine ⟨fun hh => by simp at hh; omega, fun i o' ho hx => ?_⟩
      have : i = 0 := by omega
      subst this
      simp at ho
      subst ho
      exact ⟨t, h2, k1 rfl⟩
    · obtain ⟨r1, r2⟩ := swT h3 (k2 e)
      refine ⟨fun hh => r1 (by simp at hh; omega), fun i o' ho hx => ?_⟩
      cases i with
      | zero => omega
      | succ i => exact r2 i o' (by simpa using ho) (by omega)
theorem w_ts {dflt lw hi : Int} {offs : Array Int} {len t0 : Nat} {x : Int} {r : List (Int × Nat)} (hd : decode y.2.1 pc = .ok (.tableswitch dflt lw hi offs, len)) (hn : lw + offs.toList.length = hi + 1) (h0 : (pc : Int) + dflt = (t0 : Int)) (hr : chkT pc lw offs.toList r = true) (k : swK x (fun t => wp y d rc rs Q t lo st h) t0 r) : wp y d rc rs Q pc lo (vi x :: st) h := by
  intro E p l e R s m args below meth c Z hC hR hd1 hd2 hb H locs ls cells slots hc hs hW hS hl hst hlo
  have hx : inr x := (ok_cons.mp hst).1
  obtain ⟨k1, k2⟩ := swT hr k
  have go : ∀ t, wp y d rc rs Q t lo st h → W p l e R s m args below meth c H locs cells slots Z (F0 m t ls (st.map (cv E.1))) := fun t kt => kt E p l e R s m args below meth c Z hC hR hd1 hd2 hb H locs ls cells slots hc hs hW hS hl (ok_cons.mp hst).2 hlo
  by_cases e : x < lw ∨ hi < x
  · refine lv_tableOut hC.1 hC.2.1 hd (by rw [oi_to hx]; exact e) h0 (go _ (k1 ?_))
    omega
  · have hlt : (x - lw).toNat < offs.toList.length := by omega
    obtain ⟨t, ht1, ht2⟩ := k2 (x - lw).toNat offs.toList[(x - lw).toNat] (List.getElem?_eq_getElem hlt) (by omega)
    refine lv_tableIn hC.1 hC.2.1 hd (by rw [oi_to hx]; omega) (by rw [oi_to hx]; omega) (off := offs.toList[(x - lw).toNat]) ?_ ht1 (go _ ht2)
    rw [oi_to hx, ← Array.getElem?_toList]
    exact List.getElem?_eq_getElem hlt
theorem swL {x : Int} {K : Nat → Prop} {t0 pc : Nat} {dflt : Int} (h0 : (pc : Int) + dflt = (t0 : Int)) : ∀ {os : List (Int × Int)} {r : List (Int × Nat)}, chkL pc os r = true → swK x K t0 r → ∃ t : Nat, (pc : Int) + Op.lookupswitch.offset os dflt x = (t : Int) ∧ K t
  | [], [], h, hk => ⟨t0, by rw [show Op.lookupswitch.offset [] dflt x = dflt from rfl]; exact h0, hk⟩
  | [], _ :: _, h, hk => by simp [chkL] at h
  | (_, _) :: _, [], h, hk => by simp [chkL] at h
  | (a, o) :: os, (k, t) :: r, h, hk => by
    simp only [chkL, Bool.and_eq_true, decide_eq_true_eq] at h
    obtain ⟨⟨rfl, h2⟩, h3⟩ := h
    obtain ⟨k1, k2⟩ := hk
    rw [Op.lookupswitch.offset_cons]
    by_cases e : x = k
    · subst e
      exact ⟨t, by simpa using h2, k1 rfl⟩
    · obtain ⟨t', r1, r2⟩ := swL h0 h3 (k2 e)
      refine ⟨t', ?_, r2⟩
      rw [if_neg]
      · exact r1
      · simpa using fun q => e q.symm
theorem w_lsw {dflt : Int} {ps : Array (Int × Int)} {len t0 : Nat} {x : Int} {r : List (Int × Nat)} (hd : decode y.2.1 pc = .ok (.lookupswitch dflt ps, len)) (hp : (ps.toList.zip (ps.toList.drop 1)).all (fun (a, next) => a.1 < next.1) = true) (h0 : (pc : Int) + dflt = (t0 : Int)) (hr : chkL pc ps.toList r = true) (k : swK x (fun t => wp y d rc rs Q t lo st h) t0 r) : wp y d rc rs Q pc lo (vi x :: st) h := by
  intro E p l e R s m args below meth c Z hC hR hd1 hd2 hb H locs ls cells slots hc hs hW hS hl hst hlo
  have hx : inr x := (ok_cons.mp hst).1
  obtain ⟨t, k1, k2⟩ := swL h0 hr k
  exact lv_lookup hC.1 hC.2.1 hd hp (by rw [oi_to hx]) k1 (k2 E p l e R s m args below meth c Z hC hR hd1 hd2 hb H locs ls cells slots hc hs hW hS hl (ok_cons.mp hst).2 hlo)
theorem w_ret {v : Option AV} (hi : rtI y v pc) (hq : Q v h) : wp y d rc rs Q pc lo v.toList h := by
  intro E p l e R s m args below meth c Z hC hR hd1 hd2 hb H locs ls cells slots hc hs hW hS hl hst hlo
  exact hR v h pc ls H locs cells slots hi (fun w hw => hst w (by rw [hw]; simp)) hq hW hS (by omega) (by omega)
theorem w_iret {x : Int} (hr : y.2.2.2 = some .int) (hd : decode y.2.1 pc = .ok (.ireturn, 1)) (hq : Q (some (vi x)) h) : wp y d rc rs Q pc lo [vi x] h := w_ret (v := some (vi x)) (Or.inl ⟨x, rfl, hr, hd⟩) hq
theorem w_zret {x : Int} (hr : y.2.2.2 = some .boolean) (hd : decode y.2.1 pc = .ok (.ireturn, 1)) (h01 : x = 0 ∨ x = 1) (hq : Q (some (vi x)) h) : wp y d rc rs Q pc lo [vi x] h := w_ret (v := some (vi x)) (Or.inr (Or.inl ⟨x, rfl, h01, hr, hd⟩)) hq
theorem w_lret {x : Int64} (hr : y.2.2.2 = some .long) (hd : decode y.2.1 pc = .ok (.lreturn, 1)) (hq : Q (some (vl x)) h) : wp y d rc rs Q pc lo [vl x] h := w_ret (v := some (vl x)) (Or.inr (Or.inr (Or.inl ⟨x, rfl, hr, hd⟩))) hq
theorem w_aret {x : Nat} {t : FieldType} (hr : y.2.2.2 = some (.array t)) (hd : decode y.2.1 pc = .ok (.areturn, 1)) (hq : Q (some (vr x)) h) : wp y d rc rs Q pc lo [vr x] h := w_ret (v := some (vr x)) (Or.inr (Or.inr (Or.inr (Or.inl ⟨x, t, rfl, hr, hd⟩)))) hq
theorem w_vret (hr : y.2.2.2 = none) (hd : decode y.2.1 pc = .ok (.return_, 1)) (hq : Q none h) : wp y d rc rs Q pc lo [] h := w_ret (v := none) (Or.inr (Or.inr (Or.inr (Or.inr ⟨rfl, hr, hd⟩)))) hq
end FROWS
