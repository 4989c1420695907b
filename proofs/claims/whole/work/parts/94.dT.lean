/-! WHAT HOLDS BETWEEN THE CALLS; what the reference wants of it -/
section
def SR (x k : Nat) : Prop := (x = 89 ∧ (k = 42 ∨ k = 43 ∨ (34 ≤ k ∧ k ≤ 40))) ∨ (1177 ≤ x ∧ x ≤ 1180) ∨ x = 1182 ∨ (x = 1137 ∧ k = 6) ∨ x = 1146 ∨ x = 1154
def simS (g g' : AH) : Prop := ∀ x k, 89 ≤ x → x < 1191 → ¬ SR x k → iH g' x k = iH g x k
/-- the reference changes numbers of its own alone -/
def agR (h h' : AH) : Prop := nH h' = nH h ∧ (∀ x, kH h' x = kH h x) ∧ (∀ x k, rH h' x k = rH h x k) ∧ (∀ x k, jH h' x k = jH h x k) ∧ ∀ x k, (x < 89 ∨ 1191 ≤ x) → iH h' x k = iH h x k
def Inv (h : AH) (T : Nat) : Prop := LayL h ∧ LayM h ∧ ∃ da sa, K h h da sa T
variable {h h1 h2 g g' : AH} {da sa : Nat → Nat} {T : Nat}
theorem sim_DS (s : simS g g') : agDS g g' := ⟨⟨s _ _ (by decide) (by decide) (by unfold SR; omega), s _ _ (by decide) (by decide) (by unfold SR; omega)⟩, fun x k h1 h2 _ => s x k (by omega) (by omega) (by unfold SR; omega)⟩
theorem sim_N (s : simS g g') : agN g g' := ⟨sim_DS s, fun k => s _ _ (by decide) (by decide) (by unfold SR; omega), ⟨s _ _ (by decide) (by decide) (by unfold SR; omega), fun k => s _ _ (by decide) (by decide) (by unfold SR; omega)⟩, fun t ht => ⟨s _ _ (by decide) (by decide) (by unfold SR; omega), fun k => s _ _ (by omega) (by omega) (by unfold SR; omega), fun k => s _ _ (by omega) (by omega) (by unfold SR; omega)⟩⟩
theorem agR_L (r : agR h1 h2) (hL : LayL h1) : LayL h2 := ⟨fun q hq => by rw [r.1, r.2.1]; exact hL.1 q hq, fun q hq => by rw [r.2.2.1]; exact hL.2 q hq⟩
theorem agR_M (r : agR h1 h2) (hL : LayM h1) : LayM h2 := ⟨fun q hq => by rw [r.1, r.2.1]; exact hL.1 q hq, fun q hq => by rw [r.2.2.1]; exact hL.2.1 q hq, fun q hq i hi => by rw [r.1, r.2.1, r.2.2.1]; exact hL.2.2 q hq i hi⟩
theorem K_sim (hK : K h1 g da sa T) (r : agR h1 h2) (s : simS g g') : K h2 g' da sa T := by
  obtain ⟨k1, k2, k3, k4, k5, k6⟩ := hK
  obtain ⟨r1, r2, r3, r4, r5⟩ := r
  have N := sim_N s
  have o71 : ∀ k, ¬ (k = 42 ∨ k = 43 ∨ (34 ≤ k ∧ k ≤ 40)) → iH g' 89 k = iH g 89 k := fun k hk => s _ _ (by decide) (by decide) (by unfold SR; omega)
  refine ⟨kSta_u k1 (agD_rf r1 r2 fun x hx => ⟨fun k => r5 x k (Or.inr hx), fun k => r3 x k⟩) (fun c hc => ⟨fun k => r5 c k (Or.inl (by have := iSt_lt hc; omega)), fun k => r3 _ k, fun k => r4 _ k⟩) N (fun t ht => s _ _ (by decide) (by decide) (by unfold SR; omega)), kB_u k2 (r5 0 2 (Or.inl (by decide))) (fun k => r3 4 k) N (o71 _ (by decide)) (fun k => s _ _ (by decide) (by decide) (by unfold SR; omega)), rZ_u k3 N, ?_, ?_, by omega⟩
  · exact kMg_u k4 (fun k _ => r5 17 k (Or.inl (by decide))) (fun k => r4 18 k) (fun k a b => o71 k (by omega)) (fun k => s _ _ (by decide) (by decide) (by unfold SR; omega)) (Int.le_of_eq (o71 13 (by decide)).symm) (fun s' _ => s _ _ (by decide) (by decide) (by unfold SR; omega)) (fun x hx => by
      have := segs_520 k1.1.1.2.1
      exact ⟨s _ _ (by decide) (by decide) (by unfold SR; omega), fun k => s _ _ (by omega) (by omega) (by unfold SR; omega)⟩) (row_b k1)
  · exact kSm_u k5 (fun _ _ => False) SR (fun x k hx _ => r5 x k (Or.inl (by omega))) (fun x k a b c => s x k a b c) (kT_u (fun k hk => o71 k (by omega)) (s _ _ (by decide) (by decide) (by unfold SR; omega)) (Nat.le_refl _) k5.2.2.2.2.2.2.2.2)
      (Or.inl ⟨fun _ _ _ c => c, fun x k q c => by unfold gSe at q; unfold SR at c; omega⟩)
      (Or.inl ⟨fun _ _ _ c => c, fun x k q c => by unfold gPo at q; unfold SR at c; omega⟩)
      (Or.inl ⟨fun _ _ _ c => c, fun x k q c => by unfold gTp at q; unfold SR at c; omega⟩)
      (Or.inl ⟨fun _ _ _ c => c, fun x k q c => by unfold gSh at q; unfold SR at c; omega⟩)
      (Or.inl ⟨fun _ _ _ c => c, fun x k q c => by unfold gL at q; unfold SR at c; omega⟩)
      (Or.inl ⟨fun _ _ _ c => c, fun x k q c => by unfold gQ at q; unfold SR at c; omega⟩)
      (Or.inl fun x k q c => by unfold gK at q; unfold SR at c; omega)
      (Or.inl fun x k q c => by unfold gC at q; unfold SR at c; omega)
/-- all that is wanted of a call: the two answers are one, and what holds holds again -/
theorem inv_of (L1 : LayL h1) (M1 : LayM h1) (hK : K h1 g da sa T) (r : agR h1 h2) (s : simS g h2) : Inv h2 T := ⟨agR_L r L1, agR_M r M1, da, sa, K_sim hK r s⟩
end
/-! what the reference wants -/
section
variable {h g : AH} {da sa : Nat → Nat} {T : Nat}
theorem pK_now (hK : K h g da sa T) : m_now g := nowOf hK.1.1.1
theorem pK_nowL (hK : K h g da sa T) : m_nowL g := ⟨pK_now hK, hK.1.2.1.2.1, hK.1.2.1.2.2.2⟩
theorem pK_nowd (hK : K h g da sa T) : m_nowd g := ⟨pK_now hK, fun s hs => by
  have q : 0 ≤ iH g 1155 s ∧ iH g 1155 s < iH g 89 5 := row_b hK.1 s hs
  have := (hK.1.1.1.2.1 (iH g 1155 s).toNat (by omega)).1
  rw [Int.toNat_of_nonneg q.1] at this
  exact this⟩
theorem pK_std (hK : K h g da sa T) : ∀ v : Nat, v < 7 → m_std g v := fun v hv => by
  refine ⟨⟨by omega, by omega⟩, ?_⟩
  rw [Int.toNat_natCast]
  by_cases e : v = 6
  · subst e; exact hK.2.2.2.2.1.2.2.2.2.2.2.2.2.2.2.2.2
  · exact (hK.1.1.2.1 v (by omega)).2.1
theorem pK_gS (hK : K h g da sa T) {t : Nat} (ht : t < 6) : m_gS g t := gS_of (by omega) hK.1.1.1.2.1 (hK.1.1.2.1 t ht) (hK.1.2.1.2.2.1 t ht).1
theorem pK_gSv (hK : K h g da sa T) : ∀ v : Int, 0 ≤ v → v ≤ 3 → iH g 1137 v.toNat ≠ 0 → m_gS g v := fun v h0 h3 _ => by
  have := pK_gS hK (t := v.toNat) (by omega)
  rw [Int.toNat_of_nonneg h0] at this
  exact this
theorem pK_gN (hK : K h g da sa T) : m_gN g := ⟨pK_nowL hK, gS_6 hK.1⟩
theorem pK_qs (hK : K h g da sa T) : m_qs g := by
  have q : kQ h g := hK.2.2.2.2.1.2.2.2.2.2.1
  refine ⟨q.2.1, fun x h0 h1 => ?_⟩
  have := (q.2.2 x.toNat (by omega)).1
  rw [Int.toNat_of_nonneg h0] at this
  exact this
theorem pK_buf (hK : K h g da sa T) : m_buf g := cBuf_m hK.1.1.1.1 hK.2.1.1
theorem pK_pol (hK : K h g da sa T) : m_pol g := by
  have q : kPo h g := hK.2.2.2.2.1.2.1
  exact ⟨(pK_now hK).1, q.1.2.2.2, (pK_now hK).2⟩
theorem pK_sh (hK : K h g da sa T) : m_shOK g := fun s h4 => (hK.2.2.2.2.1.2.2.2.1 s h4).2.2.1
theorem pK_com (hK : K h g da sa T) : m_com g := by
  have q := hK.1.1.2.1 5 (by omega)
  refine ⟨q.2.1, fun s hs => ?_, (hK.1.2.1.2.2.1 5 (by omega)).1, (hK.1.2.1.2.2.1 5 (by omega)).2⟩
  have r : 0 ≤ iH g (1140 + 5) s ∧ iH g (1140 + 5) s < iH g 89 5 := (q.2.2 s hs).1
  have := (hK.1.1.1.2.1 (iH g (1140 + 5) s).toNat (by omega)).1.1.1
  rw [Int.toNat_of_nonneg r.1] at this
  exact this
end
