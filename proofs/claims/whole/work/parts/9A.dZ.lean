/-! WHAT THE REFERENCE'S ANSWERS HANG ON -/
section
variable {h h1 : AH}
theorem wf_e (et : iH h1 1157 = iH h 1157) : m_wf h1 = m_wf h := by
  funext a b k
  induction k with
  | zero => rfl
  | succ k ih => unfold m_wf; rw [ih, et]
theorem bl_e (et : iH h1 1157 = iH h 1157) : d_bl h1 = d_bl h := by funext k; unfold d_bl; rw [et]
theorem le_e (et : iH h1 1157 = iH h 1157) : d_le h1 = d_le h := by funext k; unfold d_le; rw [et]
theorem dn_e (et : iH h1 1157 = iH h 1157) (e7 : iH h1 89 = iH h 89) : d_n h1 = d_n h := by unfold d_n; rw [e7]
theorem sk_e (et : iH h1 1157 = iH h 1157) (e7 : iH h1 89 = iH h 89) : d_sk h1 = d_sk h := by funext k; unfold d_sk; rw [bl_e et, dn_e et e7]
theorem we_e (et : iH h1 1157 = iH h 1157) (e7 : iH h1 89 = iH h 89) : d_we h1 = d_we h := by funext k; unfold d_we; rw [le_e et, dn_e et e7]
theorem dP_e (et : iH h1 1157 = iH h 1157) (e7 : iH h1 89 = iH h 89) : d_P h1 = d_P h := by
  funext i
  induction i with
  | zero => unfold d_P; rw [sk_e et e7]
  | succ i ih => unfold d_P; rw [ih, sk_e et e7, we_e et e7]
theorem stop_e (et : iH h1 1157 = iH h 1157) (e7 : iH h1 89 = iH h 89) : d_stop h1 = d_stop h := by funext i; unfold d_stop; rw [dn_e et e7, dP_e et e7, we_e et e7]
theorem dm_e (et : iH h1 1157 = iH h 1157) (e7 : iH h1 89 = iH h 89) : d_m h1 = d_m h := by unfold d_m; rw [stop_e et e7]
theorem fault_e (et : iH h1 1157 = iH h 1157) (e7 : iH h1 89 = iH h 89) : d_fault h1 = d_fault h := by unfold d_fault; rw [dn_e et e7, dP_e et e7, dm_e et e7]
theorem word_e (et : iH h1 1157 = iH h 1157) (e7 : iH h1 89 = iH h 89) : d_word h1 = d_word h := by funext i; unfold d_word; rw [wf_e et, dP_e et e7, we_e et e7]
theorem qb_e (et : iH h1 1157 = iH h 1157) (e7 : iH h1 89 = iH h 89) : q_b h1 = q_b h := by funext p; unfold q_b; rw [sk_e et e7]
theorem qwe_e (et : iH h1 1157 = iH h 1157) (e7 : iH h1 89 = iH h 89) : q_we h1 = q_we h := by funext p; unfold q_we; rw [qb_e et e7, we_e et e7]
theorem qv_e (et : iH h1 1157 = iH h 1157) (e7 : iH h1 89 = iH h 89) : q_v h1 = q_v h := by funext p; unfold q_v; rw [wf_e et, qb_e et e7, qwe_e et e7]
theorem qe_e (et : iH h1 1157 = iH h 1157) (e7 : iH h1 89 = iH h 89) : q_e h1 = q_e h := by funext p; unfold q_e; rw [dn_e et e7, qb_e et e7, qwe_e et e7]
theorem qk_e (et : iH h1 1157 = iH h 1157) (e7 : iH h1 89 = iH h 89) : q_k h1 = q_k h := by funext p; unfold q_k; rw [dn_e et e7, qb_e et e7, qwe_e et e7, qv_e et e7, et]
theorem qgo_e (et : iH h1 1157 = iH h 1157) (e7 : iH h1 89 = iH h 89) : q_go h1 = q_go h := by funext p o; unfold q_go; rw [qk_e et e7, qb_e et e7]
theorem qpl_e (et : iH h1 1157 = iH h 1157) (e7 : iH h1 89 = iH h 89) : q_pl h1 = q_pl h := by funext p o; unfold q_pl; rw [qk_e et e7, qb_e et e7, qe_e et e7, qgo_e et e7, qv_e et e7]
theorem qws_e (et : iH h1 1157 = iH h 1157) (e7 : iH h1 89 = iH h 89) : q_ws h1 = q_ws h := by
  funext k
  induction k with
  | zero => rfl
  | succ k ih => funext p ws; unfold q_ws; rw [ih, qk_e et e7, qb_e et e7, qe_e et e7, qv_e et e7]
theorem qpf_e (et : iH h1 1157 = iH h 1157) (e7 : iH h1 89 = iH h 89) : q_pf h1 = q_pf h := by funext o s; unfold q_pf; rw [qk_e et e7, qb_e et e7, qe_e et e7, qgo_e et e7]
theorem qph_e (et : iH h1 1157 = iH h 1157) (e7 : iH h1 89 = iH h 89) : q_ph h1 = q_ph h := by funext p o; unfold q_ph; rw [qk_e et e7, qb_e et e7, qe_e et e7, qgo_e et e7, qpf_e et e7, qws_e et e7]
theorem qlp_e (et : iH h1 1157 = iH h 1157) (e7 : iH h1 89 = iH h 89) : q_lp h1 = q_lp h := by
  funext k m f n
  induction n with
  | zero => rfl
  | succ n ih => funext p o; unfold q_lp; rw [ih, qk_e et e7, qe_e et e7, qgo_e et e7]
theorem qbo_e (et : iH h1 1157 = iH h 1157) (e7 : iH h1 89 = iH h 89) : q_bo h1 = q_bo h := by funext f p o; unfold q_bo; rw [qlp_e et e7]
theorem qei_e (et : iH h1 1157 = iH h 1157) (e7 : iH h1 89 = iH h 89) : q_ei h1 = q_ei h := by funext f p o; unfold q_ei; rw [qlp_e et e7, qbo_e et e7]
theorem qo1_e (et : iH h1 1157 = iH h 1157) (e7 : iH h1 89 = iH h 89) : q_o1 h1 = q_o1 h := by funext a b p o; unfold q_o1; rw [qk_e et e7, qb_e et e7, qph_e et e7, qpl_e et e7]
theorem qng_e (et : iH h1 1157 = iH h 1157) (e7 : iH h1 89 = iH h 89) : q_ng h1 = q_ng h := by funext f p o; unfold q_ng; rw [qgo_e et e7, qe_e et e7]
theorem qbr_e (et : iH h1 1157 = iH h 1157) (e7 : iH h1 89 = iH h 89) : q_br h1 = q_br h := by funext f p o; unfold q_br; rw [qgo_e et e7, qe_e et e7, qei_e et e7, qk_e et e7, qb_e et e7]
theorem qone_e (et : iH h1 1157 = iH h 1157) (e7 : iH h1 89 = iH h 89) : q_one h1 = q_one h := by
  funext d
  induction d with
  | zero => unfold q_one; rw [qo1_e et e7, qb_e et e7]
  | succ d ih => unfold q_one; rw [ih, qo1_e et e7, qng_e et e7, qbr_e et e7]
theorem qall_e (et : iH h1 1157 = iH h 1157) (e7 : iH h1 89 = iH h 89) : q_all h1 = q_all h := by unfold q_all; rw [qgo_e et e7, qei_e et e7, qone_e et e7, qk_e et e7, qb_e et e7]
end
/-- the reference's numbers are the same -/
def agB (h h1 : AH) : Prop := ∀ x, 89 ≤ x → x < 1191 → iH h1 x = iH h x
section
variable {h h1 : AH}
theorem B_71 (e : ag71 h h1) : agB h h1 := fun x a _ => e x a
theorem B_sim (e : agB h h1) : simS h h1 := fun x k a b _ => congrFun (e x a b) k
theorem bp_B (e : agB h h1) {key : Int} : m_bp h1 key = m_bp h key := by
  unfold m_bp
  have : m_bufP h1 key = m_bufP h key := by
    funext k
    unfold m_bufP
    rw [e 90 (by decide) (by decide), e 1156 (by decide) (by decide)]
  rw [this, e 89 (by decide) (by decide)]
theorem sp1_B (e : agB h h1) (hn : m_now h) {key : Int} {s : Nat} (hs : (s : Int) < iH h 89 13) : m_sp1 h1 key s = m_sp1 h key s := by
  have q := hn.2 s hs
  unfold m_sp1
  have : m_spP h1 key (iH h1 1155 s) = m_spP h key (iH h 1155 s) := by
    funext k
    unfold m_spP
    rw [e 1155 (by decide) (by decide), e 90 (by decide) (by decide), e 613 (by decide) (by decide), e (617 + (iH h 1155 s).toNat) (by omega) (by have := q.1; omega)]
  rw [this, e 1155 (by decide) (by decide), e 615 (by decide) (by decide)]
theorem sp_B (e : agB h h1) (hn : m_now h) {key : Int} : m_sp h1 key = m_sp h key := by
  have es : m_sps h1 key = m_sps h key := by
    unfold m_sps
    rw [e 89 (by decide) (by decide)]
    exact fst_cg fun s hs => by rw [sp1_B e hn (by omega)]
  unfold m_sp
  rw [es]
  by_cases c : m_sps h key = -1
  · rw [if_pos c, if_pos c]
  · have b := fst_bd (fun s => m_sp1 h key s ≠ -1) (iH h 89 13).toNat
    have b : -1 ≤ m_sps h key ∧ m_sps h key < ((iH h 89 13).toNat : Int) := b
    have := hn.1
    rw [if_neg c, if_neg c, sp1_B e hn (by omega)]
theorem adrop_B (e : agB h h1) (hn : m_now h) {key : Int} : a_drop h1 key = a_drop h key := by
  unfold a_drop
  rw [bp_B e, sp_B e hn]
/-- a heap with the reference's numbers alone changed alike -/
theorem B_sI (e : agB h h1) {a i : Nat} {v : Int} : agB (sI h a i v) (sI h1 a i v) := fun x p q => funext fun k => by rw [i_sI, i_sI, e x p q]
theorem B_sW (e : agB h h1) {a : Nat} {f f' : Nat → Int} (hf : f = f') : agB (sW h a f) (sW h1 a f') := fun x p q => funext fun k => by rw [i_sW, i_sW, hf, e x p q]
theorem B_cp (e : agB h h1) {a b i j n : Nat} (ha : 89 ≤ a ∧ a < 1191) (hb : 89 ≤ b ∧ b < 1191) : agB (cpI h a i b j n) (cpI h1 a i b j n) := B_sW e (by rw [e a ha.1 ha.2, e b hb.1 hb.2])
theorem drop_B (e : agB h h1) (hn : m_now h) {key : Int} : agB (m_drop h key) (m_drop h1 key) := by
  unfold m_drop
  rw [bp_B e, sp_B e hn]
  by_cases c : m_bp h key ≠ -1
  · rw [if_pos c, if_pos c, e 89 (by decide) (by decide)]
    refine B_sI (B_sW e (funext fun k => ?_))
    unfold m_shf
    rw [e 89 (by decide) (by decide), e 1156 (by decide) (by decide)]
  · rw [if_neg c, if_neg c]
    by_cases c2 : m_sp h key ≠ -1
    · rw [if_pos c2, if_pos c2]
      have : m_dropD h1 key = m_dropD h key := by
        unfold m_dropD
        rw [sp_B e hn]
        rcases m_sp_cs hn key with ⟨u, -⟩ | ⟨s, k, s1, k1, u, k64, s8, -⟩
        · exact absurd u c2
        · rw [u, show (100 * (s : Int) + (k : Int)) / 100 = (s : Int) by omega, Int.toNat_natCast, e 1155 (by decide) (by decide), e (617 + (iH h 1155 s).toNat) (by omega) (by have := (hn.2 s s1).1; omega)]
      rw [this]
      exact B_sI e
    · rw [if_neg c2, if_neg c2]; exact e
/-! begin, shut, crash -/
theorem liveP_71 (e : ag71 h h1) : m_liveP h1 = m_liveP h := by funext g k; unfold m_liveP; rw [e 613 (by omega), e (617 + g.toNat) (by omega)]
theorem live_71 (e : ag71 h h1) : m_live h1 = m_live h := by funext g; unfold m_live; rw [liveP_71 e, e 615 (by omega)]
theorem liveIn_71 (e : ag71 h h1) : m_liveIn h1 = m_liveIn h := by funext a n; unfold m_liveIn; rw [live_71 e, e 1155 (by omega)]
theorem width_71 (e : ag71 h h1) : m_width h1 = m_width h := by unfold m_width; rw [e 89 (by omega)]
theorem size_71 (e : ag71 h h1) : m_size h1 = m_size h := by funext s; unfold m_size; rw [live_71 e, e 89 (by omega), e 1155 (by omega), e 615 (by omega)]
theorem tier_71 (e : ag71 h h1) : m_tier h1 = m_tier h := by funext s; unfold m_tier; rw [size_71 e]
theorem stands_71 (e : ag71 h h1) : m_stands h1 = m_stands h := by funext t g; unfold m_stands; rw [e 1137 (by omega), e 1138 (by omega), e (1140 + t.toNat) (by omega)]
theorem heldP_71 (e : ag71 h h1) : m_heldP h1 = m_heldP h := by funext g; unfold m_heldP; rw [stands_71 e]
theorem bgI_71 (e : ag71 h h1) : m_bgI h1 = m_bgI h := by
  funext g p k
  induction k with
  | zero => rfl
  | succ k ih => unfold m_bgI; rw [ih, e 613 (by omega), e (617 + g) (by omega)]
theorem bg_71 (e : ag71 h h1) : m_bg h1 = m_bg h := by
  funext c j
  induction j with
  | zero => unfold m_bg; rw [e 1159 (by omega)]
  | succ j ih => unfold m_bg; rw [ih, bgI_71 e, e 1155 (by omega), e 615 (by omega)]
theorem off5_71 (e : ag71 h h1) : m_off5 h1 = m_off5 h := by funext s; unfold m_off5; rw [e 615 (by omega), e (1140 + 5) (by omega)]
theorem crI_71 (e : ag71 h h1) : m_crI h1 = m_crI h := by
  funext D s k
  induction k with
  | zero => rfl
  | succ k ih => funext d; unfold m_crI; rw [ih, off5_71 e, e (1140 + 5) (by omega), e (1148 + 5) (by omega), e (617 + (iH h (1140 + 5) s).toNat) (by omega)]
theorem crD_71 (e : ag71 h h1) : m_crD h1 = m_crD h := by
  funext s
  induction s with
  | zero => unfold m_crD; rw [e 613 (by omega)]
  | succ s ih => unfold m_crD; rw [ih, crI_71 e, e (1140 + 5) (by omega), e 615 (by omega)]
end
