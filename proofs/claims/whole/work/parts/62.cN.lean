/-! THE CLASS: THE READER'S RECURSION -/
section
def cL (h g : AH) (a : Nat) (op : Int) (y : MI) (D : Nat) (f : Nat → qL → qS) : Prop := ∀ (p : Nat) (o : qL) (h' : AH), gS h g a op p o [] h' → q_k g p ≠ 5 → nM 0 p o → Ct D 0 0 y [vr 20] h' (QV (rS h g a op (f p o)))
variable {h g h' : AH} {a : Nat} {op : Int} {p : Nat} {o : qL} {ws : List Int}
theorem gS_o {v : Int} (s : gS h g a op p o ws h') : gS h g a v p o ws (sI h' 20 6 v) := by
  obtain ⟨F, T, rfl, ⟨t1, t2, t3, t4⟩, f6, f7, hp, hr⟩ := s
  exact ⟨_, T, hr_sF (by omega), ⟨by simp [updF, t1], by simp [updF, t2], by simp [updF, t3], fun q => by simp [updF, t4 q]⟩, by simp [updF], by simp [updF, f7], hp, hr⟩
theorem bS_o {v op2 : Int} {e : Nat} (hv : op2 ≤ v ∧ v ≤ 4) (s : bS h a op e h') : bS h a op2 e (sI h' 20 6 v) := by
  obtain ⟨F, T, rfl, f1, f2, f3⟩ := s
  exact ⟨_, T, hr_sF (by omega), by simpa [updF] using f1, by simpa [updF] using hv, f3⟩
theorem cr_gn (hb : bR h g a) (ho : op ≤ 4) (s : gS h g a op p o ws h') : Ct 0 0 0 mX6_refuse [vr 20] h' (QV fun h2 => bS h a op (q_b g p) h2 ∧ iH h2 20 7 = (q_b g p : Int)) := by
  obtain ⟨F, T, rfl, ⟨t1, t2, t3, t4⟩, f6, f7, hp, hr⟩ := s
  refine Ct.mono (fun x y q => ?_) (l_refuse hb)
  obtain ⟨rfl, q⟩ := q
  rw [if_pos f7] at q
  refine ⟨rfl, ⟨_, T, q, Or.inl (by simp [updF]; exact t2), by simp [updF]; omega, pT_0 hr⟩, ?_⟩
  rw [q, hr_F (by omega)]; simp [updF]; exact t2
end
def b_X6_readOne_0 : List IE := [(.aload_n 0, 1, 0, 0, 0, 0), (.getfield 40, 3, 0, 6, 2, 0)]
theorem k_X6_readOne_0 : ckLs mX6_readOne 6 0 b_X6_readOne_0 4 72 #[(1, 58), (4, 44), (34, 65), (40, 51)] 44 76 [(1, 62), (4, 48), (34, 69), (40, 55)] = true := by decide +kernel
def b_X6_readOne_48 : List IE := [(.aload_n 0, 1, 0, 0, 0, 0)]
theorem k_X6_readOne_48 : ckB mX6_readOne 6 48 b_X6_readOne_48 49 = true := by decide +kernel
def b_X6_readOne_52 : List IE := []
theorem k_X6_readOne_52 : ckGo mX6_readOne 6 52 b_X6_readOne_52 52 28 80 = true := by decide +kernel
def b_X6_readOne_55 : List IE := [(.aload_n 0, 1, 0, 0, 0, 0)]
theorem k_X6_readOne_55 : ckB mX6_readOne 6 55 b_X6_readOne_55 56 = true := by decide +kernel
def b_X6_readOne_59 : List IE := []
theorem k_X6_readOne_59 : ckGo mX6_readOne 6 59 b_X6_readOne_59 59 21 80 = true := by decide +kernel
def b_X6_readOne_62 : List IE := [(.aload_n 0, 1, 0, 0, 0, 0)]
theorem k_X6_readOne_62 : ckB mX6_readOne 6 62 b_X6_readOne_62 63 = true := by decide +kernel
def b_X6_readOne_66 : List IE := []
theorem k_X6_readOne_66 : ckGo mX6_readOne 6 66 b_X6_readOne_66 66 14 80 = true := by decide +kernel
def b_X6_readOne_69 : List IE := [(.aload_n 0, 1, 0, 0, 0, 0)]
theorem k_X6_readOne_69 : ckB mX6_readOne 6 69 b_X6_readOne_69 70 = true := by decide +kernel
def b_X6_readOne_73 : List IE := []
theorem k_X6_readOne_73 : ckGo mX6_readOne 6 73 b_X6_readOne_73 73 7 80 = true := by decide +kernel
def b_X6_readOne_76 : List IE := [(.aload_n 0, 1, 0, 0, 0, 0)]
theorem k_X6_readOne_76 : ckB mX6_readOne 6 76 b_X6_readOne_76 77 = true := by decide +kernel
def b_X6_readOne_80 : List IE := []
theorem k_X6_readOne_80 : ckV mX6_readOne 6 80 b_X6_readOne_80 80 = true := by decide +kernel
theorem s_X6_readOne_49 : cV mX6_readOne 49 mX6_readNot 85 0 6 := ⟨by decide +kernel, ⟨ml_X6_readNot, li_RX6_85, im_X6_readNot, se_X6_readNot⟩, ⟨by decide +kernel, by decide +kernel⟩, by decide +kernel⟩
theorem s_X6_readOne_56 : cV mX6_readOne 56 mX6_readBrackets 88 0 6 := ⟨by decide +kernel, ⟨ml_X6_readBrackets, li_RX6_88, im_X6_readBrackets, se_X6_readBrackets⟩, ⟨by decide +kernel, by decide +kernel⟩, by decide +kernel⟩
theorem s_X6_readOne_63 : cV mX6_readOne 63 mX6_readWord 91 0 6 := ⟨by decide +kernel, ⟨ml_X6_readWord, li_RX6_91, im_X6_readWord, se_X6_readWord⟩, ⟨by decide +kernel, by decide +kernel⟩, by decide +kernel⟩
theorem s_X6_readOne_70 : cV mX6_readOne 70 mX6_readPhrase 94 0 6 := ⟨by decide +kernel, ⟨ml_X6_readPhrase, li_RX6_94, im_X6_readPhrase, se_X6_readPhrase⟩, ⟨by decide +kernel, by decide +kernel⟩, by decide +kernel⟩
theorem s_X6_readOne_77 : cV mX6_readOne 77 mX6_refuse 43 0 6 := ⟨by decide +kernel, ⟨ml_X6_refuse, li_RX6_43, im_X6_refuse, se_X6_refuse⟩, ⟨by decide +kernel, by decide +kernel⟩, by decide +kernel⟩
theorem t_X6_readOne_0 {d : Nat} {rc rs : Nat} {Q : Option AV → AH → Prop} {h : AH}  (hL : LayL h) (hv : (((iH h 20 2) = 1 → (∃ P45 : AH → Prop, 2 + 1 ≤ d ∧ Ct 2 0 0 mX6_readWord [vr 20] h (QV P45) ∧ ∀ h43 : AH, P45 h43 → LayL h43 ∧ Q none h43)) ∧ ((iH h 20 2) ≠ 1 → (((iH h 20 2) = 4 → (∃ d31 : Nat, (∃ P34 : AH → Prop, d31 + 1 ≤ d ∧ Ct d31 0 0 mX6_readNot [vr 20] h (QV P34) ∧ ∀ h32 : AH, P34 h32 → LayL h32 ∧ Q none h32))) ∧ ((iH h 20 2) ≠ 4 → (((iH h 20 2) = 34 → (∃ P22 : AH → Prop, 2 + 1 ≤ d ∧ Ct 2 0 0 mX6_readPhrase [vr 20] h (QV P22) ∧ ∀ h20 : AH, P22 h20 → LayL h20 ∧ Q none h20)) ∧ ((iH h 20 2) ≠ 34 → (((iH h 20 2) = 40 → (∃ d8 : Nat, (∃ P11 : AH → Prop, d8 + 1 ≤ d ∧ Ct d8 0 0 mX6_readBrackets [vr 20] h (QV P11) ∧ ∀ h9 : AH, P11 h9 → LayL h9 ∧ Q none h9))) ∧ ((iH h 20 2) ≠ 40 → (∃ P3 : AH → Prop, 0 + 1 ≤ d ∧ Ct 0 0 0 mX6_refuse [vr 20] h (QV P3) ∧ ∀ h1 : AH, P3 h1 → LayL h1 ∧ Q none h1)))))))))) : wp mX6_readOne d rc rs Q 0 [some (vr 20)] [] h :=
  (show wp mX6_readOne d rc rs Q 0 [some (vr 20)] [] h from xLs k_X6_readOne_0 (And.intro (ll_20 hL) (And.intro (fun c50 => have v52 := hv.1 c50; (show wp mX6_readOne d rc rs Q 62 [some (vr 20)] [] h from xcV k_X6_readOne_62 s_X6_readOne_63 (Exists.elim v52 (fun P45 v46 => (Exists.intro [] (Exists.intro 20 (Exists.intro [] (And.intro (And.intro rfl (And.intro rfl (Nat.le_of_ble_eq_true rfl))) (And.intro (ll_20 hL) (Exists.intro 2 (Exists.intro 0 (Exists.intro 0 (Exists.intro (QV P45) (And.intro v46.2.1 (And.intro (And.intro v46.1 (And.intro (Nat.zero_le _) (Nat.zero_le _))) (eQV (fun h43 e48 => have v47 := v46.2.2 h43 e48; have hL := v47.1; have v47 := v47.2; (show wp mX6_readOne d rc rs Q 66 [some (vr 20)] [] h43 from xGo k_X6_readOne_66 (show wp mX6_readOne d rc rs Q 80 [some (vr 20)] [] h43 from xV k_X6_readOne_80 (And.intro rfl v47)))))))))))))))))))) (fun c51 => have v53 := hv.2 c51; (And.intro (fun c39 => have v41 := v53.1 c39; (show wp mX6_readOne d rc rs Q 48 [some (vr 20)] [] h from xcV k_X6_readOne_48 s_X6_readOne_49 (Exists.elim v41 (fun d31 v35 => Exists.elim v35 (fun P34 v35 => (Exists.intro [] (Exists.intro 20 (Exists.intro [] (And.intro (And.intro rfl (And.intro rfl (Nat.le_of_ble_eq_true rfl))) (And.intro (ll_20 hL) (Exists.intro d31 (Exists.intro 0 (Exists.intro 0 (Exists.intro (QV P34) (And.intro v35.2.1 (And.intro (And.intro v35.1 (And.intro (Nat.zero_le _) (Nat.zero_le _))) (eQV (fun h32 e37 => have v36 := v35.2.2 h32 e37; have hL := v36.1; have v36 := v36.2; (show wp mX6_readOne d rc rs Q 52 [some (vr 20)] [] h32 from xGo k_X6_readOne_52 (show wp mX6_readOne d rc rs Q 80 [some (vr 20)] [] h32 from xV k_X6_readOne_80 (And.intro rfl v36))))))))))))))))))))) (fun c40 => have v42 := v53.2 c40; (And.intro (fun c27 => have v29 := v42.1 c27; (show wp mX6_readOne d rc rs Q 69 [some (vr 20)] [] h from xcV k_X6_readOne_69 s_X6_readOne_70 (Exists.elim v29 (fun P22 v23 => (Exists.intro [] (Exists.intro 20 (Exists.intro [] (And.intro (And.intro rfl (And.intro rfl (Nat.le_of_ble_eq_true rfl))) (And.intro (ll_20 hL) (Exists.intro 2 (Exists.intro 0 (Exists.intro 0 (Exists.intro (QV P22) (And.intro v23.2.1 (And.intro (And.intro v23.1 (And.intro (Nat.zero_le _) (Nat.zero_le _))) (eQV (fun h20 e25 => have v24 := v23.2.2 h20 e25; have hL := v24.1; have v24 := v24.2; (show wp mX6_readOne d rc rs Q 73 [some (vr 20)] [] h20 from xGo k_X6_readOne_73 (show wp mX6_readOne d rc rs Q 80 [some (vr 20)] [] h20 from xV k_X6_readOne_80 (And.intro rfl v24)))))))))))))))))))) (fun c28 => have v30 := v42.2 c28; (And.intro (fun c16 => have v18 := v30.1 c16; (show wp mX6_readOne d rc rs Q 55 [some (vr 20)] [] h from xcV k_X6_readOne_55 s_X6_readOne_56 (Exists.elim v18 (fun d8 v12 => Exists.elim v12 (fun P11 v12 => (Exists.intro [] (Exists.intro 20 (Exists.intro [] (And.intro (And.intro rfl (And.intro rfl (Nat.le_of_ble_eq_true rfl))) (And.intro (ll_20 hL) (Exists.intro d8 (Exists.intro 0 (Exists.intro 0 (Exists.intro (QV P11) (And.intro v12.2.1 (And.intro (And.intro v12.1 (And.intro (Nat.zero_le _) (Nat.zero_le _))) (eQV (fun h9 e14 => have v13 := v12.2.2 h9 e14; have hL := v13.1; have v13 := v13.2; (show wp mX6_readOne d rc rs Q 59 [some (vr 20)] [] h9 from xGo k_X6_readOne_59 (show wp mX6_readOne d rc rs Q 80 [some (vr 20)] [] h9 from xV k_X6_readOne_80 (And.intro rfl v13))))))))))))))))))))) (fun c17 => have v19 := v30.2 c17; (show wp mX6_readOne d rc rs Q 76 [some (vr 20)] [] h from xcV k_X6_readOne_76 s_X6_readOne_77 (Exists.elim v19 (fun P3 v4 => (Exists.intro [] (Exists.intro 20 (Exists.intro [] (And.intro (And.intro rfl (And.intro rfl (Nat.le_of_ble_eq_true rfl))) (And.intro (ll_20 hL) (Exists.intro 0 (Exists.intro 0 (Exists.intro 0 (Exists.intro (QV P3) (And.intro v4.2.1 (And.intro (And.intro v4.1 (And.intro (Nat.zero_le _) (Nat.zero_le _))) (eQV (fun h1 e6 => have v5 := v4.2.2 h1 e6; have hL := v5.1; have v5 := v5.2; (show wp mX6_readOne d rc rs Q 80 [some (vr 20)] [] h1 from xV k_X6_readOne_80 (And.intro rfl v5))))))))))))))))))))))))))))
theorem e_X6_readOne {d : Nat} {mc ms : Nat} {Q : Option AV → AH → Prop} {h : AH}  (hL : LayL h) (hv : (((iH h 20 2) = 1 → (∃ P45 : AH → Prop, 2 + 1 ≤ d ∧ Ct 2 0 0 mX6_readWord [vr 20] h (QV P45) ∧ ∀ h43 : AH, P45 h43 → LayL h43 ∧ Q none h43)) ∧ ((iH h 20 2) ≠ 1 → (((iH h 20 2) = 4 → (∃ d31 : Nat, (∃ P34 : AH → Prop, d31 + 1 ≤ d ∧ Ct d31 0 0 mX6_readNot [vr 20] h (QV P34) ∧ ∀ h32 : AH, P34 h32 → LayL h32 ∧ Q none h32))) ∧ ((iH h 20 2) ≠ 4 → (((iH h 20 2) = 34 → (∃ P22 : AH → Prop, 2 + 1 ≤ d ∧ Ct 2 0 0 mX6_readPhrase [vr 20] h (QV P22) ∧ ∀ h20 : AH, P22 h20 → LayL h20 ∧ Q none h20)) ∧ ((iH h 20 2) ≠ 34 → (((iH h 20 2) = 40 → (∃ d8 : Nat, (∃ P11 : AH → Prop, d8 + 1 ≤ d ∧ Ct d8 0 0 mX6_readBrackets [vr 20] h (QV P11) ∧ ∀ h9 : AH, P11 h9 → LayL h9 ∧ Q none h9))) ∧ ((iH h 20 2) ≠ 40 → (∃ P3 : AH → Prop, 0 + 1 ≤ d ∧ Ct 0 0 0 mX6_refuse [vr 20] h (QV P3) ∧ ∀ h1 : AH, P3 h1 → LayL h1 ∧ Q none h1)))))))))) : Ct d mc ms mX6_readOne [vr 20] h Q := Ct.of (by decide +kernel) (Nat.le_of_ble_eq_true rfl) (t_X6_readOne_0 hL hv)
def b_X6_readBoth_0 : List IE := [(.aload_n 0, 1, 0, 0, 0, 0)]
theorem k_X6_readBoth_0 : ckB mX6_readBoth 6 0 b_X6_readBoth_0 1 = true := by decide +kernel
def b_X6_readBoth_4 : List IE := [(.iconst 0, 1, 0, 0, 0, 0), (.istore_n 1, 1, 0, 0, 1, 0)]
theorem k_X6_readBoth_4 : ckB mX6_readBoth 6 4 b_X6_readBoth_4 6 = true := by decide +kernel
def b_X6_readBoth_6 : List IE := [(.iload_n 1, 1, 0, 0, 1, 0), (.bipush 64, 2, 64, 0, 0, 0)]
theorem k_X6_readBoth_6 : ckIc mX6_readBoth 6 6 b_X6_readBoth_6 9 3 43 52 12 = true := by decide +kernel
def b_X6_readBoth_12 : List IE := [(.aload_n 0, 1, 0, 0, 0, 0), (.getfield 28, 3, 0, 6, 7, 0), (.iconst (-1), 1, (-1), 0, 0, 0)]
theorem k_X6_readBoth_12 : ckIc mX6_readBoth 6 12 b_X6_readBoth_12 17 1 35 52 20 = true := by decide +kernel
def b_X6_readBoth_20 : List IE := [(.aload_n 0, 1, 0, 0, 0, 0), (.getfield 40, 3, 0, 6, 2, 0), (.iconst 3, 1, 3, 0, 0, 0)]
theorem k_X6_readBoth_20 : ckIc mX6_readBoth 6 20 b_X6_readBoth_20 25 1 27 52 28 = true := by decide +kernel
def b_X6_readBoth_28 : List IE := [(.aload_n 0, 1, 0, 0, 0, 0)]
theorem k_X6_readBoth_28 : ckB mX6_readBoth 6 28 b_X6_readBoth_28 29 = true := by decide +kernel
def b_X6_readBoth_32 : List IE := [(.aload_n 0, 1, 0, 0, 0, 0)]
theorem k_X6_readBoth_32 : ckB mX6_readBoth 6 32 b_X6_readBoth_32 33 = true := by decide +kernel
def b_X6_readBoth_36 : List IE := [(.aload_n 0, 1, 0, 0, 0, 0), (.getfield 15, 3, 0, 6, 1, 1), (.iconst 4, 1, 4, 0, 0, 0), (.iconst 0, 1, 0, 0, 0, 0), (.iconst 0, 1, 0, 0, 0, 0)]
theorem k_X6_readBoth_36 : ckB mX6_readBoth 6 36 b_X6_readBoth_36 43 = true := by decide +kernel
def b_X6_readBoth_46 : List IE := [(.iinc 1 1, 3, 1, 0, 1, 0)]
theorem k_X6_readBoth_46 : ckGo mX6_readBoth 6 46 b_X6_readBoth_46 49 (-43) 6 = true := by decide +kernel
def b_X6_readBoth_52 : List IE := []
theorem k_X6_readBoth_52 : ckV mX6_readBoth 6 52 b_X6_readBoth_52 52 = true := by decide +kernel
theorem s_X6_readBoth_1 : cV mX6_readBoth 1 mX6_readOne 82 0 6 := ⟨by decide +kernel, ⟨ml_X6_readOne, li_RX6_82, im_X6_readOne, se_X6_readOne⟩, ⟨by decide +kernel, by decide +kernel⟩, by decide +kernel⟩
theorem s_X6_readBoth_29 : cV mX6_readBoth 29 mX6_next 34 0 6 := ⟨by decide +kernel, ⟨ml_X6_next, li_RX6_34, im_X6_next, se_X6_next⟩, ⟨by decide +kernel, by decide +kernel⟩, by decide +kernel⟩
theorem s_X6_readBoth_33 : cV mX6_readBoth 33 mX6_readOne 82 0 6 := ⟨by decide +kernel, ⟨ml_X6_readOne, li_RX6_82, im_X6_readOne, se_X6_readOne⟩, ⟨by decide +kernel, by decide +kernel⟩, by decide +kernel⟩
theorem s_X6_readBoth_43 : cV mX6_readBoth 43 mX5_put 78 3 5 := ⟨by decide +kernel, ⟨ml_X5_put, li_RX6_78, im_X5_put, se_X5_put⟩, ⟨by decide +kernel, by decide +kernel⟩, by decide +kernel⟩
theorem t_X6_readBoth_0 {d : Nat} {rc rs : Nat} {Q : Option AV → AH → Prop} {h : AH}  (hL : LayL h) (hv : (∃ d1 : Nat, (∃ P4 : AH → Prop, d1 + 1 ≤ d ∧ Ct d1 0 0 mX6_readOne [vr 20] h (QV P4) ∧ ∀ h2 : AH, P4 h2 → LayL h2 ∧ wp mX6_readBoth d rc rs Q 6 [some (vr 20), some (vi 0)] [] h2))) : wp mX6_readBoth d rc rs Q 0 [some (vr 20), none] [] h :=
  (show wp mX6_readBoth d rc rs Q 0 [some (vr 20), none] [] h from xcV k_X6_readBoth_0 s_X6_readBoth_1 (Exists.elim hv (fun d1 v5 => Exists.elim v5 (fun P4 v5 => (Exists.intro [] (Exists.intro 20 (Exists.intro [] (And.intro (And.intro rfl (And.intro rfl (Nat.le_of_ble_eq_true rfl))) (And.intro (ll_20 hL) (Exists.intro d1 (Exists.intro 0 (Exists.intro 0 (Exists.intro (QV P4) (And.intro v5.2.1 (And.intro (And.intro v5.1 (And.intro (Nat.zero_le _) (Nat.zero_le _))) (eQV (fun h2 e7 => have v6 := v5.2.2 h2 e7; have hL := v6.1; have v6 := v6.2; (show wp mX6_readBoth d rc rs Q 4 [some (vr 20), none] [] h2 from xB k_X6_readBoth_4 (And.intro rfl v6)))))))))))))))))))
theorem e_X6_readBoth {d : Nat} {mc ms : Nat} {Q : Option AV → AH → Prop} {h : AH}  (hL : LayL h) (hv : (∃ d1 : Nat, (∃ P4 : AH → Prop, d1 + 1 ≤ d ∧ Ct d1 0 0 mX6_readOne [vr 20] h (QV P4) ∧ ∀ h2 : AH, P4 h2 → LayL h2 ∧ wp mX6_readBoth d mc ms Q 6 [some (vr 20), some (vi 0)] [] h2))) : Ct d mc ms mX6_readBoth [vr 20] h Q := Ct.of (by decide +kernel) (Nat.le_of_ble_eq_true rfl) (t_X6_readBoth_0 hL hv)
theorem t_X6_readBoth_6 {d : Nat} {rc rs : Nat} {Q : Option AV → AH → Prop} {h : AH} {x1 : Int} (hL : LayL h) (hv : ((64 ≤ x1 → Q none h) ∧ (x1 < 64 → (((iH h 20 7) ≠ (-1) → Q none h) ∧ ((iH h 20 7) = (-1) → (((iH h 20 2) ≠ 3 → Q none h) ∧ ((iH h 20 2) = 3 → (∃ P15 : AH → Prop, 1 + 1 ≤ d ∧ Ct 1 0 0 mX6_next [vr 20] h (QV P15) ∧ ∀ h13 : AH, P15 h13 → LayL h13 ∧ (∃ d16 : Nat, (∃ P19 : AH → Prop, d16 + 1 ≤ d ∧ Ct d16 0 0 mX6_readOne [vr 20] h13 (QV P19) ∧ ∀ h17 : AH, P19 h17 → LayL h17 ∧ (∃ q20, (rH h17 20 1 = some q20 ∧ iQu q20) ∧ (∃ P24 : AH → Prop, 0 + 1 ≤ d ∧ Ct 0 0 0 mX5_put [vr q20, vi 4, vi 0, vi 0] h17 (QV P24) ∧ ∀ h22 : AH, P24 h22 → LayL h22 ∧ (-2147483648 ≤ (x1 + 1) ∧ (x1 + 1) < 2147483648) ∧ wp mX6_readBoth d rc rs Q 6 [some (vr 20), some (vi (x1 + 1))] [] h22)))))))))))) : wp mX6_readBoth d rc rs Q 6 [some (vr 20), some (vi x1)] [] h :=
  (show wp mX6_readBoth d rc rs Q 6 [some (vr 20), some (vi x1)] [] h from xIc k_X6_readBoth_6 (And.intro (fun c1 => have v3 := hv.1 c1; (show wp mX6_readBoth d rc rs Q 52 [some (vr 20), some (vi x1)] [] h from xV k_X6_readBoth_52 (And.intro rfl v3))) (fun c2 => have v4 := hv.2 (Int.not_le.mp c2); (show wp mX6_readBoth d rc rs Q 12 [some (vr 20), some (vi x1)] [] h from xIc k_X6_readBoth_12 (And.intro (ll_20 hL) (And.intro (fun c5 => have v7 := v4.1 c5; (show wp mX6_readBoth d rc rs Q 52 [some (vr 20), some (vi x1)] [] h from xV k_X6_readBoth_52 (And.intro rfl v7))) (fun c6 => have v8 := v4.2 (Decidable.not_not.mp c6); (show wp mX6_readBoth d rc rs Q 20 [some (vr 20), some (vi x1)] [] h from xIc k_X6_readBoth_20 (And.intro (ll_20 hL) (And.intro (fun c9 => have v11 := v8.1 c9; (show wp mX6_readBoth d rc rs Q 52 [some (vr 20), some (vi x1)] [] h from xV k_X6_readBoth_52 (And.intro rfl v11))) (fun c10 => have v12 := v8.2 (Decidable.not_not.mp c10); (show wp mX6_readBoth d rc rs Q 28 [some (vr 20), some (vi x1)] [] h from xcV k_X6_readBoth_28 s_X6_readBoth_29 (Exists.elim v12 (fun P15 v37 => (Exists.intro [] (Exists.intro 20 (Exists.intro [] (And.intro (And.intro rfl (And.intro rfl (Nat.le_of_ble_eq_true rfl))) (And.intro (ll_20 hL) (Exists.intro 1 (Exists.intro 0 (Exists.intro 0 (Exists.intro (QV P15) (And.intro v37.2.1 (And.intro (And.intro v37.1 (And.intro (Nat.zero_le _) (Nat.zero_le _))) (eQV (fun h13 e39 => have v38 := v37.2.2 h13 e39; have hL := v38.1; have v38 := v38.2; (show wp mX6_readBoth d rc rs Q 32 [some (vr 20), some (vi x1)] [] h13 from xcV k_X6_readBoth_32 s_X6_readBoth_33 (Exists.elim v38 (fun d16 v33 => Exists.elim v33 (fun P19 v33 => (Exists.intro [] (Exists.intro 20 (Exists.intro [] (And.intro (And.intro rfl (And.intro rfl (Nat.le_of_ble_eq_true rfl))) (And.intro (ll_20 hL) (Exists.intro d16 (Exists.intro 0 (Exists.intro 0 (Exists.intro (QV P19) (And.intro v33.2.1 (And.intro (And.intro v33.1 (And.intro (Nat.zero_le _) (Nat.zero_le _))) (eQV (fun h17 e35 => have v34 := v33.2.2 h17 e35; have hL := v34.1; have v34 := v34.2; (show wp mX6_readBoth d rc rs Q 36 [some (vr 20), some (vi x1)] [] h17 from xcV k_X6_readBoth_36 s_X6_readBoth_43 (And.intro (ll_20 hL) (Exists.elim v34 (fun q20 v31 => have c21 := v31.1; have v32 := v31.2; (Exists.intro _ (And.intro c21.1 (Exists.elim v32 (fun P24 v27 => (Exists.intro [vi 4, vi 0, vi 0] (Exists.intro q20 (Exists.intro [] (And.intro (And.intro rfl (And.intro rfl (Nat.le_of_ble_eq_true rfl))) (And.intro (qu_o hL c21.2) (Exists.intro 0 (Exists.intro 0 (Exists.intro 0 (Exists.intro (QV P24) (And.intro v27.2.1 (And.intro (And.intro v27.1 (And.intro (Nat.zero_le _) (Nat.zero_le _))) (eQV (fun h22 e29 => have v28 := v27.2.2 h22 e29; have hL := v28.1; have v28 := v28.2; (show wp mX6_readBoth d rc rs Q 46 [some (vr 20), some (vi x1)] [] h22 from xGo k_X6_readBoth_46 (have c25 := v28.1; have v26 := v28.2; (And.intro c25 (And.intro rfl v26)))))))))))))))))))))))))))))))))))))))))))))))))))))))))))))))))))))
def b_X6_readEither_0 : List IE := [(.aload_n 0, 1, 0, 0, 0, 0)]
theorem k_X6_readEither_0 : ckB mX6_readEither 6 0 b_X6_readEither_0 1 = true := by decide +kernel
def b_X6_readEither_4 : List IE := [(.iconst 0, 1, 0, 0, 0, 0), (.istore_n 1, 1, 0, 0, 1, 0)]
theorem k_X6_readEither_4 : ckB mX6_readEither 6 4 b_X6_readEither_4 6 = true := by decide +kernel
def b_X6_readEither_6 : List IE := [(.iload_n 1, 1, 0, 0, 1, 0), (.bipush 64, 2, 64, 0, 0, 0)]
theorem k_X6_readEither_6 : ckIc mX6_readEither 6 6 b_X6_readEither_6 9 3 43 52 12 = true := by decide +kernel
def b_X6_readEither_12 : List IE := [(.aload_n 0, 1, 0, 0, 0, 0), (.getfield 28, 3, 0, 6, 7, 0), (.iconst (-1), 1, (-1), 0, 0, 0)]
theorem k_X6_readEither_12 : ckIc mX6_readEither 6 12 b_X6_readEither_12 17 1 35 52 20 = true := by decide +kernel
def b_X6_readEither_20 : List IE := [(.aload_n 0, 1, 0, 0, 0, 0), (.getfield 40, 3, 0, 6, 2, 0), (.iconst 2, 1, 2, 0, 0, 0)]
theorem k_X6_readEither_20 : ckIc mX6_readEither 6 20 b_X6_readEither_20 25 1 27 52 28 = true := by decide +kernel
def b_X6_readEither_28 : List IE := [(.aload_n 0, 1, 0, 0, 0, 0)]
theorem k_X6_readEither_28 : ckB mX6_readEither 6 28 b_X6_readEither_28 29 = true := by decide +kernel
def b_X6_readEither_32 : List IE := [(.aload_n 0, 1, 0, 0, 0, 0)]
theorem k_X6_readEither_32 : ckB mX6_readEither 6 32 b_X6_readEither_32 33 = true := by decide +kernel
def b_X6_readEither_36 : List IE := [(.aload_n 0, 1, 0, 0, 0, 0), (.getfield 15, 3, 0, 6, 1, 1), (.iconst 5, 1, 5, 0, 0, 0), (.iconst 0, 1, 0, 0, 0, 0), (.iconst 0, 1, 0, 0, 0, 0)]
theorem k_X6_readEither_36 : ckB mX6_readEither 6 36 b_X6_readEither_36 43 = true := by decide +kernel
def b_X6_readEither_46 : List IE := [(.iinc 1 1, 3, 1, 0, 1, 0)]
theorem k_X6_readEither_46 : ckGo mX6_readEither 6 46 b_X6_readEither_46 49 (-43) 6 = true := by decide +kernel
def b_X6_readEither_52 : List IE := []
theorem k_X6_readEither_52 : ckV mX6_readEither 6 52 b_X6_readEither_52 52 = true := by decide +kernel
theorem s_X6_readEither_1 : cV mX6_readEither 1 mX6_readBoth 75 0 6 := ⟨by decide +kernel, ⟨ml_X6_readBoth, li_RX6_75, im_X6_readBoth, se_X6_readBoth⟩, ⟨by decide +kernel, by decide +kernel⟩, by decide +kernel⟩
theorem s_X6_readEither_29 : cV mX6_readEither 29 mX6_next 34 0 6 := ⟨by decide +kernel, ⟨ml_X6_next, li_RX6_34, im_X6_next, se_X6_next⟩, ⟨by decide +kernel, by decide +kernel⟩, by decide +kernel⟩
theorem s_X6_readEither_33 : cV mX6_readEither 33 mX6_readBoth 75 0 6 := ⟨by decide +kernel, ⟨ml_X6_readBoth, li_RX6_75, im_X6_readBoth, se_X6_readBoth⟩, ⟨by decide +kernel, by decide +kernel⟩, by decide +kernel⟩
theorem s_X6_readEither_43 : cV mX6_readEither 43 mX5_put 78 3 5 := ⟨by decide +kernel, ⟨ml_X5_put, li_RX6_78, im_X5_put, se_X5_put⟩, ⟨by decide +kernel, by decide +kernel⟩, by decide +kernel⟩
theorem t_X6_readEither_0 {d : Nat} {rc rs : Nat} {Q : Option AV → AH → Prop} {h : AH}  (hL : LayL h) (hv : (∃ d1 : Nat, (∃ P4 : AH → Prop, d1 + 1 ≤ d ∧ Ct d1 0 0 mX6_readBoth [vr 20] h (QV P4) ∧ ∀ h2 : AH, P4 h2 → LayL h2 ∧ wp mX6_readEither d rc rs Q 6 [some (vr 20), some (vi 0)] [] h2))) : wp mX6_readEither d rc rs Q 0 [some (vr 20), none] [] h :=
  (show wp mX6_readEither d rc rs Q 0 [some (vr 20), none] [] h from xcV k_X6_readEither_0 s_X6_readEither_1 (Exists.elim hv (fun d1 v5 => Exists.elim v5 (fun P4 v5 => (Exists.intro [] (Exists.intro 20 (Exists.intro [] (And.intro (And.intro rfl (And.intro rfl (Nat.le_of_ble_eq_true rfl))) (And.intro (ll_20 hL) (Exists.intro d1 (Exists.intro 0 (Exists.intro 0 (Exists.intro (QV P4) (And.intro v5.2.1 (And.intro (And.intro v5.1 (And.intro (Nat.zero_le _) (Nat.zero_le _))) (eQV (fun h2 e7 => have v6 := v5.2.2 h2 e7; have hL := v6.1; have v6 := v6.2; (show wp mX6_readEither d rc rs Q 4 [some (vr 20), none] [] h2 from xB k_X6_readEither_4 (And.intro rfl v6)))))))))))))))))))
theorem e_X6_readEither {d : Nat} {mc ms : Nat} {Q : Option AV → AH → Prop} {h : AH}  (hL : LayL h) (hv : (∃ d1 : Nat, (∃ P4 : AH → Prop, d1 + 1 ≤ d ∧ Ct d1 0 0 mX6_readBoth [vr 20] h (QV P4) ∧ ∀ h2 : AH, P4 h2 → LayL h2 ∧ wp mX6_readEither d mc ms Q 6 [some (vr 20), some (vi 0)] [] h2))) : Ct d mc ms mX6_readEither [vr 20] h Q := Ct.of (by decide +kernel) (Nat.le_of_ble_eq_true rfl) (t_X6_readEither_0 hL hv)
theorem t_X6_readEither_6 {d : Nat} {rc rs : Nat} {Q : Option AV → AH → Prop} {h : AH} {x1 : Int} (hL : LayL h) (hv : ((64 ≤ x1 → Q none h) ∧ (x1 < 64 → (((iH h 20 7) ≠ (-1) → Q none h) ∧ ((iH h 20 7) = (-1) → (((iH h 20 2) ≠ 2 → Q none h) ∧ ((iH h 20 2) = 2 → (∃ P15 : AH → Prop, 1 + 1 ≤ d ∧ Ct 1 0 0 mX6_next [vr 20] h (QV P15) ∧ ∀ h13 : AH, P15 h13 → LayL h13 ∧ (∃ d16 : Nat, (∃ P19 : AH → Prop, d16 + 1 ≤ d ∧ Ct d16 0 0 mX6_readBoth [vr 20] h13 (QV P19) ∧ ∀ h17 : AH, P19 h17 → LayL h17 ∧ (∃ q20, (rH h17 20 1 = some q20 ∧ iQu q20) ∧ (∃ P24 : AH → Prop, 0 + 1 ≤ d ∧ Ct 0 0 0 mX5_put [vr q20, vi 5, vi 0, vi 0] h17 (QV P24) ∧ ∀ h22 : AH, P24 h22 → LayL h22 ∧ (-2147483648 ≤ (x1 + 1) ∧ (x1 + 1) < 2147483648) ∧ wp mX6_readEither d rc rs Q 6 [some (vr 20), some (vi (x1 + 1))] [] h22)))))))))))) : wp mX6_readEither d rc rs Q 6 [some (vr 20), some (vi x1)] [] h :=
  (show wp mX6_readEither d rc rs Q 6 [some (vr 20), some (vi x1)] [] h from xIc k_X6_readEither_6 (And.intro (fun c1 => have v3 := hv.1 c1; (show wp mX6_readEither d rc rs Q 52 [some (vr 20), some (vi x1)] [] h from xV k_X6_readEither_52 (And.intro rfl v3))) (fun c2 => have v4 := hv.2 (Int.not_le.mp c2); (show wp mX6_readEither d rc rs Q 12 [some (vr 20), some (vi x1)] [] h from xIc k_X6_readEither_12 (And.intro (ll_20 hL) (And.intro (fun c5 => have v7 := v4.1 c5; (show wp mX6_readEither d rc rs Q 52 [some (vr 20), some (vi x1)] [] h from xV k_X6_readEither_52 (And.intro rfl v7))) (fun c6 => have v8 := v4.2 (Decidable.not_not.mp c6); (show wp mX6_readEither d rc rs Q 20 [some (vr 20), some (vi x1)] [] h from xIc k_X6_readEither_20 (And.intro (ll_20 hL) (And.intro (fun c9 => have v11 := v8.1 c9; (show wp mX6_readEither d rc rs Q 52 [some (vr 20), some (vi x1)] [] h from xV k_X6_readEither_52 (And.intro rfl v11))) (fun c10 => have v12 := v8.2 (Decidable.not_not.mp c10); (show wp mX6_readEither d rc rs Q 28 [some (vr 20), some (vi x1)] [] h from xcV k_X6_readEither_28 s_X6_readEither_29 (Exists.elim v12 (fun P15 v37 => (Exists.intro [] (Exists.intro 20 (Exists.intro [] (And.intro (And.intro rfl (And.intro rfl (Nat.le_of_ble_eq_true rfl))) (And.intro (ll_20 hL) (Exists.intro 1 (Exists.intro 0 (Exists.intro 0 (Exists.intro (QV P15) (And.intro v37.2.1 (And.intro (And.intro v37.1 (And.intro (Nat.zero_le _) (Nat.zero_le _))) (eQV (fun h13 e39 => have v38 := v37.2.2 h13 e39; have hL := v38.1; have v38 := v38.2; (show wp mX6_readEither d rc rs Q 32 [some (vr 20), some (vi x1)] [] h13 from xcV k_X6_readEither_32 s_X6_readEither_33 (Exists.elim v38 (fun d16 v33 => Exists.elim v33 (fun P19 v33 => (Exists.intro [] (Exists.intro 20 (Exists.intro [] (And.intro (And.intro rfl (And.intro rfl (Nat.le_of_ble_eq_true rfl))) (And.intro (ll_20 hL) (Exists.intro d16 (Exists.intro 0 (Exists.intro 0 (Exists.intro (QV P19) (And.intro v33.2.1 (And.intro (And.intro v33.1 (And.intro (Nat.zero_le _) (Nat.zero_le _))) (eQV (fun h17 e35 => have v34 := v33.2.2 h17 e35; have hL := v34.1; have v34 := v34.2; (show wp mX6_readEither d rc rs Q 36 [some (vr 20), some (vi x1)] [] h17 from xcV k_X6_readEither_36 s_X6_readEither_43 (And.intro (ll_20 hL) (Exists.elim v34 (fun q20 v31 => have c21 := v31.1; have v32 := v31.2; (Exists.intro _ (And.intro c21.1 (Exists.elim v32 (fun P24 v27 => (Exists.intro [vi 5, vi 0, vi 0] (Exists.intro q20 (Exists.intro [] (And.intro (And.intro rfl (And.intro rfl (Nat.le_of_ble_eq_true rfl))) (And.intro (qu_o hL c21.2) (Exists.intro 0 (Exists.intro 0 (Exists.intro 0 (Exists.intro (QV P24) (And.intro v27.2.1 (And.intro (And.intro v27.1 (And.intro (Nat.zero_le _) (Nat.zero_le _))) (eQV (fun h22 e29 => have v28 := v27.2.2 h22 e29; have hL := v28.1; have v28 := v28.2; (show wp mX6_readEither d rc rs Q 46 [some (vr 20), some (vi x1)] [] h22 from xGo k_X6_readEither_46 (have c25 := v28.1; have v26 := v28.2; (And.intro c25 (And.intro rfl v26)))))))))))))))))))))))))))))))))))))))))))))))))))))))))))))))))))))
def b_X6_readNot_0 : List IE := [(.aload_n 0, 1, 0, 0, 0, 0), (.getfield 24, 3, 0, 6, 6, 0), (.iconst 4, 1, 4, 0, 0, 0)]
theorem k_X6_readNot_0 : ckIc mX6_readNot 6 0 b_X6_readNot_0 5 2 8 13 8 = true := by decide +kernel
def b_X6_readNot_8 : List IE := [(.aload_n 0, 1, 0, 0, 0, 0)]
theorem k_X6_readNot_8 : ckB mX6_readNot 6 8 b_X6_readNot_8 9 = true := by decide +kernel
def b_X6_readNot_12 : List IE := []
theorem k_X6_readNot_12 : ckV mX6_readNot 6 12 b_X6_readNot_12 12 = true := by decide +kernel
def b_X6_readNot_13 : List IE := [(.aload_n 0, 1, 0, 0, 0, 0), (.dup, 1, 0, 0, 0, 0), (.getfield 24, 3, 0, 6, 6, 0), (.iconst 1, 1, 1, 0, 0, 0), (.iadd, 1, 0, 0, 0, 0), (.putfield 24, 3, 0, 6, 6, 0), (.aload_n 0, 1, 0, 0, 0, 0)]
theorem k_X6_readNot_13 : ckB mX6_readNot 6 13 b_X6_readNot_13 24 = true := by decide +kernel
def b_X6_readNot_27 : List IE := [(.aload_n 0, 1, 0, 0, 0, 0)]
theorem k_X6_readNot_27 : ckB mX6_readNot 6 27 b_X6_readNot_27 28 = true := by decide +kernel
def b_X6_readNot_31 : List IE := [(.aload_n 0, 1, 0, 0, 0, 0), (.dup, 1, 0, 0, 0, 0), (.getfield 24, 3, 0, 6, 6, 0), (.iconst 1, 1, 1, 0, 0, 0), (.isub, 1, 0, 0, 0, 0), (.putfield 24, 3, 0, 6, 6, 0), (.aload_n 0, 1, 0, 0, 0, 0), (.getfield 15, 3, 0, 6, 1, 1), (.iconst 3, 1, 3, 0, 0, 0), (.iconst 0, 1, 0, 0, 0, 0), (.iconst 0, 1, 0, 0, 0, 0)]
theorem k_X6_readNot_31 : ckB mX6_readNot 6 31 b_X6_readNot_31 48 = true := by decide +kernel
def b_X6_readNot_51 : List IE := []
theorem k_X6_readNot_51 : ckV mX6_readNot 6 51 b_X6_readNot_51 51 = true := by decide +kernel
theorem s_X6_readNot_9 : cV mX6_readNot 9 mX6_refuse 43 0 6 := ⟨by decide +kernel, ⟨ml_X6_refuse, li_RX6_43, im_X6_refuse, se_X6_refuse⟩, ⟨by decide +kernel, by decide +kernel⟩, by decide +kernel⟩
theorem s_X6_readNot_24 : cV mX6_readNot 24 mX6_next 34 0 6 := ⟨by decide +kernel, ⟨ml_X6_next, li_RX6_34, im_X6_next, se_X6_next⟩, ⟨by decide +kernel, by decide +kernel⟩, by decide +kernel⟩
theorem s_X6_readNot_28 : cV mX6_readNot 28 mX6_readOne 82 0 6 := ⟨by decide +kernel, ⟨ml_X6_readOne, li_RX6_82, im_X6_readOne, se_X6_readOne⟩, ⟨by decide +kernel, by decide +kernel⟩, by decide +kernel⟩
theorem s_X6_readNot_48 : cV mX6_readNot 48 mX5_put 78 3 5 := ⟨by decide +kernel, ⟨ml_X5_put, li_RX6_78, im_X5_put, se_X5_put⟩, ⟨by decide +kernel, by decide +kernel⟩, by decide +kernel⟩
theorem t_X6_readNot_0 {d : Nat} {rc rs : Nat} {Q : Option AV → AH → Prop} {h : AH}  (hL : LayL h) (hv : (((iH h 20 6) < 4 → (-2147483648 ≤ (iH h 20 6 + 1) ∧ (iH h 20 6 + 1) < 2147483648) ∧ (∃ P8 : AH → Prop, 1 + 1 ≤ d ∧ Ct 1 0 0 mX6_next [vr 20] (sI h 20 6 (iH h 20 6 + 1)) (QV P8) ∧ ∀ h6 : AH, P8 h6 → LayL h6 ∧ (∃ d9 : Nat, (∃ P12 : AH → Prop, d9 + 1 ≤ d ∧ Ct d9 0 0 mX6_readOne [vr 20] h6 (QV P12) ∧ ∀ h10 : AH, P12 h10 → LayL h10 ∧ (-2147483648 ≤ (iH h10 20 6 - 1) ∧ (iH h10 20 6 - 1) < 2147483648) ∧ (∃ q14, (rH (sI h10 20 6 (iH h10 20 6 - 1)) 20 1 = some q14 ∧ iQu q14) ∧ (∃ P18 : AH → Prop, 0 + 1 ≤ d ∧ Ct 0 0 0 mX5_put [vr q14, vi 3, vi 0, vi 0] (sI h10 20 6 (iH h10 20 6 - 1)) (QV P18) ∧ ∀ h16 : AH, P18 h16 → LayL h16 ∧ Q none h16)))))) ∧ (4 ≤ (iH h 20 6) → (∃ P37 : AH → Prop, 0 + 1 ≤ d ∧ Ct 0 0 0 mX6_refuse [vr 20] h (QV P37) ∧ ∀ h35 : AH, P37 h35 → LayL h35 ∧ Q none h35)))) : wp mX6_readNot d rc rs Q 0 [some (vr 20)] [] h :=
  (show wp mX6_readNot d rc rs Q 0 [some (vr 20)] [] h from xIc k_X6_readNot_0 (And.intro (ll_20 hL) (And.intro (fun c1 => have v3 := hv.1 c1; (show wp mX6_readNot d rc rs Q 13 [some (vr 20)] [] h from xcV k_X6_readNot_13 s_X6_readNot_24 (And.intro rfl (And.intro (ll_20 hL) (have c5 := v3.1; have v34 := v3.2; (And.intro c5 (And.intro (ll_20 hL) (Exists.elim v34 (fun P8 v30 => (Exists.intro [] (Exists.intro 20 (Exists.intro [] (And.intro (And.intro rfl (And.intro rfl (Nat.le_of_ble_eq_true rfl))) (And.intro (ll_20 hL) (Exists.intro 1 (Exists.intro 0 (Exists.intro 0 (Exists.intro (QV P8) (And.intro v30.2.1 (And.intro (And.intro v30.1 (And.intro (Nat.zero_le _) (Nat.zero_le _))) (eQV (fun h6 e32 => have v31 := v30.2.2 h6 e32; have hL := v31.1; have v31 := v31.2; (show wp mX6_readNot d rc rs Q 27 [some (vr 20)] [] h6 from xcV k_X6_readNot_27 s_X6_readNot_28 (Exists.elim v31 (fun d9 v26 => Exists.elim v26 (fun P12 v26 => (Exists.intro [] (Exists.intro 20 (Exists.intro [] (And.intro (And.intro rfl (And.intro rfl (Nat.le_of_ble_eq_true rfl))) (And.intro (ll_20 hL) (Exists.intro d9 (Exists.intro 0 (Exists.intro 0 (Exists.intro (QV P12) (And.intro v26.2.1 (And.intro (And.intro v26.1 (And.intro (Nat.zero_le _) (Nat.zero_le _))) (eQV (fun h10 e28 => have v27 := v26.2.2 h10 e28; have hL := v27.1; have v27 := v27.2; (show wp mX6_readNot d rc rs Q 31 [some (vr 20)] [] h10 from xcV k_X6_readNot_31 s_X6_readNot_48 (And.intro rfl (And.intro (ll_20 hL) (have c13 := v27.1; have v25 := v27.2; (And.intro c13 (And.intro (ll_20 hL) (And.intro (ll_20 hL) (Exists.elim v25 (fun q14 v23 => have c15 := v23.1; have v24 := v23.2; (Exists.intro _ (And.intro c15.1 (Exists.elim v24 (fun P18 v19 => (Exists.intro [vi 3, vi 0, vi 0] (Exists.intro q14 (Exists.intro [] (And.intro (And.intro rfl (And.intro rfl (Nat.le_of_ble_eq_true rfl))) (And.intro (qu_o hL c15.2) (Exists.intro 0 (Exists.intro 0 (Exists.intro 0 (Exists.intro (QV P18) (And.intro v19.2.1 (And.intro (And.intro v19.1 (And.intro (Nat.zero_le _) (Nat.zero_le _))) (eQV (fun h16 e21 => have v20 := v19.2.2 h16 e21; have hL := v20.1; have v20 := v20.2; (show wp mX6_readNot d rc rs Q 51 [some (vr 20)] [] h16 from xV k_X6_readNot_51 (And.intro rfl v20))))))))))))))))))))))))))))))))))))))))))))))))))))))))))))))))))) (fun c2 => have v4 := hv.2 (Int.not_lt.mp c2); (show wp mX6_readNot d rc rs Q 8 [some (vr 20)] [] h from xcV k_X6_readNot_8 s_X6_readNot_9 (Exists.elim v4 (fun P37 v38 => (Exists.intro [] (Exists.intro 20 (Exists.intro [] (And.intro (And.intro rfl (And.intro rfl (Nat.le_of_ble_eq_true rfl))) (And.intro (ll_20 hL) (Exists.intro 0 (Exists.intro 0 (Exists.intro 0 (Exists.intro (QV P37) (And.intro v38.2.1 (And.intro (And.intro v38.1 (And.intro (Nat.zero_le _) (Nat.zero_le _))) (eQV (fun h35 e40 => have v39 := v38.2.2 h35 e40; have hL := v39.1; have v39 := v39.2; (show wp mX6_readNot d rc rs Q 12 [some (vr 20)] [] h35 from xV k_X6_readNot_12 (And.intro rfl v39))))))))))))))))))))))
theorem e_X6_readNot {d : Nat} {mc ms : Nat} {Q : Option AV → AH → Prop} {h : AH}  (hL : LayL h) (hv : (((iH h 20 6) < 4 → (-2147483648 ≤ (iH h 20 6 + 1) ∧ (iH h 20 6 + 1) < 2147483648) ∧ (∃ P8 : AH → Prop, 1 + 1 ≤ d ∧ Ct 1 0 0 mX6_next [vr 20] (sI h 20 6 (iH h 20 6 + 1)) (QV P8) ∧ ∀ h6 : AH, P8 h6 → LayL h6 ∧ (∃ d9 : Nat, (∃ P12 : AH → Prop, d9 + 1 ≤ d ∧ Ct d9 0 0 mX6_readOne [vr 20] h6 (QV P12) ∧ ∀ h10 : AH, P12 h10 → LayL h10 ∧ (-2147483648 ≤ (iH h10 20 6 - 1) ∧ (iH h10 20 6 - 1) < 2147483648) ∧ (∃ q14, (rH (sI h10 20 6 (iH h10 20 6 - 1)) 20 1 = some q14 ∧ iQu q14) ∧ (∃ P18 : AH → Prop, 0 + 1 ≤ d ∧ Ct 0 0 0 mX5_put [vr q14, vi 3, vi 0, vi 0] (sI h10 20 6 (iH h10 20 6 - 1)) (QV P18) ∧ ∀ h16 : AH, P18 h16 → LayL h16 ∧ Q none h16)))))) ∧ (4 ≤ (iH h 20 6) → (∃ P37 : AH → Prop, 0 + 1 ≤ d ∧ Ct 0 0 0 mX6_refuse [vr 20] h (QV P37) ∧ ∀ h35 : AH, P37 h35 → LayL h35 ∧ Q none h35)))) : Ct d mc ms mX6_readNot [vr 20] h Q := Ct.of (by decide +kernel) (Nat.le_of_ble_eq_true rfl) (t_X6_readNot_0 hL hv)
def b_X6_readBrackets_0 : List IE := [(.aload_n 0, 1, 0, 0, 0, 0), (.getfield 24, 3, 0, 6, 6, 0), (.iconst 4, 1, 4, 0, 0, 0)]
theorem k_X6_readBrackets_0 : ckIc mX6_readBrackets 6 0 b_X6_readBrackets_0 5 2 8 13 8 = true := by decide +kernel
def b_X6_readBrackets_8 : List IE := [(.aload_n 0, 1, 0, 0, 0, 0)]
theorem k_X6_readBrackets_8 : ckB mX6_readBrackets 6 8 b_X6_readBrackets_8 9 = true := by decide +kernel
def b_X6_readBrackets_12 : List IE := []
theorem k_X6_readBrackets_12 : ckV mX6_readBrackets 6 12 b_X6_readBrackets_12 12 = true := by decide +kernel
def b_X6_readBrackets_13 : List IE := [(.aload_n 0, 1, 0, 0, 0, 0), (.dup, 1, 0, 0, 0, 0), (.getfield 24, 3, 0, 6, 6, 0), (.iconst 1, 1, 1, 0, 0, 0), (.iadd, 1, 0, 0, 0, 0), (.putfield 24, 3, 0, 6, 6, 0), (.aload_n 0, 1, 0, 0, 0, 0)]
theorem k_X6_readBrackets_13 : ckB mX6_readBrackets 6 13 b_X6_readBrackets_13 24 = true := by decide +kernel
def b_X6_readBrackets_27 : List IE := [(.aload_n 0, 1, 0, 0, 0, 0)]
theorem k_X6_readBrackets_27 : ckB mX6_readBrackets 6 27 b_X6_readBrackets_27 28 = true := by decide +kernel
def b_X6_readBrackets_31 : List IE := [(.aload_n 0, 1, 0, 0, 0, 0), (.getfield 40, 3, 0, 6, 2, 0), (.bipush 41, 2, 41, 0, 0, 0)]
theorem k_X6_readBrackets_31 : ckIc mX6_readBrackets 6 31 b_X6_readBrackets_31 37 0 7 44 40 = true := by decide +kernel
def b_X6_readBrackets_40 : List IE := [(.aload_n 0, 1, 0, 0, 0, 0)]
theorem k_X6_readBrackets_40 : ckB mX6_readBrackets 6 40 b_X6_readBrackets_40 41 = true := by decide +kernel
def b_X6_readBrackets_44 : List IE := [(.aload_n 0, 1, 0, 0, 0, 0), (.getfield 28, 3, 0, 6, 7, 0), (.iconst (-1), 1, (-1), 0, 0, 0)]
theorem k_X6_readBrackets_44 : ckIc mX6_readBrackets 6 44 b_X6_readBrackets_44 49 1 17 66 52 = true := by decide +kernel
def b_X6_readBrackets_52 : List IE := [(.aload_n 0, 1, 0, 0, 0, 0), (.dup, 1, 0, 0, 0, 0), (.getfield 24, 3, 0, 6, 6, 0), (.iconst 1, 1, 1, 0, 0, 0), (.isub, 1, 0, 0, 0, 0), (.putfield 24, 3, 0, 6, 6, 0), (.aload_n 0, 1, 0, 0, 0, 0)]
theorem k_X6_readBrackets_52 : ckB mX6_readBrackets 6 52 b_X6_readBrackets_52 63 = true := by decide +kernel
def b_X6_readBrackets_66 : List IE := []
theorem k_X6_readBrackets_66 : ckV mX6_readBrackets 6 66 b_X6_readBrackets_66 66 = true := by decide +kernel
theorem s_X6_readBrackets_9 : cV mX6_readBrackets 9 mX6_refuse 43 0 6 := ⟨by decide +kernel, ⟨ml_X6_refuse, li_RX6_43, im_X6_refuse, se_X6_refuse⟩, ⟨by decide +kernel, by decide +kernel⟩, by decide +kernel⟩
theorem s_X6_readBrackets_24 : cV mX6_readBrackets 24 mX6_next 34 0 6 := ⟨by decide +kernel, ⟨ml_X6_next, li_RX6_34, im_X6_next, se_X6_next⟩, ⟨by decide +kernel, by decide +kernel⟩, by decide +kernel⟩
theorem s_X6_readBrackets_28 : cV mX6_readBrackets 28 mX6_readEither 37 0 6 := ⟨by decide +kernel, ⟨ml_X6_readEither, li_RX6_37, im_X6_readEither, se_X6_readEither⟩, ⟨by decide +kernel, by decide +kernel⟩, by decide +kernel⟩
theorem s_X6_readBrackets_41 : cV mX6_readBrackets 41 mX6_refuse 43 0 6 := ⟨by decide +kernel, ⟨ml_X6_refuse, li_RX6_43, im_X6_refuse, se_X6_refuse⟩, ⟨by decide +kernel, by decide +kernel⟩, by decide +kernel⟩
theorem s_X6_readBrackets_63 : cV mX6_readBrackets 63 mX6_next 34 0 6 := ⟨by decide +kernel, ⟨ml_X6_next, li_RX6_34, im_X6_next, se_X6_next⟩, ⟨by decide +kernel, by decide +kernel⟩, by decide +kernel⟩
theorem t_X6_readBrackets_0 {d : Nat} {rc rs : Nat} {Q : Option AV → AH → Prop} {h : AH}  (hL : LayL h) (hv : (((iH h 20 6) < 4 → (-2147483648 ≤ (iH h 20 6 + 1) ∧ (iH h 20 6 + 1) < 2147483648) ∧ (∃ P8 : AH → Prop, 1 + 1 ≤ d ∧ Ct 1 0 0 mX6_next [vr 20] (sI h 20 6 (iH h 20 6 + 1)) (QV P8) ∧ ∀ h6 : AH, P8 h6 → LayL h6 ∧ (∃ d9 : Nat, (∃ P12 : AH → Prop, d9 + 1 ≤ d ∧ Ct d9 0 0 mX6_readEither [vr 20] h6 (QV P12) ∧ ∀ h10 : AH, P12 h10 → LayL h10 ∧ (((iH h10 20 2) = 41 → (((iH h10 20 7) ≠ (-1) → Q none h10) ∧ ((iH h10 20 7) = (-1) → (-2147483648 ≤ (iH h10 20 6 - 1) ∧ (iH h10 20 6 - 1) < 2147483648) ∧ (∃ P24 : AH → Prop, 1 + 1 ≤ d ∧ Ct 1 0 0 mX6_next [vr 20] (sI h10 20 6 (iH h10 20 6 - 1)) (QV P24) ∧ ∀ h22 : AH, P24 h22 → LayL h22 ∧ Q none h22)))) ∧ ((iH h10 20 2) ≠ 41 → (∃ P32 : AH → Prop, 0 + 1 ≤ d ∧ Ct 0 0 0 mX6_refuse [vr 20] h10 (QV P32) ∧ ∀ h30 : AH, P32 h30 → LayL h30 ∧ (((iH h30 20 7) ≠ (-1) → Q none h30) ∧ ((iH h30 20 7) = (-1) → (-2147483648 ≤ (iH h30 20 6 - 1) ∧ (iH h30 20 6 - 1) < 2147483648) ∧ (∃ P40 : AH → Prop, 1 + 1 ≤ d ∧ Ct 1 0 0 mX6_next [vr 20] (sI h30 20 6 (iH h30 20 6 - 1)) (QV P40) ∧ ∀ h38 : AH, P40 h38 → LayL h38 ∧ Q none h38)))))))))) ∧ (4 ≤ (iH h 20 6) → (∃ P61 : AH → Prop, 0 + 1 ≤ d ∧ Ct 0 0 0 mX6_refuse [vr 20] h (QV P61) ∧ ∀ h59 : AH, P61 h59 → LayL h59 ∧ Q none h59)))) : wp mX6_readBrackets d rc rs Q 0 [some (vr 20)] [] h :=
  (show wp mX6_readBrackets d rc rs Q 0 [some (vr 20)] [] h from xIc k_X6_readBrackets_0 (And.intro (ll_20 hL) (And.intro (fun c1 => have v3 := hv.1 c1; (show wp mX6_readBrackets d rc rs Q 13 [some (vr 20)] [] h from xcV k_X6_readBrackets_13 s_X6_readBrackets_24 (And.intro rfl (And.intro (ll_20 hL) (have c5 := v3.1; have v58 := v3.2; (And.intro c5 (And.intro (ll_20 hL) (Exists.elim v58 (fun P8 v54 => (Exists.intro [] (Exists.intro 20 (Exists.intro [] (And.intro (And.intro rfl (And.intro rfl (Nat.le_of_ble_eq_true rfl))) (And.intro (ll_20 hL) (Exists.intro 1 (Exists.intro 0 (Exists.intro 0 (Exists.intro (QV P8) (And.intro v54.2.1 (And.intro (And.intro v54.1 (And.intro (Nat.zero_le _) (Nat.zero_le _))) (eQV (fun h6 e56 => have v55 := v54.2.2 h6 e56; have hL := v55.1; have v55 := v55.2; (show wp mX6_readBrackets d rc rs Q 27 [some (vr 20)] [] h6 from xcV k_X6_readBrackets_27 s_X6_readBrackets_28 (Exists.elim v55 (fun d9 v50 => Exists.elim v50 (fun P12 v50 => (Exists.intro [] (Exists.intro 20 (Exists.intro [] (And.intro (And.intro rfl (And.intro rfl (Nat.le_of_ble_eq_true rfl))) (And.intro (ll_20 hL) (Exists.intro d9 (Exists.intro 0 (Exists.intro 0 (Exists.intro (QV P12) (And.intro v50.2.1 (And.intro (And.intro v50.1 (And.intro (Nat.zero_le _) (Nat.zero_le _))) (eQV (fun h10 e52 => have v51 := v50.2.2 h10 e52; have hL := v51.1; have v51 := v51.2; (show wp mX6_readBrackets d rc rs Q 31 [some (vr 20)] [] h10 from xIc k_X6_readBrackets_31 (And.intro (ll_20 hL) (And.intro (fun c13 => have v15 := v51.1 c13; (show wp mX6_readBrackets d rc rs Q 44 [some (vr 20)] [] h10 from xIc k_X6_readBrackets_44 (And.intro (ll_20 hL) (And.intro (fun c17 => have v19 := v15.1 c17; (show wp mX6_readBrackets d rc rs Q 66 [some (vr 20)] [] h10 from xV k_X6_readBrackets_66 (And.intro rfl v19))) (fun c18 => have v20 := v15.2 (Decidable.not_not.mp c18); (show wp mX6_readBrackets d rc rs Q 52 [some (vr 20)] [] h10 from xcV k_X6_readBrackets_52 s_X6_readBrackets_63 (And.intro rfl (And.intro (ll_20 hL) (have c21 := v20.1; have v29 := v20.2; (And.intro c21 (And.intro (ll_20 hL) (Exists.elim v29 (fun P24 v25 => (Exists.intro [] (Exists.intro 20 (Exists.intro [] (And.intro (And.intro rfl (And.intro rfl (Nat.le_of_ble_eq_true rfl))) (And.intro (ll_20 hL) (Exists.intro 1 (Exists.intro 0 (Exists.intro 0 (Exists.intro (QV P24) (And.intro v25.2.1 (And.intro (And.intro v25.1 (And.intro (Nat.zero_le _) (Nat.zero_le _))) (eQV (fun h22 e27 => have v26 := v25.2.2 h22 e27; have hL := v26.1; have v26 := v26.2; (show wp mX6_readBrackets d rc rs Q 66 [some (vr 20)] [] h22 from xV k_X6_readBrackets_66 (And.intro rfl v26)))))))))))))))))))))))))))) (fun c14 => have v16 := v51.2 c14; (show wp mX6_readBrackets d rc rs Q 40 [some (vr 20)] [] h10 from xcV k_X6_readBrackets_40 s_X6_readBrackets_41 (Exists.elim v16 (fun P32 v46 => (Exists.intro [] (Exists.intro 20 (Exists.intro [] (And.intro (And.intro rfl (And.intro rfl (Nat.le_of_ble_eq_true rfl))) (And.intro (ll_20 hL) (Exists.intro 0 (Exists.intro 0 (Exists.intro 0 (Exists.intro (QV P32) (And.intro v46.2.1 (And.intro (And.intro v46.1 (And.intro (Nat.zero_le _) (Nat.zero_le _))) (eQV (fun h30 e48 => have v47 := v46.2.2 h30 e48; have hL := v47.1; have v47 := v47.2; (show wp mX6_readBrackets d rc rs Q 44 [some (vr 20)] [] h30 from xIc k_X6_readBrackets_44 (And.intro (ll_20 hL) (And.intro (fun c33 => have v35 := v47.1 c33; (show wp mX6_readBrackets d rc rs Q 66 [some (vr 20)] [] h30 from xV k_X6_readBrackets_66 (And.intro rfl v35))) (fun c34 => have v36 := v47.2 (Decidable.not_not.mp c34); (show wp mX6_readBrackets d rc rs Q 52 [some (vr 20)] [] h30 from xcV k_X6_readBrackets_52 s_X6_readBrackets_63 (And.intro rfl (And.intro (ll_20 hL) (have c37 := v36.1; have v45 := v36.2; (And.intro c37 (And.intro (ll_20 hL) (Exists.elim v45 (fun P40 v41 => (Exists.intro [] (Exists.intro 20 (Exists.intro [] (And.intro (And.intro rfl (And.intro rfl (Nat.le_of_ble_eq_true rfl))) (And.intro (ll_20 hL) (Exists.intro 1 (Exists.intro 0 (Exists.intro 0 (Exists.intro (QV P40) (And.intro v41.2.1 (And.intro (And.intro v41.1 (And.intro (Nat.zero_le _) (Nat.zero_le _))) (eQV (fun h38 e43 => have v42 := v41.2.2 h38 e43; have hL := v42.1; have v42 := v42.2; (show wp mX6_readBrackets d rc rs Q 66 [some (vr 20)] [] h38 from xV k_X6_readBrackets_66 (And.intro rfl v42)))))))))))))))))))))))))))))))))))))))))))))))))))))))))))))))))))))))))))))))))))))) (fun c2 => have v4 := hv.2 (Int.not_lt.mp c2); (show wp mX6_readBrackets d rc rs Q 8 [some (vr 20)] [] h from xcV k_X6_readBrackets_8 s_X6_readBrackets_9 (Exists.elim v4 (fun P61 v62 => (Exists.intro [] (Exists.intro 20 (Exists.intro [] (And.intro (And.intro rfl (And.intro rfl (Nat.le_of_ble_eq_true rfl))) (And.intro (ll_20 hL) (Exists.intro 0 (Exists.intro 0 (Exists.intro 0 (Exists.intro (QV P61) (And.intro v62.2.1 (And.intro (And.intro v62.1 (And.intro (Nat.zero_le _) (Nat.zero_le _))) (eQV (fun h59 e64 => have v63 := v62.2.2 h59 e64; have hL := v63.1; have v63 := v63.2; (show wp mX6_readBrackets d rc rs Q 12 [some (vr 20)] [] h59 from xV k_X6_readBrackets_12 (And.intro rfl v63))))))))))))))))))))))
theorem e_X6_readBrackets {d : Nat} {mc ms : Nat} {Q : Option AV → AH → Prop} {h : AH}  (hL : LayL h) (hv : (((iH h 20 6) < 4 → (-2147483648 ≤ (iH h 20 6 + 1) ∧ (iH h 20 6 + 1) < 2147483648) ∧ (∃ P8 : AH → Prop, 1 + 1 ≤ d ∧ Ct 1 0 0 mX6_next [vr 20] (sI h 20 6 (iH h 20 6 + 1)) (QV P8) ∧ ∀ h6 : AH, P8 h6 → LayL h6 ∧ (∃ d9 : Nat, (∃ P12 : AH → Prop, d9 + 1 ≤ d ∧ Ct d9 0 0 mX6_readEither [vr 20] h6 (QV P12) ∧ ∀ h10 : AH, P12 h10 → LayL h10 ∧ (((iH h10 20 2) = 41 → (((iH h10 20 7) ≠ (-1) → Q none h10) ∧ ((iH h10 20 7) = (-1) → (-2147483648 ≤ (iH h10 20 6 - 1) ∧ (iH h10 20 6 - 1) < 2147483648) ∧ (∃ P24 : AH → Prop, 1 + 1 ≤ d ∧ Ct 1 0 0 mX6_next [vr 20] (sI h10 20 6 (iH h10 20 6 - 1)) (QV P24) ∧ ∀ h22 : AH, P24 h22 → LayL h22 ∧ Q none h22)))) ∧ ((iH h10 20 2) ≠ 41 → (∃ P32 : AH → Prop, 0 + 1 ≤ d ∧ Ct 0 0 0 mX6_refuse [vr 20] h10 (QV P32) ∧ ∀ h30 : AH, P32 h30 → LayL h30 ∧ (((iH h30 20 7) ≠ (-1) → Q none h30) ∧ ((iH h30 20 7) = (-1) → (-2147483648 ≤ (iH h30 20 6 - 1) ∧ (iH h30 20 6 - 1) < 2147483648) ∧ (∃ P40 : AH → Prop, 1 + 1 ≤ d ∧ Ct 1 0 0 mX6_next [vr 20] (sI h30 20 6 (iH h30 20 6 - 1)) (QV P40) ∧ ∀ h38 : AH, P40 h38 → LayL h38 ∧ Q none h38)))))))))) ∧ (4 ≤ (iH h 20 6) → (∃ P61 : AH → Prop, 0 + 1 ≤ d ∧ Ct 0 0 0 mX6_refuse [vr 20] h (QV P61) ∧ ∀ h59 : AH, P61 h59 → LayL h59 ∧ Q none h59)))) : Ct d mc ms mX6_readBrackets [vr 20] h Q := Ct.of (by decide +kernel) (Nat.le_of_ble_eq_true rfl) (t_X6_readBrackets_0 hL hv)
section
variable {h g h' : AH} {a : Nat} {op : Int} {p : Nat} {o : qL} {ws : List Int}
theorem l_oneE (hb : bR h g a) {D : Nat} (hD : 1 ≤ D) (ho : op ≤ 4) (hk : q_k g p = 5) (s : gS h g a op p o ws h') : Ct D 0 0 mX6_readOne [vr 20] h' (QV (bS h a op (q_b g p))) := by
  refine e_X6_readOne (gS_L hb s).1 ?_
  rw [(gS_f s).1, hk]
  exact ⟨fun c => absurd c (by decide), fun _ => ⟨fun c => absurd c (by decide), fun _ => ⟨fun c => absurd c (by decide), fun _ => ⟨fun c => absurd c (by decide), fun _ => ⟨_, by omega, cr_g hb ho s, fun h1 s1 => ⟨(bS_L hb s1).1, rfl, s1⟩⟩⟩⟩⟩⟩
theorem l_bothX (hb : bR h g a) {D : Nat} {e : Nat} {x : Int} (s : bS h a op e h') : wp mX6_readBoth D 0 0 (QV (bS h a op e)) 6 [some (vr 20), some (vi x)] [] h' := by
  have f := (bS_f s).2
  refine t_X6_readBoth_6 (bS_L hb s).1 ⟨fun _ => ⟨rfl, s⟩, fun _ => ⟨fun _ => ⟨rfl, s⟩, fun c => ⟨fun _ => ⟨rfl, s⟩, fun c2 => ?_⟩⟩⟩
  omega
theorem l_eitherX (hb : bR h g a) {D : Nat} {e : Nat} {x : Int} (s : bS h a op e h') : wp mX6_readEither D 0 0 (QV (bS h a op e)) 6 [some (vr 20), some (vi x)] [] h' := by
  have f := (bS_f s).2
  refine t_X6_readEither_6 (bS_L hb s).1 ⟨fun _ => ⟨rfl, s⟩, fun _ => ⟨fun _ => ⟨rfl, s⟩, fun c => ⟨fun _ => ⟨rfl, s⟩, fun c2 => ?_⟩⟩⟩
  omega
theorem l_bothE (hb : bR h g a) {D : Nat} (hD : 2 ≤ D) (ho : op ≤ 4) (hk : q_k g p = 5) (s : gS h g a op p o ws h') : Ct D 0 0 mX6_readBoth [vr 20] h' (QV (bS h a op (q_b g p))) :=
  e_X6_readBoth (gS_L hb s).1 ⟨D - 1, _, by omega, l_oneE hb (by omega) ho hk s, fun h2 s2 => ⟨(bS_L hb s2).1, l_bothX hb s2⟩⟩
theorem l_eitherE (hb : bR h g a) {D : Nat} (hD : 3 ≤ D) (ho : op ≤ 4) (hk : q_k g p = 5) (s : gS h g a op p o ws h') : Ct D 0 0 mX6_readEither [vr 20] h' (QV (bS h a op (q_b g p))) :=
  e_X6_readEither (gS_L hb s).1 ⟨D - 1, _, by omega, l_bothE hb (by omega) ho hk s, fun h2 s2 => ⟨(bS_L hb s2).1, l_eitherX hb s2⟩⟩
theorem l_bothL (hb : bR h g a) {c : Int} (ho : op ≤ 4) {D : Nat} (hD : 3 ≤ D) {f : Nat → qL → qS} (hG : q_G g c 3 f) (hN : fN f) (hf : cL h g a op mX6_readOne D f) : ∀ (n p : Nat) (o : qL) (h' : AH), n ≤ 64 → gS h g a op p o [] h' → q_k g p ≠ 5 → nM 0 p o → wp mX6_readBoth (D + 1) 0 0 (QV (rS h g a op (q_lp g 3 5 f n p o))) 6 [some (vr 20), some (vi (64 - (n : Int)))] [] h' := by
  have h64 : d_n g ≤ 64 := by have := hb.2.2.2.2.2; unfold d_n; omega
  intro n
  induction n with
  | zero => intro p o h' _ s k5 hs; exact t_X6_readBoth_6 (gS_L hb s).1 ⟨fun _ => ⟨rfl, s, k5⟩, fun c => absurd c (by omega)⟩
  | succ n ih =>
    intro p o h' hn s k5 hs
    obtain ⟨f2, f3, f4, f5, f6, f7, hp⟩ := gS_f s
    have b1 := q_b_ge (h := g) (p := p)
    refine t_X6_readBoth_6 (gS_L hb s).1 ⟨fun c => absurd c (by omega), fun _ => ⟨fun c => absurd f7 c, fun _ => ?_⟩⟩
    rw [f2]
    unfold q_lp
    refine ⟨fun c => ⟨rfl, ?_⟩, fun c => ⟨_, by omega, cn_g hb s, fun h2 s2 => ⟨(gS_L hb s2).1, ?_⟩⟩⟩
    · rw [if_neg c]; exact ⟨s, k5⟩
    · have b2 := q_k_2 (h := g) (p := p) (by omega)
      have f8 := q_e_le hp
      rw [if_pos c]
      have el : (64 : Int) - ((n + 1 : Nat) : Int) + 1 = 64 - (n : Int) := by omega
      rw [el]
      by_cases c5 : q_k g (q_e g p) = 5
      · rw [go_E c5]
        exact ⟨D, _, by omega, l_oneE hb (by omega) ho c5 s2, fun h3 s3 => ⟨(bS_L hb s3).1, a, ⟨(bS_L hb s3).2, hb.2.1⟩, _, by omega, cp_b hb s3, fun h4 s4 => ⟨(bS_L hb s4).1, by omega, l_bothX hb s4⟩⟩⟩
      · rw [go_G c5]
        refine ⟨D, _, by omega, hf _ _ _ s2 c5 (nM_le hs (by omega)), fun h3 s3 => ⟨(rS_L hb s3).1, a, ⟨(rS_L hb s3).2, hb.2.1⟩, ?_⟩⟩
        have hP3 := hG (q_e g p) o f8 c5
        have hN3 := hN 2 (q_e g p) o (nM_le hs (by omega))
        have er : q_bd (.inr (q_e g p, o)) f = f (q_e g p) o := rfl
        rw [er]
        revert s3 hP3 hN3
        generalize f (q_e g p) o = r3
        cases r3 with
        | inl e => exact fun s3 _ _ => ⟨_, by omega, cp_b hb s3, fun h4 s4 => ⟨(bS_L hb s4).1, by omega, l_bothX hb s4⟩⟩
        | inr x =>
          rintro ⟨s3, k3⟩ ⟨j1, j2, j3, -⟩ hN3
          have hN3 : nM 2 x.1 x.2 := hN3
          have hl3 := hN3.1
          exact ⟨_, by omega, cp_n hb (by omega) s3 (by decide) (op_5 (f := 0)).1 op_5.2.1 (op_5 (f := 0)).2.2, fun h4 s4 => ⟨(gS_L hb s4).1, by omega, ih x.1 (x.2 ++ [[5]]) h4 (by omega) s4 k3 (nM_s (by decide) (nM_le hN3 (by omega)))⟩⟩
theorem l_bothF (hb : bR h g a) {c : Int} (ho : op ≤ 4) {D : Nat} (hD : 3 ≤ D) {f : Nat → qL → qS} (hG : q_G g c 3 f) (hN : fN f) (hf : cL h g a op mX6_readOne D f) : cL h g a op mX6_readBoth (D + 1) (q_bo g f) := fun p o h' s k5 hs => by
  have hp := (gS_f s).2.2.2.2.2.2
  have hP3 := hG p o hp k5
  have hN3 := hN 0 p o hs
  refine e_X6_readBoth (gS_L hb s).1 ⟨D, _, by omega, hf _ _ _ s k5 hs, fun h3 s3 => ⟨(rS_L hb s3).1, ?_⟩⟩
  unfold q_bo
  revert s3 hP3 hN3
  generalize f p o = r3
  cases r3 with
  | inl e => exact fun _ _ s3 => l_bothX hb s3
  | inr x =>
    rintro ⟨j1, j2, j3, -⟩ hN3 ⟨s3, k3⟩
    exact l_bothL hb ho hD hG hN hf 64 x.1 x.2 h3 (by omega) s3 k3 hN3
theorem l_eitherL (hb : bR h g a) {c : Int} (ho : op ≤ 4) {D : Nat} (hD : 3 ≤ D) {f : Nat → qL → qS} (hG : q_G g c 3 f) (hN : fN f) (hf : cL h g a op mX6_readBoth D f) : ∀ (n p : Nat) (o : qL) (h' : AH), n ≤ 64 → gS h g a op p o [] h' → q_k g p ≠ 5 → nM 0 p o → wp mX6_readEither (D + 1) 0 0 (QV (rS h g a op (q_lp g 2 6 f n p o))) 6 [some (vr 20), some (vi (64 - (n : Int)))] [] h' := by
  have h64 : d_n g ≤ 64 := by have := hb.2.2.2.2.2; unfold d_n; omega
  intro n
  induction n with
  | zero => intro p o h' _ s k5 hs; exact t_X6_readEither_6 (gS_L hb s).1 ⟨fun _ => ⟨rfl, s, k5⟩, fun c => absurd c (by omega)⟩
  | succ n ih =>
    intro p o h' hn s k5 hs
    obtain ⟨f2, f3, f4, f5, f6, f7, hp⟩ := gS_f s
    have b1 := q_b_ge (h := g) (p := p)
    refine t_X6_readEither_6 (gS_L hb s).1 ⟨fun c => absurd c (by omega), fun _ => ⟨fun c => absurd f7 c, fun _ => ?_⟩⟩
    rw [f2]
    unfold q_lp
    refine ⟨fun c => ⟨rfl, ?_⟩, fun c => ⟨_, by omega, cn_g hb s, fun h2 s2 => ⟨(gS_L hb s2).1, ?_⟩⟩⟩
    · rw [if_neg c]; exact ⟨s, k5⟩
    · have b2 := q_k_2 (h := g) (p := p) (by omega)
      have f8 := q_e_le hp
      rw [if_pos c]
      have el : (64 : Int) - ((n + 1 : Nat) : Int) + 1 = 64 - (n : Int) := by omega
      rw [el]
      by_cases c5 : q_k g (q_e g p) = 5
      · rw [go_E c5]
        exact ⟨D, _, by omega, l_bothE hb (by omega) ho c5 s2, fun h3 s3 => ⟨(bS_L hb s3).1, a, ⟨(bS_L hb s3).2, hb.2.1⟩, _, by omega, cp_b hb s3, fun h4 s4 => ⟨(bS_L hb s4).1, by omega, l_eitherX hb s4⟩⟩⟩
      · rw [go_G c5]
        refine ⟨D, _, by omega, hf _ _ _ s2 c5 (nM_le hs (by omega)), fun h3 s3 => ⟨(rS_L hb s3).1, a, ⟨(rS_L hb s3).2, hb.2.1⟩, ?_⟩⟩
        have hP3 := hG (q_e g p) o f8 c5
        have hN3 := hN 2 (q_e g p) o (nM_le hs (by omega))
        have er : q_bd (.inr (q_e g p, o)) f = f (q_e g p) o := rfl
        rw [er]
        revert s3 hP3 hN3
        generalize f (q_e g p) o = r3
        cases r3 with
        | inl e => exact fun s3 _ _ => ⟨_, by omega, cp_b hb s3, fun h4 s4 => ⟨(bS_L hb s4).1, by omega, l_eitherX hb s4⟩⟩
        | inr x =>
          rintro ⟨s3, k3⟩ ⟨j1, j2, j3, -⟩ hN3
          have hN3 : nM 2 x.1 x.2 := hN3
          have hl3 := hN3.1
          exact ⟨_, by omega, cp_n hb (by omega) s3 (by decide) (op_6 (f := 0)).1 op_6.2.1 (op_6 (f := 0)).2.2, fun h4 s4 => ⟨(gS_L hb s4).1, by omega, ih x.1 (x.2 ++ [[6]]) h4 (by omega) s4 k3 (nM_s (by decide) (nM_le hN3 (by omega)))⟩⟩
theorem l_eitherF (hb : bR h g a) {c : Int} (ho : op ≤ 4) {D : Nat} (hD : 3 ≤ D) {f : Nat → qL → qS} (hG : q_G g c 3 (q_bo g f)) (hN : fN (q_bo g f)) (hf : cL h g a op mX6_readBoth D (q_bo g f)) : cL h g a op mX6_readEither (D + 1) (q_ei g f) := fun p o h' s k5 hs => by
  have hp := (gS_f s).2.2.2.2.2.2
  have hP3 := hG p o hp k5
  have hN3 := hN 0 p o hs
  refine e_X6_readEither (gS_L hb s).1 ⟨D, _, by omega, hf _ _ _ s k5 hs, fun h3 s3 => ⟨(rS_L hb s3).1, ?_⟩⟩
  unfold q_ei
  revert s3 hP3 hN3
  generalize q_bo g f p o = r3
  cases r3 with
  | inl e => exact fun _ _ s3 => l_eitherX hb s3
  | inr x =>
    rintro ⟨j1, j2, j3, -⟩ hN3 ⟨s3, k3⟩
    exact l_eitherL hb ho hD hG hN hf 64 x.1 x.2 h3 (by omega) s3 k3 hN3
/-- one: what it comes to, the parts in brackets and behind not being told -/
theorem l_oneC (hb : bR h g a) (ho : op ≤ 4) {D : Nat} (hD : 3 ≤ D) {ng br : Nat → qL → qS} (cn : ∀ (p : Nat) (o : qL) (h' : AH), gS h g a op p o [] h' → q_k g p = 4 → nM 0 p o → ∃ D', D' + 1 ≤ D ∧ Ct D' 0 0 mX6_readNot [vr 20] h' (QV (rS h g a op (ng p o)))) (cb : ∀ (p : Nat) (o : qL) (h' : AH), gS h g a op p o [] h' → q_k g p = 40 → nM 0 p o → ∃ D', D' + 1 ≤ D ∧ Ct D' 0 0 mX6_readBrackets [vr 20] h' (QV (rS h g a op (br p o)))) : cL h g a op mX6_readOne D (q_o1 g ng br) := fun p o h' s k5 hs => by
  obtain ⟨f2, f3, f4, f5, f6, f7, hp⟩ := gS_f s
  have h64 : d_n g ≤ 64 := by have := hb.2.2.2.2.2; unfold d_n; omega
  refine e_X6_readOne (gS_L hb s).1 ?_
  rw [f2]
  unfold q_o1
  refine ⟨fun c => ⟨_, by omega, l_readWord hb ho c hs s, fun h1 s1 => ⟨(rS_L hb s1).1, rfl, ?_⟩⟩, fun c1 => ⟨fun c => ?_, fun c4 => ⟨fun c => ⟨_, by omega, l_readPhrase hb ho (by omega) hs s, fun h1 s1 => ⟨(rS_L hb s1).1, rfl, ?_⟩⟩, fun c34 => ⟨fun c => ?_, fun c40 => ⟨_, by omega, cr_g hb ho s, fun h1 s1 => ⟨(bS_L hb s1).1, rfl, ?_⟩⟩⟩⟩⟩⟩
  · rw [if_neg (by omega), if_neg (by omega), if_neg (by omega), if_pos c]; exact s1
  · obtain ⟨D', hD', hc⟩ := cn p o h' s c hs
    exact ⟨D', _, hD', hc, fun h1 s1 => ⟨(rS_L hb s1).1, rfl, by rw [if_pos c]; exact s1⟩⟩
  · rw [if_neg (by omega), if_neg (by omega), if_pos c]; exact s1
  · obtain ⟨D', hD', hc⟩ := cb p o h' s c hs
    exact ⟨D', _, hD', hc, fun h1 s1 => ⟨(rS_L hb s1).1, rfl, by rw [if_neg (by omega), if_pos c]; exact s1⟩⟩
  · rw [if_neg c4, if_neg c40, if_neg c34, if_neg c1]; exact s1
theorem l_one0 (hb : bR h g a) : cL h g a 4 mX6_readOne 3 (q_one g 0) := by
  have h64 : d_n g ≤ 64 := by have := hb.2.2.2.2.2; unfold d_n; omega
  refine l_oneC hb (by omega) (by omega) (fun p o h' s c hs => ?_) (fun p o h' s c hs => ?_)
  · have hp := (gS_f s).2.2.2.2.2.2
    refine ⟨2, by omega, e_X6_readNot (gS_L hb s).1 ?_⟩
    rw [(gS_f s).2.2.2.2.1]
    exact ⟨fun q => absurd q (by decide), fun _ => ⟨_, by omega, cr_g hb (by omega) s, fun h1 s1 => ⟨(bS_L hb s1).1, rfl, s1⟩⟩⟩
  · have hp := (gS_f s).2.2.2.2.2.2
    refine ⟨2, by omega, e_X6_readBrackets (gS_L hb s).1 ?_⟩
    rw [(gS_f s).2.2.2.2.1]
    exact ⟨fun q => absurd q (by decide), fun _ => ⟨_, by omega, cr_g hb (by omega) s, fun h1 s1 => ⟨(bS_L hb s1).1, rfl, s1⟩⟩⟩
theorem l_oneS (hb : bR h g a) {d : Nat} (ho : 0 ≤ op ∧ op < 4) {D : Nat} (hD : 3 ≤ D) (ih : cL h g a (op + 1) mX6_readOne D (q_one g d)) : cL h g a op mX6_readOne (D + 4) (q_one g (d + 1)) := by
  have h64 : d_n g ≤ 64 := by have := hb.2.2.2.2.2; unfold d_n; omega
  have hG := q_one_P hb.2.2.2.2 d
  have hN := qN_one g d
  have hE : cL h g a (op + 1) mX6_readEither (D + 2) (q_ei g (q_one g d)) := l_eitherF hb (by omega) (by omega) (q_bo_P hG (by omega)) (qN_bo hN) (l_bothF hb (by omega) hD hG hN ih)
  refine l_oneC hb (by omega) (by omega) (fun p o h' s c hs => ?_) (fun p o h' s c hs => ?_)
  · -- not
    obtain ⟨f2, f3, f4, f5, f6, f7, hp⟩ := gS_f s
    have b2 := q_k_2 (h := g) (p := p) (by omega)
    have b1 := q_b_ge (h := g) (p := p)
    have f8 := q_e_le hp
    refine ⟨D + 1, by omega, e_X6_readNot (gS_L hb s).1 ?_⟩
    rw [f6]
    refine ⟨fun _ => ⟨by omega, _, by omega, cn_g hb (gS_o (v := op + 1) s), fun h2 s2 => ⟨(gS_L hb s2).1, ?_⟩⟩, fun q => absurd q (by omega)⟩
    unfold q_ng
    by_cases c5 : q_k g (q_e g p) = 5
    · rw [go_E c5]
      refine ⟨D, _, by omega, l_oneE hb (by omega) (by omega) c5 s2, fun h3 s3 => ?_⟩
      have g3 := (bS_f s3).1
      refine ⟨(bS_L hb s3).1, by omega, a, ⟨(bS_L hb s3).2, hb.2.1⟩, _, by omega, cp_b hb (bS_o (op2 := op) (v := iH h3 20 6 - 1) (by omega) s3), fun h4 s4 => ⟨(bS_L hb s4).1, rfl, s4⟩⟩
    · rw [go_G c5]
      refine ⟨D, _, by omega, ih _ _ _ s2 c5 (nM_le hs (by omega)), fun h3 s3 => ⟨(rS_L hb s3).1, ?_⟩⟩
      have hP3 := hG (q_e g p) o f8 c5
      have er : q_bd (.inr (q_e g p, o)) (q_one g d) = q_one g d (q_e g p) o := rfl
      rw [er]
      have hN3 := hN 2 (q_e g p) o (nM_le hs (by omega))
      have hR3 := (rS_L hb s3).2
      revert s3 hP3 hN3
      generalize q_one g d (q_e g p) o = r3
      cases r3 with
      | inl e =>
        intro s3 _ _
        have g3 := (bS_f s3).1
        exact ⟨by omega, a, ⟨hR3, hb.2.1⟩, _, by omega, cp_b hb (bS_o (op2 := op) (v := iH h3 20 6 - 1) (by omega) s3), fun h4 s4 => ⟨(bS_L hb s4).1, rfl, s4⟩⟩
      | inr x =>
        rintro ⟨s3, k3⟩ ⟨j1, j2, j3, -⟩ hN3
        have hN3 : nM 2 x.1 x.2 := hN3
        have hl3 := hN3.1
        have g6 := (gS_f s3).2.2.2.2.1
        rw [g6, show op + 1 - 1 = op by omega]
        exact ⟨by omega, a, ⟨hR3, hb.2.1⟩, _, by omega, cp_n hb (by omega) (gS_o (v := op) s3) (by decide) (op_4 (f := 0)).1 op_4.2.1 (op_4 (f := 0)).2.2, fun h4 s4 => ⟨(gS_L hb s4).1, rfl, s4, k3⟩⟩
  · -- ( )
    obtain ⟨f2, f3, f4, f5, f6, f7, hp⟩ := gS_f s
    have b2 := q_e_gt (h := g) (p := p) (by omega)
    have b1 := q_b_ge (h := g) (p := p)
    have f8 := q_e_le hp
    refine ⟨D + 3, by omega, e_X6_readBrackets (gS_L hb s).1 ?_⟩
    rw [f6]
    refine ⟨fun _ => ⟨by omega, _, by omega, cn_g hb (gS_o (v := op + 1) s), fun h2 s2 => ⟨(gS_L hb s2).1, ?_⟩⟩, fun q => absurd q (by omega)⟩
    unfold q_br
    -- behind a bad state
    have bad : ∀ (e : Nat) (h3 : AH) (s : qS), s = .inl e → bS h a (op + 1) e h3 → (((iH h3 20 2) = 41 → (((iH h3 20 7) ≠ (-1) → (QV (rS h g a op s)) none h3) ∧ ((iH h3 20 7) = (-1) → (-2147483648 ≤ (iH h3 20 6 - 1) ∧ (iH h3 20 6 - 1) < 2147483648) ∧ (∃ P24 : AH → Prop, 1 + 1 ≤ D + 3 ∧ Ct 1 0 0 mX6_next [vr 20] (sI h3 20 6 (iH h3 20 6 - 1)) (QV P24) ∧ ∀ h22 : AH, P24 h22 → LayL h22 ∧ (QV (rS h g a op s)) none h22)))) ∧ ((iH h3 20 2) ≠ 41 → (∃ P32 : AH → Prop, 0 + 1 ≤ D + 3 ∧ Ct 0 0 0 mX6_refuse [vr 20] h3 (QV P32) ∧ ∀ h30 : AH, P32 h30 → LayL h30 ∧ (((iH h30 20 7) ≠ (-1) → (QV (rS h g a op s)) none h30) ∧ ((iH h30 20 7) = (-1) → (-2147483648 ≤ (iH h30 20 6 - 1) ∧ (iH h30 20 6 - 1) < 2147483648) ∧ (∃ P40 : AH → Prop, 1 + 1 ≤ D + 3 ∧ Ct 1 0 0 mX6_next [vr 20] (sI h30 20 6 (iH h30 20 6 - 1)) (QV P40) ∧ ∀ h38 : AH, P40 h38 → LayL h38 ∧ (QV (rS h g a op s)) none h38)))))) := by
      intro e h3 s es s3
      subst es
      have g3 := (bS_f s3).2
      refine ⟨fun c => ⟨fun _ => ⟨rfl, bS_m (by omega) s3⟩, fun q => by omega⟩, fun c => ⟨_, by omega, cr_n hb s3, fun h4 s4 => ⟨(bS_L hb s4.1).1, fun _ => ⟨rfl, bS_m (by omega) s4.1⟩, fun q => by omega⟩⟩⟩
    by_cases c5 : q_k g (q_e g p) = 5
    · rw [go_E c5]
      exact ⟨D + 2, _, by omega, l_eitherE hb (by omega) (by omega) c5 s2, fun h3 s3 => ⟨(bS_L hb s3).1, bad _ h3 _ rfl s3⟩⟩
    · rw [go_G c5]
      refine ⟨D + 2, _, by omega, hE _ _ _ s2 c5 (nM_le hs (by omega)), fun h3 s3 => ⟨(rS_L hb s3).1, ?_⟩⟩
      have hP3 := q_ei_P hG (by omega) (q_e g p) o f8 c5
      have er : q_bd (.inr (q_e g p, o)) (q_ei g (q_one g d)) = q_ei g (q_one g d) (q_e g p) o := rfl
      rw [er]
      revert s3 hP3
      generalize q_ei g (q_one g d) (q_e g p) o = r3
      cases r3 with
      | inl e => exact fun s3 _ => bad _ h3 _ rfl s3
      | inr x =>
        rintro ⟨s3, k3⟩ ⟨j1, j2, j3, gg, j4, j5, j6⟩
        have g3 := gS_f s3
        rw [g3.1, g3.2.2.2.2.1, g3.2.2.2.2.2.1, show op + 1 - 1 = op by omega]
        have e1 : q_bd (.inr x) (fun p1 o1 => if q_k g p1 = 41 then q_go g (q_e g p1) o1 else .inl (q_b g p1)) = if q_k g x.1 = 41 then q_go g (q_e g x.1) x.2 else .inl (q_b g x.1) := rfl
        rw [e1]
        refine ⟨fun c => ⟨fun q => absurd rfl q, fun _ => ⟨by omega, _, by omega, cn_g hb (gS_o (v := op) s3), fun h4 s4 => ⟨(gS_L hb s4).1, rfl, ?_⟩⟩⟩, fun c => ⟨_, by omega, cr_gn hb (by omega) s3, fun h4 s4 => ⟨(bS_L hb s4.1).1, fun _ => ⟨rfl, ?_⟩, fun q => by omega⟩⟩⟩
        · rw [if_pos c]; exact gS_go (by omega) s4
        · rw [if_neg c]; exact bS_m (by omega) s4.1
theorem l_oneA (hb : bR h g a) : ∀ d : Nat, d ≤ 4 → cL h g a (4 - (d : Int)) mX6_readOne (3 + 4 * d) (q_one g d)
  | 0, _ => l_one0 hb
  | d + 1, hd => by
    have ih := l_oneA hb d (by omega)
    have := l_oneS (d := d) (op := 4 - ((d + 1 : Nat) : Int)) (D := 3 + 4 * d) hb (by omega) (by omega) (by rw [show 4 - ((d + 1 : Nat) : Int) + 1 = 4 - (d : Int) by omega]; exact ih)
    exact this
theorem l_eitherA (hb : bR h g a) : cL h g a 0 mX6_readEither 21 (q_ei g (q_one g 4)) := by
  have hG := q_one_P hb.2.2.2.2 4
  exact l_eitherF hb (by omega) (by omega) (q_bo_P hG (by omega)) (qN_bo (qN_one g 4)) (l_bothF hb (by omega) (by omega) hG (qN_one g 4) (l_oneA hb 4 (Nat.le_refl _)))
end
