set_option maxRecDepth 100000 in
set_option maxHeartbeats 4000000 in
theorem j_X4_work3 {p : Program} {e : Env} {s : State} {m : MethodId} {args : Array Value} {below : List Frame} {meth : Method} {c : Code} (l : Launch) (D : va_G) (cy : Nat → ClassId) (M : qM) (ad : Nat → Nat) (hC : CSt M ad) (σ : qS) (hY : CDy σ ad (mI M) (mL M) (mR M)) (hW : WF σ) (n : Int) (hn : 0 < n ∧ n < 501) (hD0 : sD σ ≠ 0) (hU : sU σ = 1) (hQ0 : sQ σ ≠ 0) (he : e_2 σ n = 0) (L : Nat → Nat → Int) (fa : frA ad (mL M) L [5, 6, 4, 30 + 3 * (sB σ).toNat + 1]) (hy : gT L (ad (30 + 3 * (sB σ).toNat + 1)) = sqN (k_2 σ n).toNat (sF σ 4)) (G : qG p s m args meth c cX4_work 4 yX4_work.cls D cy (qA (mP M) s.heap.size)) (hret : meth.sig.returnType = (some .int)) : qK p l e { frames := 7, cells := 3, slots := 18, locals := 110 } s m args below meth c (MQ below (qQ D cy (mP M) (fun v M' => e_2 σ n = 0 ∧ poC M ad (n_2 σ n) (fun v => v = some (.int (qI (a_2 σ n)))) v M')) args s 3 18 (qA (mP M) s.heap.size)) 4 D cy (qA (mP M) s.heap.size) 2 12 88 [(2, .int (qI (k_2 σ n))), (1, .int (qI (n))), (0, .ref (ad 0))] [] (wL M L) := by
  obtain ⟨⟨y4, y5, y6⟩, yD, yV, yF, yB, yR, -⟩ := id hY
  obtain ⟨w1, w2, w3⟩ := WF_n hW
  have o0 := CS_x hC
  have o1 := CS_fo hC
  obtain ⟨s0, s1, s2, s3⟩ := hC.2.2.2.1
  have hd : dOk (sD σ) := by rcases hW.1 with h9 | h9; exact absurd h9 hD0; exact h9
  obtain ⟨d1, d2, d3⟩ := yD hD0
  have hd7 := hd.1
  have hd9 := hd.2.1
  have hdm : dOk (mI M (ad 1) 0) := by rw [d1]; exact hd
  have hFO := CS_FO hC (by omega)
  have r6 : mR M (ad 0) 6 = some (ad (rnN σ)) := by rw [y6, if_pos hU]
  have hB6 := hW.2.1.2.2 hU
  have hrn : 14 ≤ rnN σ ∧ rnN σ < 30 := by unfold rnN; omega
  have oR := CS_rd hC hrn.1 hrn.2
  obtain ⟨⟨q0r, q3r, q4r⟩, q1r, q2r, q5r⟩ := yR hU
  have hk := hW.2.2.2.2.2.2 hU
  obtain ⟨⟨hk1, hk2, hk3⟩, hk4, hk5, hk6, hk7⟩ := hk
  clear hk6 hk7
  have x0 : gT (mL M) (ad (30 + 3 * (sB σ).toNat + 0)) = sF σ 3 := by have h9 := yF 3 (Or.inr (Or.inl ⟨by decide, by decide, hU⟩)); rw [show frN σ 3 = 30 + 3 * (sB σ).toNat + 0 by unfold frN; rw [if_neg (by decide), if_pos (by decide)]; omega] at h9; exact h9
  have x1 : gT (mL M) (ad (30 + 3 * (sB σ).toNat + 1)) = sF σ 4 := by have h9 := yF 4 (Or.inr (Or.inl ⟨by decide, by decide, hU⟩)); rw [show frN σ 4 = 30 + 3 * (sB σ).toNat + 1 by unfold frN; rw [if_neg (by decide), if_pos (by decide)]; omega] at h9; exact h9
  have x2 : gT (mL M) (ad (30 + 3 * (sB σ).toNat + 2)) = sF σ 5 := by have h9 := yF 5 (Or.inr (Or.inl ⟨by decide, by decide, hU⟩)); rw [show frN σ 5 = 30 + 3 * (sB σ).toNat + 2 by unfold frN; rw [if_neg (by decide), if_pos (by decide)]; omega] at h9; exact h9
  have lx0 : gd (sD σ) (sF σ 3) := hW.2.2.2.2.1 3 (Or.inr (Or.inl ⟨by decide, by decide, hU⟩))
  have lx1 : gd (sD σ) (sF σ 4) := hW.2.2.2.2.1 4 (Or.inr (Or.inl ⟨by decide, by decide, hU⟩))
  have lx2 : gd (sD σ) (sF σ 5) := hW.2.2.2.2.1 5 (Or.inr (Or.inl ⟨by decide, by decide, hU⟩))
  have hk0 : 0 ≤ k_2 σ n ∧ k_2 σ n ≤ sQ σ := by unfold k_2; omega
  have g0 : gT L (ad (30 + 3 * (sB σ).toNat + 0)) = sF σ 3 := (frA_T fa (CS_nin hC (r := 30 + 3 * (sB σ).toNat + 0) (by omega) (by intro s hs; simp at hs; omega))).trans x0
  have g2 : gT L (ad (30 + 3 * (sB σ).toNat + 2)) = sF σ 5 := (frA_T fa (CS_nin hC (r := 30 + 3 * (sB σ).toNat + 2) (by omega) (by intro s hs; simp at hs; omega))).trans x2
  refine q_aload_n G 2 0 dX4_work_88 rfl rfl ?_
  refine q_gt (v := .ref (ad (rnN σ))) G dX4_work_89 fl_X4_42 o0 (by decide) rfl (congrArg va_rf r6) ?_
  refine q_dup G dX4_work_92 rfl ?_
  refine q_gt (v := .int (qI (mI M (ad (rnN σ)) 1))) G dX4_work_93 fl_X4_74 oR (by decide) rfl rfl ?_
  refine q_iload_n G 0 2 dX4_work_96 rfl rfl ?_
  refine q_isub G dX4_work_97 ?_
  refine q_pI (z := (mI M (ad (rnN σ)) 1) - (k_2 σ n)) G dX4_work_98 (pl_X4_74 _) nf_3_1 oR (by decide) (Nat.le_of_ble_eq_true rfl) (fs_3_1 _ _ _) ?_
  refine q_aload_n G 2 0 dX4_work_101 rfl rfl ?_
  refine q_gt (v := .ref (ad (rnN σ))) G dX4_work_102 fl_X4_42 o0 (by decide) rfl (congrArg va_rf r6) ?_
  refine q_gt (v := .int (qI ((mI M (ad (rnN σ)) 1) - (k_2 σ n)))) G dX4_work_105 fl_X4_74 oR (by decide) rfl (by simp [mI, mL, mR, sL, sI, sR, wL, wD, stF, up2]) ?_
  refine q_if_ne (tgt := 142) G dX4_work_108 (by decide) (by omega) (fun c1 => ?_) (fun c1 => ?_)
  · refine q_aload_n G 2 0 dX4_work_142 rfl rfl ?_
    refine q_gt (v := .ref (ad (rnN σ))) G dX4_work_143 fl_X4_42 o0 (by decide) rfl (congrArg va_rf r6) ?_
    refine q_gt (v := .int (qI ((mI M (ad (rnN σ)) 1) - (k_2 σ n)))) G dX4_work_146 fl_X4_74 oR (by decide) rfl (by simp [mI, mL, mR, sL, sI, sR, wL, wD, stF, up2]) ?_
    exact q_iret G dX4_work_149 hret (by omega) (by omega) (⟨he, ⟨up2 (mI M) (ad (rnN σ)) 1 (mI M (ad (rnN σ)) 1 - k_2 σ n), L, mR M, rfl, fun b hb => ⟨by rw [up2_row _ _ (hb _ (by omega))], frA_o fa (by intro s hs; simp at hs; omega) hb, rfl⟩, hC, by rw [show n_2 σ n = m_2 σ n by unfold n_2; rw [if_neg (by omega)]]; exact CD_R (σ' := m_2 σ n) hC hW hY hB6 rfl rfl hU (fun _ _ => rfl) (fun k hk => by show up1 (sF σ) 4 _ k = sF σ k; rw [up1_n _ _ (by omega)]) (fun k hk => rfl) fa (by intro s hs; simp at hs; omega) (fun k hk => by rcases (show k = 0 ∨ k = 1 ∨ k = 2 by omega) with rfl | rfl | rfl; exact g0; exact hy; exact g2) (fun b hb => by rw [up2_row _ _ hb]) ⟨⟨(by rw [up2_k _ _ (by decide)]; exact q0r), (by rw [up2_k _ _ (by decide)]; exact q3r), (by rw [up2_k _ _ (by decide)]; exact q4r)⟩, (by rw [up2_s, q1r]; rfl), (by rw [up2_k _ _ (by decide)]; exact q2r), (by rw [up2_k _ _ (by decide)]; exact q5r)⟩ r6, by rw [q1r]; rfl⟩⟩)
  · refine q_aload_n G 2 0 dX4_work_111 rfl rfl ?_
    refine q_gt (v := .ref (ad (rnN σ))) G dX4_work_112 fl_X4_42 o0 (by decide) rfl (congrArg va_rf r6) ?_
    refine q_aload_n G 2 0 dX4_work_115 rfl rfl ?_
    refine q_gt (v := .ref (ad (rnN σ))) G dX4_work_116 fl_X4_42 o0 (by decide) rfl (congrArg va_rf r6) ?_
    refine q_gt (v := .ref (ad (30 + 3 * (sB σ).toNat + 0))) G dX4_work_119 fl_X4_97 oR (by decide) rfl (congrArg va_rf (hC.2.2.2.2.2.2.2 (sB σ).toNat 0 (by omega) (by decide))) ?_
    refine q_aload_n G 2 0 dX4_work_122 rfl rfl ?_
    refine q_gt (v := .ref (ad (rnN σ))) G dX4_work_123 fl_X4_42 o0 (by decide) rfl (congrArg va_rf r6) ?_
    refine q_gt (v := .ref (ad (30 + 3 * (sB σ).toNat + 1))) G dX4_work_126 fl_X4_104 oR (by decide) rfl (congrArg va_rf (hC.2.2.2.2.2.2.2 (sB σ).toNat 1 (by omega) (by decide))) ?_
    refine q_aload_n G 2 0 dX4_work_129 rfl rfl ?_
    refine q_gt (v := .ref (ad (rnN σ))) G dX4_work_130 fl_X4_42 o0 (by decide) rfl (congrArg va_rf r6) ?_
    refine q_gt (v := .int (qI (mI M (ad (rnN σ)) 0))) G dX4_work_133 fl_X4_71 oR (by decide) rfl (by simp [mI, mL, mR, sL, sI, sR, wL, wD, stF, up2]) ?_
    refine q_callS (As := [.ref (ad (30 + 3 * (sB σ).toNat + 0)), .ref (ad (30 + 3 * (sB σ).toNat + 1)), .int (qI (mI M (ad (rnN σ)) 0))]) (rest := [.ref (ad (rnN σ))]) G dX4_work_136 cw_X4_129 (c_X4_primeOf l D cy (sI (wL M L) (ad (rnN σ)) 1 ((mI M (ad (rnN σ)) 1) - (k_2 σ n))) (ad (30 + 3 * (sB σ).toNat + 0)) (ad (30 + 3 * (sB σ).toNat + 1)) (mI M (ad (rnN σ)) 0) (CS_fm hC (show 30 ≤ 30 + 3 * (sB σ).toNat + 0 by omega) (by omega)) (CS_fm hC (show 30 ≤ 30 + 3 * (sB σ).toNat + 1 by omega) (by omega))) rfl rfl (Nat.le_of_ble_eq_true rfl) rfl rfl ⟨Nat.le_of_ble_eq_true rfl, Nat.le_of_ble_eq_true rfl⟩ ⟨by decide, by decide⟩ (fun v9 M9 hq9 => ?_)
    obtain ⟨rfl, e9⟩ := hq9
    refine q_mem e9 ?_
    refine q_st (st2 := [.int (qI (prmT (gT L (ad (30 + 3 * (sB σ).toNat + 0))) (gT L (ad (30 + 3 * (sB σ).toNat + 1))) (mI M (ad (rnN σ)) 0))), .ref (ad (rnN σ))]) rfl ?_
    refine q_pI (z := prmT (gT L (ad (30 + 3 * (sB σ).toNat + 0))) (gT L (ad (30 + 3 * (sB σ).toNat + 1))) (mI M (ad (rnN σ)) 0)) G dX4_work_139 (pl_X4_80 _) nf_3_4 oR (by decide) (Nat.le_of_ble_eq_true rfl) (fs_3_4 _ _ _) ?_
    refine q_aload_n G 2 0 dX4_work_142 rfl rfl ?_
    refine q_gt (v := .ref (ad (rnN σ))) G dX4_work_143 fl_X4_42 o0 (by decide) rfl (congrArg va_rf r6) ?_
    refine q_gt (v := .int (qI ((mI M (ad (rnN σ)) 1) - (k_2 σ n)))) G dX4_work_146 fl_X4_74 oR (by decide) rfl (by simp [mI, mL, mR, sL, sI, sR, wL, wD, stF, up2]) ?_
    exact q_iret G dX4_work_149 hret (by omega) (by omega) (⟨he, ⟨up2 (up2 (mI M) (ad (rnN σ)) 1 (mI M (ad (rnN σ)) 1 - k_2 σ n)) (ad (rnN σ)) 4 (prmT (gT L (ad (30 + 3 * (sB σ).toNat + 0))) (gT L (ad (30 + 3 * (sB σ).toNat + 1))) (mI M (ad (rnN σ)) 0)), L, mR M, rfl, fun b hb => ⟨by rw [up2_row _ _ (hb _ (by omega)), up2_row _ _ (hb _ (by omega))], frA_o fa (by intro s hs; simp at hs; omega) hb, rfl⟩, hC, by rw [show n_2 σ n = setC (m_2 σ n) 50 (prmT (sF σ 3) (sqN (k_2 σ n).toNat (sF σ 4)) (sC σ 48)) by unfold n_2; rw [if_pos (by omega)]]; exact CD_R (σ' := setC (m_2 σ n) 50 (prmT (sF σ 3) (sqN (k_2 σ n).toNat (sF σ 4)) (sC σ 48))) hC hW hY hB6 rfl rfl hU (fun _ _ => rfl) (fun k hk => by show up1 (sF σ) 4 _ k = sF σ k; rw [up1_n _ _ (by omega)]) (fun k hk => by show up1 (sC σ) 50 _ k = sC σ k; rw [up1_n _ _ (by omega)]) fa (by intro s hs; simp at hs; omega) (fun k hk => by rcases (show k = 0 ∨ k = 1 ∨ k = 2 by omega) with rfl | rfl | rfl; exact g0; exact hy; exact g2) (fun b hb => by rw [up2_row _ _ hb, up2_row _ _ hb]) ⟨⟨(by rw [up2_k _ _ (by decide), up2_k _ _ (by decide)]; exact q0r), (by rw [up2_k _ _ (by decide), up2_k _ _ (by decide)]; exact q3r), (by rw [up2_s, g0, hy, q0r]; rfl)⟩, (by rw [up2_k _ _ (by decide), up2_s, q1r]; rfl), (by rw [up2_k _ _ (by decide), up2_k _ _ (by decide)]; exact q2r), (by rw [up2_k _ _ (by decide), up2_k _ _ (by decide)]; exact q5r)⟩ r6, by rw [q1r]; rfl⟩⟩)
set_option maxRecDepth 100000 in
set_option maxHeartbeats 4000000 in
theorem l_work4 {p : Program} {e : Env} {s : State} {m : MethodId} {args : Array Value} {below : List Frame} {meth : Method} {c : Code} (l : Launch) (D : va_G) (cy : Nat → ClassId) (M : qM) (ad : Nat → Nat) (hC : CSt M ad) (σ : qS) (hY : CDy σ ad (mI M) (mL M) (mR M)) (hW : WF σ) (n : Int) (hn : 0 < n ∧ n < 501) (hD0 : sD σ ≠ 0) (hU : sU σ = 1) (hQ0 : sQ σ ≠ 0) (he : e_2 σ n = 0) (G : qG p s m args meth c cX4_work 4 yX4_work.cls D cy (qA (mP M) s.heap.size)) (hret : meth.sig.returnType = (some .int)) : ∀ (w9 : Nat) (i : Nat) (L : Nat → Nat → Int), (k_2 σ n - (i : Int)).toNat < w9 → (i : Int) ≤ k_2 σ n ∧ frA ad (mL M) L [5, 6, 4, 30 + 3 * (sB σ).toNat + 1] ∧ gT L (ad (30 + 3 * (sB σ).toNat + 1)) = sqN i (sF σ 4) → qK p l e { frames := 7, cells := 3, slots := 18, locals := 110 } s m args below meth c (MQ below (qQ D cy (mP M) (fun v M' => e_2 σ n = 0 ∧ poC M ad (n_2 σ n) (fun v => v = some (.int (qI (a_2 σ n)))) v M')) args s 3 18 (qA (mP M) s.heap.size)) 4 D cy (qA (mP M) s.heap.size) 2 12 49 [(3, .int (qI ((i : Int)))), (2, .int (qI (k_2 σ n))), (1, .int (qI (n))), (0, .ref (ad 0))] [] (wL M L) := by
  intro w9
  induction w9 with
  | zero => intro i L h9; exact absurd h9 (Nat.not_lt_zero _)
  | succ w9 ih =>
    intro i L hm hI
    obtain ⟨i1, fa, hy⟩ := hI
    obtain ⟨⟨y4, y5, y6⟩, yD, yV, yF, yB, yR, -⟩ := id hY
    obtain ⟨w1, w2, w3⟩ := WF_n hW
    have o0 := CS_x hC
    have o1 := CS_fo hC
    obtain ⟨s0, s1, s2, s3⟩ := hC.2.2.2.1
    have hd : dOk (sD σ) := by rcases hW.1 with h9 | h9; exact absurd h9 hD0; exact h9
    obtain ⟨d1, d2, d3⟩ := yD hD0
    have hd7 := hd.1
    have hd9 := hd.2.1
    have hdm : dOk (mI M (ad 1) 0) := by rw [d1]; exact hd
    have hFO := CS_FO hC (by omega)
    have r6 : mR M (ad 0) 6 = some (ad (rnN σ)) := by rw [y6, if_pos hU]
    have hB6 := hW.2.1.2.2 hU
    have hrn : 14 ≤ rnN σ ∧ rnN σ < 30 := by unfold rnN; omega
    have oR := CS_rd hC hrn.1 hrn.2
    obtain ⟨⟨q0r, q3r, q4r⟩, q1r, q2r, q5r⟩ := yR hU
    have hk := hW.2.2.2.2.2.2 hU
    obtain ⟨⟨hk1, hk2, hk3⟩, hk4, hk5, hk6, hk7⟩ := hk
    clear hk6 hk7
    have x0 : gT (mL M) (ad (30 + 3 * (sB σ).toNat + 0)) = sF σ 3 := by have h9 := yF 3 (Or.inr (Or.inl ⟨by decide, by decide, hU⟩)); rw [show frN σ 3 = 30 + 3 * (sB σ).toNat + 0 by unfold frN; rw [if_neg (by decide), if_pos (by decide)]; omega] at h9; exact h9
    have x1 : gT (mL M) (ad (30 + 3 * (sB σ).toNat + 1)) = sF σ 4 := by have h9 := yF 4 (Or.inr (Or.inl ⟨by decide, by decide, hU⟩)); rw [show frN σ 4 = 30 + 3 * (sB σ).toNat + 1 by unfold frN; rw [if_neg (by decide), if_pos (by decide)]; omega] at h9; exact h9
    have x2 : gT (mL M) (ad (30 + 3 * (sB σ).toNat + 2)) = sF σ 5 := by have h9 := yF 5 (Or.inr (Or.inl ⟨by decide, by decide, hU⟩)); rw [show frN σ 5 = 30 + 3 * (sB σ).toNat + 2 by unfold frN; rw [if_neg (by decide), if_pos (by decide)]; omega] at h9; exact h9
    have lx0 : gd (sD σ) (sF σ 3) := hW.2.2.2.2.1 3 (Or.inr (Or.inl ⟨by decide, by decide, hU⟩))
    have lx1 : gd (sD σ) (sF σ 4) := hW.2.2.2.2.1 4 (Or.inr (Or.inl ⟨by decide, by decide, hU⟩))
    have lx2 : gd (sD σ) (sF σ 5) := hW.2.2.2.2.1 5 (Or.inr (Or.inl ⟨by decide, by decide, hU⟩))
    have hk0 : 0 ≤ k_2 σ n ∧ k_2 σ n ≤ 500 := by unfold k_2; omega
    have gy : gd (mI M (ad 1) 0) (gT L (ad (30 + 3 * (sB σ).toNat + 1))) := by rw [d1, hy]; exact sqN_gd hd lx1 i
    refine q_iload_n G 0 3 dX4_work_49 rfl rfl ?_
    refine q_iload_n G 1 2 dX4_work_50 rfl rfl ?_
    refine q_icmp_ge (tgt := 88) G dX4_work_51 (by decide) (by omega) (by omega) (fun c1 => ?_) (fun c1 => ?_)
    · have hik : i = (k_2 σ n).toNat := by clear gy hy; omega
      rw [hik] at hy
      refine q_lvs [1, 2, 3] rfl ?_
      exact j_X4_work3 l D cy M ad hC σ hY hW n hn hD0 hU hQ0 he L fa hy G hret
    · refine q_aload_n G 3 0 dX4_work_54 rfl rfl ?_
      refine q_gt (v := .ref (ad 1)) G dX4_work_55 fl_X4_10 o0 (by decide) rfl (congrArg va_rf s0) ?_
      refine q_aload_n G 3 0 dX4_work_58 rfl rfl ?_
      refine q_gt (v := .ref (ad (rnN σ))) G dX4_work_59 fl_X4_42 o0 (by decide) rfl (congrArg va_rf r6) ?_
      refine q_gt (v := .ref (ad (30 + 3 * (sB σ).toNat + 1))) G dX4_work_62 fl_X4_104 oR (by decide) rfl (congrArg va_rf (hC.2.2.2.2.2.2.2 (sB σ).toNat 1 (by omega) (by decide))) ?_
      refine q_aload_n G 3 0 dX4_work_65 rfl rfl ?_
      refine q_gt (v := .ref (ad (rnN σ))) G dX4_work_66 fl_X4_42 o0 (by decide) rfl (congrArg va_rf r6) ?_
      refine q_gt (v := .ref (ad (30 + 3 * (sB σ).toNat + 1))) G dX4_work_69 fl_X4_104 oR (by decide) rfl (congrArg va_rf (hC.2.2.2.2.2.2.2 (sB σ).toNat 1 (by omega) (by decide))) ?_
      refine q_aload_n G 3 0 dX4_work_72 rfl rfl ?_
      refine q_gt (v := .ref (ad (rnN σ))) G dX4_work_73 fl_X4_42 o0 (by decide) rfl (congrArg va_rf r6) ?_
      refine q_gt (v := .ref (ad (30 + 3 * (sB σ).toNat + 1))) G dX4_work_76 fl_X4_104 oR (by decide) rfl (congrArg va_rf (hC.2.2.2.2.2.2.2 (sB σ).toNat 1 (by omega) (by decide))) ?_
      refine q_callV (As := [.ref (ad (30 + 3 * (sB σ).toNat + 1)), .ref (ad (30 + 3 * (sB σ).toNat + 1)), .ref (ad (30 + 3 * (sB σ).toNat + 1))]) (rest := []) G dX4_work_79 cw_X4_125 (c_prodT l D cy (wL M L) (ad 1) (ad 2) (ad 3) (ad 4) (ad 5) (ad 6) (ad 7) (ad 8) (ad 9) (ad 10) hFO hdm (ad (30 + 3 * (sB σ).toNat + 1)) (ad (30 + 3 * (sB σ).toNat + 1)) (ad (30 + 3 * (sB σ).toNat + 1)) (CS_fm hC (show 30 ≤ 30 + 3 * (sB σ).toNat + 1 by omega) (by omega)) (CS_fm hC (show 30 ≤ 30 + 3 * (sB σ).toNat + 1 by omega) (by omega)) (CS_fm hC (show 30 ≤ 30 + 3 * (sB σ).toNat + 1 by omega) (by omega)) (CS_ne hC (by omega) (by decide) (by omega)) gy gy) o1.1 o1.2 (by decide) rfl rfl rfl (Nat.le_of_ble_eq_true rfl) rfl rfl ⟨Nat.le_of_ble_eq_true rfl, Nat.le_of_ble_eq_true rfl⟩ ⟨by decide, by decide⟩ (fun v9 M9 hq9 => ?_)
      obtain ⟨rfl, L1, e9, fr1, v1, g1, r1⟩ := hq9
      refine q_st (st2 := []) rfl ?_
      refine q_mem (M2 := wL M L1) e9 ?_
      replace v1 : gT L1 (ad (30 + 3 * (sB σ).toNat + 1)) = sqN (i + 1) (sF σ 4) := by show _ = mulT (sqN i (sF σ 4)) (sqN i (sF σ 4)); rw [← hy]; exact v1
      have fb : frA ad (mL M) L1 [5, 6, 4, 30 + 3 * (sB σ).toNat + 1] := frA_tr fa (frA_4 (L := L) fr1)
      refine q_iinc (lv' := [(3, .int (qI (((i : Int)) + 1))), (2, .int (qI (k_2 σ n))), (1, .int (qI (n))), (0, .ref (ad 0))]) G 0 dX4_work_82 rfl (by decide) rfl ?_
      refine q_goto (tgt := 49) G dX4_work_85 (by decide) ?_
      have m1x : (k_2 σ n - ((i + 1 : Nat) : Int)).toNat < w9 ∧ ((i + 1 : Nat) : Int) ≤ k_2 σ n := by clear gy hy v1 g1 r1; omega
      refine q_lvs [0, 1, 2, 3] rfl ?_
      exact ih (i + 1) L1 m1x.1 ⟨m1x.2, fb, v1⟩
set_option maxRecDepth 100000 in
set_option maxHeartbeats 4000000 in
theorem c_X4_work (l : Launch) (hl : l.stackTraces = false) (D : va_G) (cy : Nat → ClassId) (M : qM) (ad : Nat → Nat) (hC : CSt M ad) (σ : qS) (hY : CDy σ ad (mI M) (mL M) (mR M)) (hW : WF σ) (n : Int) (hn : r32 n) : qCx l D cy yX4_work cX4_work 4 (some .int) { frames := 7, cells := 3, slots := 18, locals := 110 } 3 18 [.ref (ad 0), .int (qI (n))] M (fun v M' => e_2 σ n = 0 ∧ poC M ad (n_2 σ n) (fun v => v = some (.int (qI (a_2 σ n)))) v M') (fun E => (E = sIS ∧ e_2 σ n = 1) ∨ (E = sIA ∧ e_2 σ n = 2)) := by
  refine qCx_of (lv0 := [(0, .ref (ad 0)), (1, .int (qI (n)))]) (by decide) rfl (Nat.le_of_ble_eq_true rfl) ?_
  intro p e s m args below meth c G ht hret
  obtain ⟨⟨y4, y5, y6⟩, yD, yV, yF, yB, yR, -⟩ := id hY
  obtain ⟨w1, w2, w3⟩ := WF_n hW
  have o0 := CS_x hC
  have o1 := CS_fo hC
  have a11 := CS_a1 hC
  have a12 := CS_a2 hC
  have a13 := CS_a3 hC
  obtain ⟨s0, s1, s2, s3⟩ := hC.2.2.2.1
  have z4 : mI M (ad 0) 4 = 0 ∨ mI M (ad 0) 4 = 1 := by omega
  rcases w3 with hU | hU
  · have r6 : mR M (ad 0) 6 = none := by rw [y6, if_neg (by omega)]
    refine q_aload_n G 0 0 dX4_work_0 rfl rfl ?_
    refine q_callVX (As := []) (rest := []) G dX4_work_1 cw_X4_63 (c_X4_needDiscriminant l hl D cy M (ad 0) o0 z4) o0.1 o0.2 (by decide) rfl rfl rfl (Nat.le_of_ble_eq_true rfl) rfl rfl ⟨Nat.le_of_ble_eq_true rfl, Nat.le_of_ble_eq_true rfl⟩ ⟨by decide, by decide⟩ (fun E9 ce9 q9 H9 lc9 ls9 hx9 h91 h92 h93 h94 h95 h96 h97 => q_outX G ht (Or.inl (⟨hx9.1, by have h9 := hx9.2; unfold e_2; omega⟩)) h91 h93 h95 h96 h97 (by omega) (by omega)) (fun v9 M9 hq9 => ?_)
    obtain ⟨⟨rfl, e9⟩, zD⟩ := hq9
    refine q_st (st2 := []) rfl ?_
    refine q_mem e9 ?_
    refine q_iload_n G 1 1 dX4_work_4 rfl rfl ?_
    refine q_callSX (As := [.int (qI (n))]) (rest := []) G dX4_work_5 cw_X4_66 (c_X4_needTurns l hl D cy M n (by omega)) rfl rfl (Nat.le_of_ble_eq_true rfl) rfl rfl ⟨Nat.le_of_ble_eq_true rfl, Nat.le_of_ble_eq_true rfl⟩ ⟨by decide, by decide⟩ (fun E9 ce9 q9 H9 lc9 ls9 hx9 h91 h92 h93 h94 h95 h96 h97 => q_outX G ht (Or.inr (⟨hx9.1, by have h9 := hx9.2; unfold e_2; omega⟩)) h91 h93 h95 h96 h97 (by omega) (by omega)) (fun v9 M9 hq9 => ?_)
    obtain ⟨⟨rfl, e9⟩, zT⟩ := hq9
    refine q_st (st2 := []) rfl ?_
    refine q_mem e9 ?_
    refine q_aload_n G 0 0 dX4_work_8 rfl rfl ?_
    refine q_gt (v := .null) G dX4_work_9 fl_X4_42 o0 (by decide) rfl (congrArg va_rf r6) ?_
    refine q_ifnull (x := none) (tgt := 25) G dX4_work_12 (by decide) (fun _ => ?_) (fun _ h9 => nomatch h9)
    exact q_throw (P0 := []) G hl qt_54_117 (Or.inl (⟨rfl, by unfold e_2; omega⟩)) dX4_work_25 dX4_work_28 dX4_work_29 dX4_work_31 dX4_work_34 ht (by decide) (by decide) (by decide) (by decide) (by omega) (by omega)
  · have r6 : mR M (ad 0) 6 = some (ad (rnN σ)) := by rw [y6, if_pos hU]
    have hB6 := hW.2.1.2.2 hU
    have hrn : 14 ≤ rnN σ ∧ rnN σ < 30 := by unfold rnN; omega
    have oR := CS_rd hC hrn.1 hrn.2
    obtain ⟨⟨q0r, q3r, q4r⟩, q1r, q2r, q5r⟩ := yR hU
    have hk := hW.2.2.2.2.2.2 hU
    obtain ⟨⟨hk1, hk2, hk3⟩, hk4, hk5, hk6, hk7⟩ := hk
    clear hk6 hk7
    refine q_aload_n G 0 0 dX4_work_0 rfl rfl ?_
    refine q_callVX (As := []) (rest := []) G dX4_work_1 cw_X4_63 (c_X4_needDiscriminant l hl D cy M (ad 0) o0 z4) o0.1 o0.2 (by decide) rfl rfl rfl (Nat.le_of_ble_eq_true rfl) rfl rfl ⟨Nat.le_of_ble_eq_true rfl, Nat.le_of_ble_eq_true rfl⟩ ⟨by decide, by decide⟩ (fun E9 ce9 q9 H9 lc9 ls9 hx9 h91 h92 h93 h94 h95 h96 h97 => q_outX G ht (Or.inl (⟨hx9.1, by have h9 := hx9.2; unfold e_2; omega⟩)) h91 h93 h95 h96 h97 (by omega) (by omega)) (fun v9 M9 hq9 => ?_)
    obtain ⟨⟨rfl, e9⟩, zD⟩ := hq9
    refine q_st (st2 := []) rfl ?_
    refine q_mem e9 ?_
    refine q_iload_n G 1 1 dX4_work_4 rfl rfl ?_
    refine q_callSX (As := [.int (qI (n))]) (rest := []) G dX4_work_5 cw_X4_66 (c_X4_needTurns l hl D cy M n (by omega)) rfl rfl (Nat.le_of_ble_eq_true rfl) rfl rfl ⟨Nat.le_of_ble_eq_true rfl, Nat.le_of_ble_eq_true rfl⟩ ⟨by decide, by decide⟩ (fun E9 ce9 q9 H9 lc9 ls9 hx9 h91 h92 h93 h94 h95 h96 h97 => q_outX G ht (Or.inr (⟨hx9.1, by have h9 := hx9.2; unfold e_2; omega⟩)) h91 h93 h95 h96 h97 (by omega) (by omega)) (fun v9 M9 hq9 => ?_)
    obtain ⟨⟨rfl, e9⟩, zT⟩ := hq9
    refine q_st (st2 := []) rfl ?_
    refine q_mem e9 ?_
    refine q_aload_n G 0 0 dX4_work_8 rfl rfl ?_
    refine q_gt (v := .ref (ad (rnN σ))) G dX4_work_9 fl_X4_42 o0 (by decide) rfl (congrArg va_rf r6) ?_
    refine q_ifnull (x := some (ad (rnN σ))) (tgt := 25) G dX4_work_12 (by decide) (fun h9 => nomatch h9) (fun _ _ => ?_)
    refine q_aload_n G 0 0 dX4_work_15 rfl rfl ?_
    refine q_gt (v := .ref (ad (rnN σ))) G dX4_work_16 fl_X4_42 o0 (by decide) rfl (congrArg va_rf r6) ?_
    refine q_gt (v := .int (qI (mI M (ad (rnN σ)) 1))) G dX4_work_19 fl_X4_74 oR (by decide) rfl rfl ?_
    refine q_if_ne (tgt := 35) G dX4_work_22 (by decide) (by omega) (fun c1 => ?_) (fun c1 => ?_)
    · refine q_iload_n G 1 1 dX4_work_35 rfl rfl ?_
      refine q_aload_n G 0 0 dX4_work_36 rfl rfl ?_
      refine q_gt (v := .ref (ad (rnN σ))) G dX4_work_37 fl_X4_42 o0 (by decide) rfl (congrArg va_rf r6) ?_
      refine q_gt (v := .int (qI (mI M (ad (rnN σ)) 1))) G dX4_work_40 fl_X4_74 oR (by decide) rfl rfl ?_
      refine q_min G dX4_work_43 tw_362 (by first | assumption | omega) (by first | assumption | omega) (by decide) (by decide) (by decide) (by decide) ?_
      refine q_topI (z2 := k_2 σ n) (by unfold k_2; rw [q1r]) ?_
      refine q_istore_n (lv' := [(2, .int (qI (k_2 σ n))), (0, .ref (ad 0)), (1, .int (qI (n)))]) G 2 dX4_work_46 rfl (by decide) rfl ?_
      refine q_iconst G dX4_work_47 ?_
      refine q_istore_n (lv' := [(3, .int (qI (0))), (2, .int (qI (k_2 σ n))), (0, .ref (ad 0)), (1, .int (qI (n)))]) G 3 dX4_work_48 rfl (by decide) rfl ?_
      refine q_retX ?_
      refine q_lvs [0, 1, 3, 2] rfl ?_
      exact l_work4 l D cy M ad hC σ hY hW n (by omega) (by omega) hU (by omega) (by unfold e_2; omega) G hret _ 0 (mL M) (Nat.lt_succ_self _) ⟨by unfold k_2; omega, frA_rf _, by have h9 := yF 4 (Or.inr (Or.inl ⟨by decide, by decide, hU⟩)); rw [show frN σ 4 = 30 + 3 * (sB σ).toNat + 1 by unfold frN; rw [if_neg (by decide), if_pos (by decide)]; omega] at h9; exact h9⟩
    · exact q_throw (P0 := []) G hl qt_54_117 (Or.inl (⟨rfl, by unfold e_2; omega⟩)) dX4_work_25 dX4_work_28 dX4_work_29 dX4_work_31 dX4_work_34 ht (by decide) (by decide) (by decide) (by decide) (by omega) (by omega)
def poSt (M : qM) (ad : Nat → Nat) (rn rx rp : Nat) : Option Value → qM → Prop := fun v M' => v = none ∧ ∃ I L, M' = wI M I L ∧ (∀ b k, ¬ (b = ad rn ∧ k = 5) → I b k = mI M b k) ∧ I (ad rn) 5 = (stT (gT (mL M) (ad rx)) (mI M (ad rn) 4) (gT (mL M) (ad rp), mI M (ad rn) 5)).2 ∧ frA ad (mL M) L [5, 6, 4, rp] ∧ gT L (ad rp) = (stT (gT (mL M) (ad rx)) (mI M (ad rn) 4) (gT (mL M) (ad rp), mI M (ad rn) 5)).1
set_option maxRecDepth 100000 in
set_option maxHeartbeats 4000000 in
theorem c_X4_stepOfProof (l : Launch) (D : va_G) (cy : Nat → ClassId) (M : qM) (ad : Nat → Nat) (hC : CSt M ad) (rn rx rp : Nat) (hrn : 14 ≤ rn ∧ rn < 30) (hrx : 30 ≤ rx ∧ rx < 81) (hrp : 30 ≤ rp ∧ rp < 81) (hxp : rx ≠ rp) (h6 : mR M (ad rn) 6 = some (ad rx)) (h8 : mR M (ad rn) 8 = some (ad rp)) (hdm : dOk (mI M (ad 1) 0)) (gx : gd (mI M (ad 1) 0) (gT (mL M) (ad rx))) (gp : gd (mI M (ad 1) 0) (gT (mL M) (ad rp))) (hr5 : 0 ≤ mI M (ad rn) 5 ∧ mI M (ad rn) 5 < mI M (ad rn) 4) (hr4 : mI M (ad rn) 4 ≤ 65539) : qCt l D cy yX4_stepOfProof cX4_stepOfProof 2 none { frames := 4, cells := 0, slots := 0, locals := 103 } 0 0 [.ref (ad 0), .ref (ad rn)] M (poSt M ad rn rx rp) := by
  refine qCt_of (lv0 := [(0, .ref (ad 0)), (1, .ref (ad rn))]) (by decide) rfl (Nat.le_of_ble_eq_true rfl) ?_
  intro p e s m args below meth c G hname hret
  have o0 := CS_x hC
  have o1 := CS_fo hC
  obtain ⟨s0, s1, s2, s3⟩ := hC.2.2.2.1
  have oR := CS_rd hC hrn.1 hrn.2
  have oX := CS_fm hC hrx.1 hrx.2
  have oP := CS_fm hC hrp.1 hrp.2
  have hd7 := hdm.1
  have hd9 := hdm.2.1
  have hFO := CS_FO hC (by omega)
  have np := CS_ne hC (r := rp) (s := 5) (by omega) (by decide) (by omega)
  have nx := CS_ne hC (r := rx) (s := 5) (by omega) (by decide) (by omega)
  refine q_aload_n G 0 0 dX4_stepOfProof_0 rfl rfl ?_
  refine q_gt (v := .ref (ad 1)) G dX4_stepOfProof_1 fl_X4_10 o0 (by decide) rfl (congrArg va_rf s0) ?_
  refine q_aload_n G 1 1 dX4_stepOfProof_4 rfl rfl ?_
  refine q_gt (v := .ref (ad rp)) G dX4_stepOfProof_5 fl_X4_111 oR (by decide) rfl (congrArg va_rf h8) ?_
  refine q_aload_n G 1 1 dX4_stepOfProof_8 rfl rfl ?_
  refine q_gt (v := .ref (ad rp)) G dX4_stepOfProof_9 fl_X4_111 oR (by decide) rfl (congrArg va_rf h8) ?_
  refine q_aload_n G 1 1 dX4_stepOfProof_12 rfl rfl ?_
  refine q_gt (v := .ref (ad rp)) G dX4_stepOfProof_13 fl_X4_111 oR (by decide) rfl (congrArg va_rf h8) ?_
  refine q_callV (As := [.ref (ad rp), .ref (ad rp), .ref (ad rp)]) (rest := []) G dX4_stepOfProof_16 cw_X4_125 (c_prodT l D cy M (ad 1) (ad 2) (ad 3) (ad 4) (ad 5) (ad 6) (ad 7) (ad 8) (ad 9) (ad 10) hFO hdm (ad rp) (ad rp) (ad rp) oP oP oP np gp gp) o1.1 o1.2 (by decide) rfl rfl rfl (Nat.le_of_ble_eq_true rfl) rfl rfl ⟨Nat.le_of_ble_eq_true rfl, Nat.le_of_ble_eq_true rfl⟩ ⟨by decide, by decide⟩ (fun v9 M9 hq9 => ?_)
  obtain ⟨rfl, L1, e9, fr1, v1, g1, r1⟩ := hq9
  refine q_st (st2 := []) rfl ?_
  refine q_mem (M2 := wL M L1) e9 ?_
  have fa : frA ad (mL M) L1 [5, 6, 4, rp] := frA_4 fr1
  have gx1 : gT L1 (ad rx) = gT (mL M) (ad rx) := frA_T fa (CS_nin hC hrx.2 (by intro s hs; simp at hs; omega))
  refine q_aload_n G 1 1 dX4_stepOfProof_19 rfl rfl ?_
  refine q_iconst G dX4_stepOfProof_20 ?_
  refine q_aload_n G 1 1 dX4_stepOfProof_21 rfl rfl ?_
  refine q_gt (v := .int (qI (mI M (ad rn) 5))) G dX4_stepOfProof_22 fl_X4_83 oR (by decide) rfl rfl ?_
  refine q_imul G dX4_stepOfProof_25 ?_
  refine q_pI (z := 2 * (mI M (ad rn) 5)) G dX4_stepOfProof_26 (pl_X4_83 _) nf_3_5 oR (by decide) (Nat.le_of_ble_eq_true rfl) (fs_3_5 _ _ _) ?_
  refine q_aload_n G 1 1 dX4_stepOfProof_29 rfl rfl ?_
  refine q_gt (v := .int (qI (2 * (mI M (ad rn) 5)))) G dX4_stepOfProof_30 fl_X4_83 oR (by decide) rfl (by simp [mI, mL, mR, sL, sI, sR, wL, wD, stF, up2]) ?_
  refine q_aload_n G 1 1 dX4_stepOfProof_33 rfl rfl ?_
  refine q_gt (v := .int (qI (mI M (ad rn) 4))) G dX4_stepOfProof_34 fl_X4_80 oR (by decide) rfl (by simp [mI, mL, mR, sL, sI, sR, wL, wD, stF, up2]) ?_
  refine q_icmp_lt (tgt := 72) G dX4_stepOfProof_37 (by decide) (by omega) (by omega) (fun c1 => ?_) (fun c1 => ?_)
  · exact q_vret G dX4_stepOfProof_72 hret (by omega) (by omega) (⟨rfl, up2 (mI M) (ad rn) 5 (2 * mI M (ad rn) 5), L1, rfl, fun b k h9 => up2_n _ _ h9, by rw [up2_s]; unfold stT; rw [if_neg (by omega)], fa, by unfold stT; rw [if_neg (by omega), v1]⟩)
  · have hm2 : mI (sI (wL M L1) (ad rn) 5 (2 * (mI M (ad rn) 5))) (ad 1) 0 = mI M (ad 1) 0 := up2_a _ _ (CS_ne hC (by decide) (by omega) (by omega))
    have hdm2 : dOk (mI (sI (wL M L1) (ad rn) 5 (2 * (mI M (ad rn) 5))) (ad 1) 0) := by rw [hm2]; exact hdm
    have hFO2 := CS_FO (M := sI (wL M L1) (ad rn) 5 (2 * (mI M (ad rn) 5))) hC (by rw [hm2]; omega)
    refine q_aload_n G 0 0 dX4_stepOfProof_40 rfl rfl ?_
    refine q_gt (v := .ref (ad 1)) G dX4_stepOfProof_41 fl_X4_10 o0 (by decide) rfl (congrArg va_rf s0) ?_
    refine q_aload_n G 1 1 dX4_stepOfProof_44 rfl rfl ?_
    refine q_gt (v := .ref (ad rp)) G dX4_stepOfProof_45 fl_X4_111 oR (by decide) rfl (congrArg va_rf h8) ?_
    refine q_aload_n G 1 1 dX4_stepOfProof_48 rfl rfl ?_
    refine q_gt (v := .ref (ad rx)) G dX4_stepOfProof_49 fl_X4_97 oR (by decide) rfl (congrArg va_rf h6) ?_
    refine q_aload_n G 1 1 dX4_stepOfProof_52 rfl rfl ?_
    refine q_gt (v := .ref (ad rp)) G dX4_stepOfProof_53 fl_X4_111 oR (by decide) rfl (congrArg va_rf h8) ?_
    refine q_callV (As := [.ref (ad rp), .ref (ad rx), .ref (ad rp)]) (rest := []) G dX4_stepOfProof_56 cw_X4_125 (c_prodT l D cy (sI (wL M L1) (ad rn) 5 (2 * (mI M (ad rn) 5))) (ad 1) (ad 2) (ad 3) (ad 4) (ad 5) (ad 6) (ad 7) (ad 8) (ad 9) (ad 10) hFO2 hdm2 (ad rp) (ad rx) (ad rp) oP oX oP nx (show gd (mI (sI (wL M L1) (ad rn) 5 (2 * (mI M (ad rn) 5))) (ad 1) 0) (gT L1 (ad rp)) by rw [hm2]; exact g1) (show gd (mI (sI (wL M L1) (ad rn) 5 (2 * (mI M (ad rn) 5))) (ad 1) 0) (gT L1 (ad rx)) by rw [hm2, gx1]; exact gx)) o1.1 o1.2 (by decide) rfl rfl rfl (Nat.le_of_ble_eq_true rfl) rfl rfl ⟨Nat.le_of_ble_eq_true rfl, Nat.le_of_ble_eq_true rfl⟩ ⟨by decide, by decide⟩ (fun v9 M9 hq9 => ?_)
    obtain ⟨rfl, L2, e9, fr2, v2, g2, r2⟩ := hq9
    refine q_st (st2 := []) rfl ?_
    refine q_mem (M2 := wL (sI M (ad rn) 5 (2 * mI M (ad rn) 5)) L2) e9 ?_
    have fb : frA ad (mL M) L2 [5, 6, 4, rp] := frA_tr fa (frA_4 (L := L1) fr2)
    replace v2 : gT L2 (ad rp) = mulT (gT L1 (ad rp)) (gT L1 (ad rx)) := v2
    refine q_aload_n G 1 1 dX4_stepOfProof_59 rfl rfl ?_
    refine q_dup G dX4_stepOfProof_60 rfl ?_
    refine q_gt (v := .int (qI (2 * mI M (ad rn) 5))) G dX4_stepOfProof_61 fl_X4_83 oR (by decide) rfl (by simp [mI, mL, mR, sL, sI, sR, wL, wD, stF, up2]) ?_
    refine q_aload_n G 1 1 dX4_stepOfProof_64 rfl rfl ?_
    refine q_gt (v := .int (qI (mI M (ad rn) 4))) G dX4_stepOfProof_65 fl_X4_80 oR (by decide) rfl (by simp [mI, mL, mR, sL, sI, sR, wL, wD, stF, up2]) ?_
    refine q_isub G dX4_stepOfProof_68 ?_
    refine q_pI (z := (2 * mI M (ad rn) 5) - (mI M (ad rn) 4)) G dX4_stepOfProof_69 (pl_X4_83 _) nf_3_5 oR (by decide) (Nat.le_of_ble_eq_true rfl) (fs_3_5 _ _ _) ?_
    exact q_vret G dX4_stepOfProof_72 hret (by omega) (by omega) (⟨rfl, up2 (up2 (mI M) (ad rn) 5 (2 * mI M (ad rn) 5)) (ad rn) 5 (2 * mI M (ad rn) 5 - mI M (ad rn) 4), L2, rfl, fun b k h9 => by rw [up2_n _ _ h9, up2_n _ _ h9], by rw [up2_s]; unfold stT; rw [if_pos (by omega)], fb, by unfold stT; rw [if_pos (by omega), v2, v1, gx1]⟩)
set_option maxRecDepth 100000 in
set_option maxHeartbeats 4000000 in
theorem l_prove4 {p : Program} {e : Env} {s : State} {m : MethodId} {args : Array Value} {below : List Frame} {meth : Method} {c : Code} (l : Launch) (D : va_G) (cy : Nat → ClassId) (M : qM) (ad : Nat → Nat) (hC : CSt M ad) (σ : qS) (hY : CDy σ ad (mI M) (mL M) (mR M)) (hW : WF σ) (n : Int) (hn : 0 < n ∧ n < 501) (hD0 : sD σ ≠ 0) (hU : sU σ = 1) (hQ0 : sQ σ = 0) (hT0 : sT σ ≠ 0) (he : e_3 σ n = 0) (G : qG p s m args meth c cX4_prove 4 yX4_prove.cls D cy (qA (mP M) s.heap.size)) (hret : meth.sig.returnType = (some .int)) : ∀ (w9 : Nat) (i : Nat) (I : Nat → Nat → Int) (L : Nat → Nat → Int), (k_3 σ n - (i : Int)).toNat < w9 → (i : Int) ≤ k_3 σ n ∧ (∀ b k, ¬ (b = ad (rnN σ) ∧ k = 5) → I b k = mI M b k) ∧ I (ad (rnN σ)) 5 = (u_3 σ i).2 ∧ frA ad (mL M) L [5, 6, 4, 30 + 3 * (sB σ).toNat + 2] ∧ gT L (ad (30 + 3 * (sB σ).toNat + 2)) = (u_3 σ i).1 → qK p l e { frames := 7, cells := 3, slots := 18, locals := 124 } s m args below meth c (MQ below (qQ D cy (mP M) (fun v M' => e_3 σ n = 0 ∧ poC M ad (n_3 σ n) (fun v => v = some (.int (qI (a_3 σ n)))) v M')) args s 3 18 (qA (mP M) s.heap.size)) 4 D cy (qA (mP M) s.heap.size) 2 12 59 [(3, .int (qI ((i : Int)))), (2, .int (qI (k_3 σ n))), (1, .int (qI (n))), (0, .ref (ad 0))] [] (wI M I L) := by
  intro w9
  induction w9 with
  | zero => intro i I L h9; exact absurd h9 (Nat.not_lt_zero _)
  | succ w9 ih =>
    intro i I L hm hI
    obtain ⟨i1, hI1, hI5, fa, hy⟩ := hI
    obtain ⟨⟨y4, y5, y6⟩, yD, yV, yF, yB, yR, -⟩ := id hY
    obtain ⟨w1, w2, w3⟩ := WF_n hW
    have o0 := CS_x hC
    have o1 := CS_fo hC
    obtain ⟨s0, s1, s2, s3⟩ := hC.2.2.2.1
    have hd : dOk (sD σ) := by rcases hW.1 with h9 | h9; exact absurd h9 hD0; exact h9
    obtain ⟨d1, d2, d3⟩ := yD hD0
    have hd7 := hd.1
    have hd9 := hd.2.1
    have hdm : dOk (mI M (ad 1) 0) := by rw [d1]; exact hd
    have hFO := CS_FO hC (by omega)
    have r6 : mR M (ad 0) 6 = some (ad (rnN σ)) := by rw [y6, if_pos hU]
    have hB6 := hW.2.1.2.2 hU
    have hrn : 14 ≤ rnN σ ∧ rnN σ < 30 := by unfold rnN; omega
    have oR := CS_rd hC hrn.1 hrn.2
    obtain ⟨⟨q0r, q3r, q4r⟩, q1r, q2r, q5r⟩ := yR hU
    have hk := hW.2.2.2.2.2.2 hU
    obtain ⟨⟨hk1, hk2, hk3⟩, hk4, hk5, hk6, hk7⟩ := hk
    clear hk6 hk7
    have x0 : gT (mL M) (ad (30 + 3 * (sB σ).toNat + 0)) = sF σ 3 := by have h9 := yF 3 (Or.inr (Or.inl ⟨by decide, by decide, hU⟩)); rw [show frN σ 3 = 30 + 3 * (sB σ).toNat + 0 by unfold frN; rw [if_neg (by decide), if_pos (by decide)]; omega] at h9; exact h9
    have x1 : gT (mL M) (ad (30 + 3 * (sB σ).toNat + 1)) = sF σ 4 := by have h9 := yF 4 (Or.inr (Or.inl ⟨by decide, by decide, hU⟩)); rw [show frN σ 4 = 30 + 3 * (sB σ).toNat + 1 by unfold frN; rw [if_neg (by decide), if_pos (by decide)]; omega] at h9; exact h9
    have x2 : gT (mL M) (ad (30 + 3 * (sB σ).toNat + 2)) = sF σ 5 := by have h9 := yF 5 (Or.inr (Or.inl ⟨by decide, by decide, hU⟩)); rw [show frN σ 5 = 30 + 3 * (sB σ).toNat + 2 by unfold frN; rw [if_neg (by decide), if_pos (by decide)]; omega] at h9; exact h9
    have lx0 : gd (sD σ) (sF σ 3) := hW.2.2.2.2.1 3 (Or.inr (Or.inl ⟨by decide, by decide, hU⟩))
    have lx1 : gd (sD σ) (sF σ 4) := hW.2.2.2.2.1 4 (Or.inr (Or.inl ⟨by decide, by decide, hU⟩))
    have lx2 : gd (sD σ) (sF σ 5) := hW.2.2.2.2.1 5 (Or.inr (Or.inl ⟨by decide, by decide, hU⟩))
    have hq6 := (hW.2.2.2.2.2.2 hU).2.2.2.1 hQ0
    have hpr := hq6.1
    have hk0 : 0 ≤ k_3 σ n ∧ k_3 σ n ≤ sT σ ∧ sT σ ≤ 500 := by unfold k_3; omega
    have hu : gd (sD σ) (u_3 σ i).1 ∧ 0 ≤ (u_3 σ i).2 ∧ (u_3 σ i).2 < sC σ 50 := stN_ok hd lx0 (u := (sF σ 5, sX σ)) (pr := sC σ 50) ⟨lx2, hq6.2.1, hq6.2.2⟩ i
    obtain ⟨hu1, hu2, hu3⟩ := hu
    have m1 : I (ad 1) 0 = mI M (ad 1) 0 := hI1 _ _ (fun h9 => absurd h9.2 (by decide))
    have m4 : I (ad (rnN σ)) 4 = sC σ 50 := (hI1 _ _ (fun h9 => absurd h9.2 (by decide))).trans q4r
    have m2 : I (ad (rnN σ)) 2 = sT σ := (hI1 _ _ (fun h9 => absurd h9.2 (by decide))).trans q2r
    have g0 : gT L (ad (30 + 3 * (sB σ).toNat + 0)) = sF σ 3 := (frA_T fa (CS_nin hC (r := 30 + 3 * (sB σ).toNat + 0) (by omega) (by intro s hs; simp at hs; omega))).trans x0
    have g1y : gT L (ad (30 + 3 * (sB σ).toNat + 1)) = sF σ 4 := (frA_T fa (CS_nin hC (r := 30 + 3 * (sB σ).toNat + 1) (by omega) (by intro s hs; simp at hs; omega))).trans x1
    refine q_iload_n G 0 3 dX4_prove_59 rfl rfl ?_
    refine q_iload_n G 1 2 dX4_prove_60 rfl rfl ?_
    refine q_icmp_ge (tgt := 78) G dX4_prove_61 (by decide) (by omega) (by omega) (fun c1 => ?_) (fun c1 => ?_)
    · have hik : i = (k_3 σ n).toNat := by clear hu1 hy g0 g1y; omega
      refine q_aload_n G 3 0 dX4_prove_78 rfl rfl ?_
      refine q_gt (v := .ref (ad (rnN σ))) G dX4_prove_79 fl_X4_42 o0 (by decide) rfl (congrArg va_rf r6) ?_
      refine q_dup G dX4_prove_82 rfl ?_
      refine q_gt (v := .int (qI (mI (wI M I L) (ad (rnN σ)) 2))) G dX4_prove_83 fl_X4_77 oR (by decide) rfl rfl ?_
      refine q_iload_n G 1 2 dX4_prove_86 rfl rfl ?_
      refine q_isub G dX4_prove_87 ?_
      refine q_pI (z := (mI (wI M I L) (ad (rnN σ)) 2) - (k_3 σ n)) G dX4_prove_88 (pl_X4_77 _) nf_3_2 oR (by decide) (Nat.le_of_ble_eq_true rfl) (fs_3_2 _ _ _) ?_
      refine q_aload_n G 3 0 dX4_prove_91 rfl rfl ?_
      refine q_gt (v := .ref (ad (rnN σ))) G dX4_prove_92 fl_X4_42 o0 (by decide) rfl (congrArg va_rf r6) ?_
      refine q_gt (v := .int (qI ((mI (wI M I L) (ad (rnN σ)) 2) - (k_3 σ n)))) G dX4_prove_95 fl_X4_77 oR (by decide) rfl (by simp [mI, mL, mR, sL, sI, sR, wL, wD, stF, up2, wI]) ?_
      exact q_iret G dX4_prove_98 hret (by omega) (by omega) (⟨he, ⟨up2 I (ad (rnN σ)) 2 (I (ad (rnN σ)) 2 - k_3 σ n), L, mR M, rfl, fun b hb => ⟨by rw [up2_row _ _ (hb _ (by omega))]; funext k; exact hI1 b k (fun h9 => hb (rnN σ) (by omega) h9.1), frA_o fa (by intro s hs; simp at hs; omega) hb, rfl⟩, hC, CD_R (σ' := n_3 σ n) hC hW hY hB6 rfl rfl hU (fun _ _ => rfl) (fun k hk => by show up1 (sF σ) 5 _ k = sF σ k; rw [up1_n _ _ (by omega)]) (fun _ _ => rfl) fa (by intro s hs; simp at hs; omega) (fun k hk => by rcases (show k = 0 ∨ k = 1 ∨ k = 2 by omega) with rfl | rfl | rfl; exact g0; exact g1y; (show gT L (ad (30 + 3 * (sB σ).toNat + 2)) = (u_3 σ (k_3 σ n).toNat).1); rw [← hik]; exact hy) (fun b hb => by rw [up2_row _ _ hb]; funext k; exact hI1 b k (fun h9 => hb h9.1)) ⟨⟨(by rw [up2_k _ _ (by decide)]; exact ((hI1 _ _ (fun h9 => absurd h9.2 (by decide))).trans q0r)), (by rw [up2_k _ _ (by decide)]; exact ((hI1 _ _ (fun h9 => absurd h9.2 (by decide))).trans q3r)), (by rw [up2_k _ _ (by decide)]; exact m4)⟩, (by rw [up2_k _ _ (by decide)]; exact ((hI1 _ _ (fun h9 => absurd h9.2 (by decide))).trans q1r)), (by rw [up2_s, m2]; rfl), (by rw [up2_k _ _ (by decide), hI5, hik]; rfl)⟩ r6, by rw [show mI (wI M I L) (ad (rnN σ)) 2 = sT σ from m2]; rfl⟩⟩)
    · refine q_aload_n G 3 0 dX4_prove_64 rfl rfl ?_
      refine q_aload_n G 3 0 dX4_prove_65 rfl rfl ?_
      refine q_gt (v := .ref (ad (rnN σ))) G dX4_prove_66 fl_X4_42 o0 (by decide) rfl (congrArg va_rf r6) ?_
      refine q_callV (As := [.ref (ad (rnN σ))]) (rest := []) G dX4_prove_69 cw_X4_135 (c_X4_stepOfProof l D cy (wI M I L) ad hC (rnN σ) (30 + 3 * (sB σ).toNat + 0) (30 + 3 * (sB σ).toNat + 2) hrn (by omega) (by omega) (by omega) (hC.2.2.2.2.2.2.2 (sB σ).toNat 0 (by omega) (by decide)) (hC.2.2.2.2.2.2.2 (sB σ).toNat 2 (by omega) (by decide)) (show dOk (I (ad 1) 0) by rw [m1]; exact hdm) (show gd (I (ad 1) 0) (gT L (ad (30 + 3 * (sB σ).toNat + 0))) by rw [m1, d1, g0]; exact lx0) (show gd (I (ad 1) 0) (gT L (ad (30 + 3 * (sB σ).toNat + 2))) by rw [m1, d1, hy]; exact hu1) (show 0 ≤ I (ad (rnN σ)) 5 ∧ I (ad (rnN σ)) 5 < I (ad (rnN σ)) 4 by rw [hI5, m4]; exact ⟨hu2, hu3⟩) (show I (ad (rnN σ)) 4 ≤ 65539 by rw [m4]; omega)) o0.1 o0.2 (by decide) rfl rfl rfl (Nat.le_of_ble_eq_true rfl) rfl rfl ⟨Nat.le_of_ble_eq_true rfl, Nat.le_of_ble_eq_true rfl⟩ ⟨by decide, by decide⟩ (fun v9 M9 hq9 => ?_)
      obtain ⟨rfl, I9, L9, e9, hJ1, hJ5, fb, hv⟩ := hq9
      refine q_st (st2 := []) rfl ?_
      refine q_mem (M2 := wI M I9 L9) e9 ?_
      replace hJ5 : I9 (ad (rnN σ)) 5 = (u_3 σ (i + 1)).2 := by rw [hJ5]; show (stT (gT L (ad (30 + 3 * (sB σ).toNat + 0))) (I (ad (rnN σ)) 4) (gT L (ad (30 + 3 * (sB σ).toNat + 2)), I (ad (rnN σ)) 5)).2 = (stT (sF σ 3) (sC σ 50) (u_3 σ i)).2; rw [g0, m4, hy, hI5]
      replace hv : gT L9 (ad (30 + 3 * (sB σ).toNat + 2)) = (u_3 σ (i + 1)).1 := by rw [hv]; show (stT (gT L (ad (30 + 3 * (sB σ).toNat + 0))) (I (ad (rnN σ)) 4) (gT L (ad (30 + 3 * (sB σ).toNat + 2)), I (ad (rnN σ)) 5)).1 = (stT (sF σ 3) (sC σ 50) (u_3 σ i)).1; rw [g0, m4, hy, hI5]
      replace hJ1 : ∀ b k, ¬ (b = ad (rnN σ) ∧ k = 5) → I9 b k = mI M b k := fun b k h9 => (hJ1 b k h9).trans (hI1 b k h9)
      replace fb : frA ad (mL M) L9 [5, 6, 4, 30 + 3 * (sB σ).toNat + 2] := frA_tr fa fb
      refine q_iinc (lv' := [(3, .int (qI (((i : Int)) + 1))), (2, .int (qI (k_3 σ n))), (1, .int (qI (n))), (0, .ref (ad 0))]) G 0 dX4_prove_72 rfl (by decide) rfl ?_
      refine q_goto (tgt := 59) G dX4_prove_75 (by decide) ?_
      have m1x : (k_3 σ n - ((i + 1 : Nat) : Int)).toNat < w9 ∧ ((i + 1 : Nat) : Int) ≤ k_3 σ n := by clear hJ5 hv hJ1 fb m1 m4 m2 g0 g1y hu1; omega
      refine q_lvs [0, 1, 2, 3] rfl ?_
      exact ih (i + 1) I9 L9 m1x.1 ⟨m1x.2, hJ1, hJ5, fb, hv⟩
set_option maxRecDepth 100000 in
set_option maxHeartbeats 4000000 in
theorem c_X4_prove (l : Launch) (hl : l.stackTraces = false) (D : va_G) (cy : Nat → ClassId) (M : qM) (ad : Nat → Nat) (hC : CSt M ad) (σ : qS) (hY : CDy σ ad (mI M) (mL M) (mR M)) (hW : WF σ) (n : Int) (hn : r32 n) : qCx l D cy yX4_prove cX4_prove 4 (some .int) { frames := 7, cells := 3, slots := 18, locals := 124 } 3 18 [.ref (ad 0), .int (qI (n))] M (fun v M' => e_3 σ n = 0 ∧ poC M ad (n_3 σ n) (fun v => v = some (.int (qI (a_3 σ n)))) v M') (fun E => (E = sIS ∧ e_3 σ n = 1) ∨ (E = sIA ∧ e_3 σ n = 2)) := by
  refine qCx_of (lv0 := [(0, .ref (ad 0)), (1, .int (qI (n)))]) (by decide) rfl (Nat.le_of_ble_eq_true rfl) ?_
  intro p e s m args below meth c G ht hret
  obtain ⟨⟨y4, y5, y6⟩, yD, yV, yF, yB, yR, -⟩ := id hY
  obtain ⟨w1, w2, w3⟩ := WF_n hW
  have o0 := CS_x hC
  have o1 := CS_fo hC
  have a11 := CS_a1 hC
  have a12 := CS_a2 hC
  have a13 := CS_a3 hC
  obtain ⟨s0, s1, s2, s3⟩ := hC.2.2.2.1
  have z4 : mI M (ad 0) 4 = 0 ∨ mI M (ad 0) 4 = 1 := by omega
  rcases w3 with hU | hU
  · have r6 : mR M (ad 0) 6 = none := by rw [y6, if_neg (by omega)]
    refine q_aload_n G 0 0 dX4_prove_0 rfl rfl ?_
    refine q_callVX (As := []) (rest := []) G dX4_prove_1 cw_X4_63 (c_X4_needDiscriminant l hl D cy M (ad 0) o0 z4) o0.1 o0.2 (by decide) rfl rfl rfl (Nat.le_of_ble_eq_true rfl) rfl rfl ⟨Nat.le_of_ble_eq_true rfl, Nat.le_of_ble_eq_true rfl⟩ ⟨by decide, by decide⟩ (fun E9 ce9 q9 H9 lc9 ls9 hx9 h91 h92 h93 h94 h95 h96 h97 => q_outX G ht (Or.inl (⟨hx9.1, by have h9 := hx9.2; unfold e_3; omega⟩)) h91 h93 h95 h96 h97 (by omega) (by omega)) (fun v9 M9 hq9 => ?_)
    obtain ⟨⟨rfl, e9⟩, zD⟩ := hq9
    refine q_st (st2 := []) rfl ?_
    refine q_mem e9 ?_
    refine q_iload_n G 1 1 dX4_prove_4 rfl rfl ?_
    refine q_callSX (As := [.int (qI (n))]) (rest := []) G dX4_prove_5 cw_X4_66 (c_X4_needTurns l hl D cy M n (by omega)) rfl rfl (Nat.le_of_ble_eq_true rfl) rfl rfl ⟨Nat.le_of_ble_eq_true rfl, Nat.le_of_ble_eq_true rfl⟩ ⟨by decide, by decide⟩ (fun E9 ce9 q9 H9 lc9 ls9 hx9 h91 h92 h93 h94 h95 h96 h97 => q_outX G ht (Or.inr (⟨hx9.1, by have h9 := hx9.2; unfold e_3; omega⟩)) h91 h93 h95 h96 h97 (by omega) (by omega)) (fun v9 M9 hq9 => ?_)
    obtain ⟨⟨rfl, e9⟩, zT⟩ := hq9
    refine q_st (st2 := []) rfl ?_
    refine q_mem e9 ?_
    refine q_aload_n G 0 0 dX4_prove_8 rfl rfl ?_
    refine q_gt (v := .null) G dX4_prove_9 fl_X4_42 o0 (by decide) rfl (congrArg va_rf r6) ?_
    refine q_ifnull (x := none) (tgt := 35) G dX4_prove_12 (by decide) (fun _ => ?_) (fun _ h9 => nomatch h9)
    exact q_throw (P0 := []) G hl qt_54_133 (Or.inl (⟨rfl, by unfold e_3; omega⟩)) dX4_prove_35 dX4_prove_38 dX4_prove_39 dX4_prove_41 dX4_prove_44 ht (by decide) (by decide) (by decide) (by decide) (by omega) (by omega)
  · have r6 : mR M (ad 0) 6 = some (ad (rnN σ)) := by rw [y6, if_pos hU]
    have hB6 := hW.2.1.2.2 hU
    have hrn : 14 ≤ rnN σ ∧ rnN σ < 30 := by unfold rnN; omega
    have oR := CS_rd hC hrn.1 hrn.2
    obtain ⟨⟨q0r, q3r, q4r⟩, q1r, q2r, q5r⟩ := yR hU
    have hk := hW.2.2.2.2.2.2 hU
    obtain ⟨⟨hk1, hk2, hk3⟩, hk4, hk5, hk6, hk7⟩ := hk
    clear hk6 hk7
    refine q_aload_n G 0 0 dX4_prove_0 rfl rfl ?_
    refine q_callVX (As := []) (rest := []) G dX4_prove_1 cw_X4_63 (c_X4_needDiscriminant l hl D cy M (ad 0) o0 z4) o0.1 o0.2 (by decide) rfl rfl rfl (Nat.le_of_ble_eq_true rfl) rfl rfl ⟨Nat.le_of_ble_eq_true rfl, Nat.le_of_ble_eq_true rfl⟩ ⟨by decide, by decide⟩ (fun E9 ce9 q9 H9 lc9 ls9 hx9 h91 h92 h93 h94 h95 h96 h97 => q_outX G ht (Or.inl (⟨hx9.1, by have h9 := hx9.2; unfold e_3; omega⟩)) h91 h93 h95 h96 h97 (by omega) (by omega)) (fun v9 M9 hq9 => ?_)
    obtain ⟨⟨rfl, e9⟩, zD⟩ := hq9
    refine q_st (st2 := []) rfl ?_
    refine q_mem e9 ?_
    refine q_iload_n G 1 1 dX4_prove_4 rfl rfl ?_
    refine q_callSX (As := [.int (qI (n))]) (rest := []) G dX4_prove_5 cw_X4_66 (c_X4_needTurns l hl D cy M n (by omega)) rfl rfl (Nat.le_of_ble_eq_true rfl) rfl rfl ⟨Nat.le_of_ble_eq_true rfl, Nat.le_of_ble_eq_true rfl⟩ ⟨by decide, by decide⟩ (fun E9 ce9 q9 H9 lc9 ls9 hx9 h91 h92 h93 h94 h95 h96 h97 => q_outX G ht (Or.inr (⟨hx9.1, by have h9 := hx9.2; unfold e_3; omega⟩)) h91 h93 h95 h96 h97 (by omega) (by omega)) (fun v9 M9 hq9 => ?_)
    obtain ⟨⟨rfl, e9⟩, zT⟩ := hq9
    refine q_st (st2 := []) rfl ?_
    refine q_mem e9 ?_
    refine q_aload_n G 0 0 dX4_prove_8 rfl rfl ?_
    refine q_gt (v := .ref (ad (rnN σ))) G dX4_prove_9 fl_X4_42 o0 (by decide) rfl (congrArg va_rf r6) ?_
    refine q_ifnull (x := some (ad (rnN σ))) (tgt := 35) G dX4_prove_12 (by decide) (fun h9 => nomatch h9) (fun _ _ => ?_)
    refine q_aload_n G 0 0 dX4_prove_15 rfl rfl ?_
    refine q_gt (v := .ref (ad (rnN σ))) G dX4_prove_16 fl_X4_42 o0 (by decide) rfl (congrArg va_rf r6) ?_
    refine q_gt (v := .int (qI (mI M (ad (rnN σ)) 1))) G dX4_prove_19 fl_X4_74 oR (by decide) rfl rfl ?_
    refine q_if_gt (tgt := 35) G dX4_prove_22 (by decide) (by first | assumption | omega) (fun c1 => ?_) (fun c1 => ?_)
    · exact q_throw (P0 := []) G hl qt_54_133 (Or.inl (⟨rfl, by unfold e_3; omega⟩)) dX4_prove_35 dX4_prove_38 dX4_prove_39 dX4_prove_41 dX4_prove_44 ht (by decide) (by decide) (by decide) (by decide) (by omega) (by omega)
    · refine q_aload_n G 0 0 dX4_prove_25 rfl rfl ?_
      refine q_gt (v := .ref (ad (rnN σ))) G dX4_prove_26 fl_X4_42 o0 (by decide) rfl (congrArg va_rf r6) ?_
      refine q_gt (v := .int (qI (mI M (ad (rnN σ)) 2))) G dX4_prove_29 fl_X4_77 oR (by decide) rfl rfl ?_
      refine q_if_ne (tgt := 45) G dX4_prove_32 (by decide) (by first | assumption | omega) (fun c2 => ?_) (fun c2 => ?_)
      · refine q_iload_n G 1 1 dX4_prove_45 rfl rfl ?_
        refine q_aload_n G 0 0 dX4_prove_46 rfl rfl ?_
        refine q_gt (v := .ref (ad (rnN σ))) G dX4_prove_47 fl_X4_42 o0 (by decide) rfl (congrArg va_rf r6) ?_
        refine q_gt (v := .int (qI (mI M (ad (rnN σ)) 2))) G dX4_prove_50 fl_X4_77 oR (by decide) rfl rfl ?_
        refine q_min G dX4_prove_53 tw_362 (by first | assumption | omega) (by first | assumption | omega) (by decide) (by decide) (by decide) (by decide) ?_
        refine q_topI (z2 := k_3 σ n) (by unfold k_3; rw [q2r]) ?_
        refine q_istore_n (lv' := [(2, .int (qI (k_3 σ n))), (0, .ref (ad 0)), (1, .int (qI (n)))]) G 2 dX4_prove_56 rfl (by decide) rfl ?_
        refine q_iconst G dX4_prove_57 ?_
        refine q_istore_n (lv' := [(3, .int (qI (0))), (2, .int (qI (k_3 σ n))), (0, .ref (ad 0)), (1, .int (qI (n)))]) G 3 dX4_prove_58 rfl (by decide) rfl ?_
        refine q_retX ?_
        refine q_lvs [0, 1, 3, 2] rfl ?_
        exact l_prove4 l D cy M ad hC σ hY hW n (by omega) (by omega) hU (by omega) (by omega) (by unfold e_3; omega) G hret _ 0 (mI M) (mL M) (Nat.lt_succ_self _) ⟨by unfold k_3; omega, fun _ _ _ => rfl, q5r, frA_rf _, by have h9 := yF 5 (Or.inr (Or.inl ⟨by decide, by decide, hU⟩)); rw [show frN σ 5 = 30 + 3 * (sB σ).toNat + 2 by unfold frN; rw [if_neg (by decide), if_pos (by decide)]; omega] at h9; exact h9⟩
      · exact q_throw (P0 := []) G hl qt_54_133 (Or.inl (⟨rfl, by unfold e_3; omega⟩)) dX4_prove_35 dX4_prove_38 dX4_prove_39 dX4_prove_41 dX4_prove_44 ht (by decide) (by decide) (by decide) (by decide) (by omega) (by omega)
