set_option maxRecDepth 100000 in
set_option maxHeartbeats 4000000 in
theorem j_X5_beg3 {p : Program} {e : Env} {s : State} {m : MethodId} {args : Array Value} {below : List Frame} {meth : Method} {c : Code} (l : Launch) (D : va_G) (cy : Nat → ClassId) (M : qM) (mo qa qb qc qf qt : Nat) (hMO : qMO M mo qa qb qc qf qt) (σ : qS) (hR : RMd σ (mI M) (mL M) mo qa qb qc qf qt) (hW : WF σ) (t : Int) (ht : r32 t) (q0 : sD σ ≠ 0 ∧ (1 ≤ t ∧ t ≤ 500) ∧ sU σ ≠ 1 ∧ sB σ ≠ 16) (he0 : e_1 σ t = 0) (hd : dOk (sD σ)) (I L : Nat → Nat → Int) (hf : frR (mI M) (mL M) I L mo qa qb qc qf qt) (h0 : I mo 0 = e_1 σ t) (hQ : RMd (setF (setC (setC (setC σ 48 t) 49 (a_1 σ)) 50 0) 3 (p_1 σ)) I L mo qa qb qc qf qt) (G : qG p s m args meth c cX5_begin 3 yX5_begin.cls D cy (qA (mP M) s.heap.size)) (hret : meth.sig.returnType = (some .int)) : qK p l e { frames := 5, cells := 0, slots := 0, locals := 159 } s m args below meth c (MQ below (qQ D cy (mP M) (po5 M mo qa qb qc qf qt (if e_1 σ t = 0 then n_1 σ t else σ) (e_1 σ t) (fun v => ∃ z, v = some (.int (qI z)) ∧ (e_1 σ t = 0 → z = a_1 σ)))) args s 0 0 (qA (mP M) s.heap.size)) 3 D cy (qA (mP M) s.heap.size) 0 0 149 [(1, .int (qI (t))), (0, .ref mo)] [] (wI M I L) := by
  obtain ⟨hF, ⟨r2, r3, r4, r5, r8⟩, ⟨a2, a3, a4, a5, a8⟩, ⟨n1, n2, n3, n4, n5, n6⟩⟩ := id hMO
  obtain ⟨⟨k1, k6, k7, k9, k10, k11⟩, kF, kV, kC, kG⟩ := (show RMd (setF (setC (setC (setC σ 48 t) 49 (a_1 σ)) 50 0) 3 (p_1 σ)) (mI (wI M I L)) (mL (wI M I L)) mo qa qb qc qf qt from hQ)
  obtain ⟨u1, u2, u3⟩ := qMO_ne hMO
  obtain ⟨w1, w2, w3⟩ := WF_n hW
  refine q_aload_n G 1 0 dX5_begin_149 rfl rfl ?_
  refine q_iconst G dX5_begin_150 ?_
  refine q_iconst G dX5_begin_151 ?_
  refine q_callV (As := [.int (qI (3)), .int (qI (4))]) (rest := []) G dX5_begin_152 cw_X5_62 (c_X5_copy l D cy (wI M I L) mo qa qb qc qf qt hMO 3 4 (by decide) (by decide)) hF.1 hF.2 (by decide) rfl rfl rfl (Nat.le_of_ble_eq_true rfl) rfl rfl ⟨Nat.le_of_ble_eq_true rfl, Nat.le_of_ble_eq_true rfl⟩ ⟨by decide, by decide⟩ (fun v9 M9 hq9 => ?_)
  obtain ⟨rfl, e9⟩ := hq9
  refine q_mem e9 ?_
  refine q_st (st2 := []) rfl ?_
  refine q_mem (M2 := wI M I (stM L qa qb qc 4 (L qa 3) (L qb 3) (L qc 3))) rfl ?_
  refine q_aload_n G 1 0 dX5_begin_155 rfl rfl ?_
  refine q_bipush G dX5_begin_156 (by decide +kernel) ?_
  refine q_iconst G dX5_begin_158 ?_
  refine q_callV (As := [.int (qI (54)), .int (qI (5))]) (rest := []) G dX5_begin_159 cw_X5_62 (c_X5_copy l D cy (wI M I (stM L qa qb qc 4 (L qa 3) (L qb 3) (L qc 3))) mo qa qb qc qf qt hMO 54 5 (by decide) (by decide)) hF.1 hF.2 (by decide) rfl rfl rfl (Nat.le_of_ble_eq_true rfl) rfl rfl ⟨Nat.le_of_ble_eq_true rfl, Nat.le_of_ble_eq_true rfl⟩ ⟨by decide, by decide⟩ (fun v9 M9 hq9 => ?_)
  obtain ⟨rfl, e9⟩ := hq9
  refine q_mem e9 ?_
  refine q_st (st2 := []) rfl ?_
  refine q_mem (M2 := wI M I (stM (stM L qa qb qc 4 (L qa 3) (L qb 3) (L qc 3)) qa qb qc 5 (stM L qa qb qc 4 (L qa 3) (L qb 3) (L qc 3) qa 54) (stM L qa qb qc 4 (L qa 3) (L qb 3) (L qc 3) qb 54) (stM L qa qb qc 4 (L qa 3) (L qb 3) (L qc 3) qc 54))) rfl ?_
  refine q_aload_n G 1 0 dX5_begin_162 rfl rfl ?_
  refine q_iconst G dX5_begin_163 ?_
  refine q_pI (z := 1) G dX5_begin_164 pl_X5_86t nf_5_6 hF (by decide) (Nat.le_of_ble_eq_true rfl) (fs_5_6 _ _ _) ?_
  refine q_aload_n G 1 0 dX5_begin_167 rfl rfl ?_
  refine q_iload_n G 0 1 dX5_begin_168 rfl rfl ?_
  refine q_pI (z := t) G dX5_begin_169 (pl_X5_108 _) nf_5_9 hF (by decide) (Nat.le_of_ble_eq_true rfl) (fs_5_9 _ _ _) ?_
  refine q_aload_n G 1 0 dX5_begin_172 rfl rfl ?_
  refine q_iload_n G 0 1 dX5_begin_173 rfl rfl ?_
  refine q_pI (z := t) G dX5_begin_174 (pl_X5_111 _) nf_5_10 hF (by decide) (Nat.le_of_ble_eq_true rfl) (fs_5_10 _ _ _) ?_
  refine q_aload_n G 1 0 dX5_begin_177 rfl rfl ?_
  refine q_iconst G dX5_begin_178 ?_
  refine q_pI (z := 1) G dX5_begin_179 (pl_X5_114 _) nf_5_11 hF (by decide) (Nat.le_of_ble_eq_true rfl) (fs_5_11 _ _ _) ?_
  refine q_aload_n G 1 0 dX5_begin_182 rfl rfl ?_
  refine q_gt (v := .ref qt) G dX5_begin_183 fl_X5_23 hF (by decide) rfl (congrArg va_rf r8) ?_
  refine q_bipush G dX5_begin_186 (by decide +kernel) ?_
  refine q_iaload G dX5_begin_188 a8.1 a8.2.1 (by first | assumption | omega) (show (49) < ((mN M qt : Nat) : Int) by rw [a8.2.2]; omega) (show mN M qt < 2147483648 by rw [a8.2.2]; decide) ?_
  refine q_topI (z2 := mI (wI M I L) qt (Int.toNat 49)) (by simp [mI, wI, sI, up2, u2.symm]) ?_
  exact q_iret G dX5_begin_189 hret (by omega) (by omega) (⟨up2 (up2 (up2 (up2 I mo 6 1) mo 9 t) mo 10 t) mo 11 1, stM (stM L qa qb qc 4 (L qa 3) (L qb 3) (L qc 3)) qa qb qc 5 (stM L qa qb qc 4 (L qa 3) (L qb 3) (L qc 3) qa 54) (stM L qa qb qc 4 (L qa 3) (L qb 3) (L qc 3) qb 54) (stM L qa qb qc 4 (L qa 3) (L qb 3) (L qc 3) qc 54), rfl, frR_I (frR_I (frR_I (frR_I (frR_L (M := wI M I (stM L qa qb qc 4 (L qa 3) (L qb 3) (L qc 3))) (frR_L (M := wI M I L) hf rfl (frM_st (S := [4]) (frM_rf (wI M I L) qa qb qc _) (by simp) _ _ _)) rfl (frM_st (S := [5]) (frM_rf (wI M I (stM L qa qb qc 4 (L qa 3) (L qb 3) (L qc 3))) qa qb qc _) (by simp) _ _ _)) mo 6 _ (Or.inl rfl)) mo 9 _ (Or.inl rfl)) mo 10 _ (Or.inl rfl)) mo 11 _ (Or.inl rfl), (by rw [up2_k _ _ (by decide), up2_k _ _ (by decide), up2_k _ _ (by decide), up2_k _ _ (by decide)]; exact h0), by rw [if_pos he0]; exact RM_11 (RM_10 (RM_9 (RM_6 (RM_F (M := wI M I (stM L qa qb qc 4 (L qa 3) (L qb 3) (L qc 3))) (RM_F (M := wI M I L) hQ n4 n5 n6 (frM_st (S := [4]) (frM_rf (wI M I L) qa qb qc _) (by simp) _ _ _) (by intro y hy; simp at hy; omega) (by decide) (t := p_1 σ) ((gM_s _ _ _ _ n1 n2 n3).trans (show gM L qa qb qc 3 = _ from kF 3 (by decide)))) n4 n5 n6 (frM_st (S := [5]) (frM_rf (wI M I (stM L qa qb qc 4 (L qa 3) (L qb 3) (L qc 3))) qa qb qc _) (by simp) _ _ _) (by intro y hy; simp at hy; omega) (by decide) (t := unT (sD σ)) ((gM_s _ _ _ _ n1 n2 n3).trans (show gM (stM L qa qb qc 4 (L qa 3) (L qb 3) (L qc 3)) qa qb qc 54 = _ by rw [gM_n _ _ _ _ (by decide)]; exact (kG q0.1).1))) 1 u1 u2) t u1 u2) t u1 u2) 1 u1 u2, ⟨_, rfl, fun _ => kC 49 (by decide)⟩⟩)
set_option maxRecDepth 100000 in
set_option maxHeartbeats 4000000 in
theorem j_X5_beg2 {p : Program} {e : Env} {s : State} {m : MethodId} {args : Array Value} {below : List Frame} {meth : Method} {c : Code} (l : Launch) (D : va_G) (cy : Nat → ClassId) (M : qM) (mo qa qb qc qf qt : Nat) (hMO : qMO M mo qa qb qc qf qt) (σ : qS) (hR : RMd σ (mI M) (mL M) mo qa qb qc qf qt) (hW : WF σ) (t : Int) (ht : r32 t) (q0 : sD σ ≠ 0 ∧ (1 ≤ t ∧ t ≤ 500) ∧ sU σ ≠ 1 ∧ sB σ ≠ 16) (he0 : e_1 σ t = 0) (hd : dOk (sD σ)) (G : qG p s m args meth c cX5_begin 3 yX5_begin.cls D cy (qA (mP M) s.heap.size)) (hret : meth.sig.returnType = (some .int)) : qK p l e { frames := 5, cells := 0, slots := 0, locals := 159 } s m args below meth c (MQ below (qQ D cy (mP M) (po5 M mo qa qb qc qf qt (if e_1 σ t = 0 then n_1 σ t else σ) (e_1 σ t) (fun v => ∃ z, v = some (.int (qI z)) ∧ (e_1 σ t = 0 → z = a_1 σ)))) args s 0 0 (qA (mP M) s.heap.size)) 3 D cy (qA (mP M) s.heap.size) 0 0 105 [(1, .int (qI (t))), (0, .ref mo)] [.int (qI (h_1 σ))] (sI M mo 0 (e_1 σ t)) := by
  obtain ⟨hF, ⟨r2, r3, r4, r5, r8⟩, ⟨a2, a3, a4, a5, a8⟩, ⟨n1, n2, n3, n4, n5, n6⟩⟩ := id hMO
  obtain ⟨⟨k1, k6, k7, k9, k10, k11⟩, kF, kV, kC, kG⟩ := id hR
  obtain ⟨u1, u2, u3⟩ := qMO_ne hMO
  obtain ⟨w1, w2, w3⟩ := WF_n hW
  refine q_istore_n (lv' := [(2, .int (qI (h_1 σ))), (1, .int (qI (t))), (0, .ref mo)]) G 2 dX5_begin_105 rfl (by decide) rfl ?_
  refine q_aload_n G 2 0 dX5_begin_106 rfl rfl ?_
  refine q_gt (v := .ref qt) G dX5_begin_107 fl_X5_23 hF (by decide) rfl (congrArg va_rf r8) ?_
  refine q_bipush G dX5_begin_110 (by decide +kernel) ?_
  refine q_iload_n G 1 1 dX5_begin_112 rfl rfl ?_
  refine q_iastore G dX5_begin_113 a8.1 a8.2.1 (by first | assumption | omega) (show (48) < ((mN M qt : Nat) : Int) by rw [a8.2.2]; omega) (show mN M qt < 2147483648 by rw [a8.2.2]; decide) ?_
  refine q_aload_n G 2 0 dX5_begin_114 rfl rfl ?_
  refine q_gt (v := .ref qt) G dX5_begin_115 fl_X5_23 hF (by decide) rfl (congrArg va_rf r8) ?_
  refine q_bipush G dX5_begin_118 (by decide +kernel) ?_
  refine q_iconst G dX5_begin_120 ?_
  refine q_iload_n G 0 2 dX5_begin_121 rfl rfl ?_
  refine q_ldc (z := 65535) G dX5_begin_122 tw_665 (by decide +kernel) ?_
  refine q_iand G dX5_begin_124 ?_
  refine q_iadd G dX5_begin_125 ?_
  refine q_iastore G dX5_begin_126 a8.1 a8.2.1 (by first | assumption | omega) (show (49) < ((mN M qt : Nat) : Int) by rw [a8.2.2]; omega) (show mN M qt < 2147483648 by rw [a8.2.2]; decide) ?_
  refine q_aload_n G 2 0 dX5_begin_127 rfl rfl ?_
  refine q_gt (v := .ref qt) G dX5_begin_128 fl_X5_23 hF (by decide) rfl (congrArg va_rf r8) ?_
  refine q_bipush G dX5_begin_131 (by decide +kernel) ?_
  refine q_iconst G dX5_begin_133 ?_
  refine q_iastore G dX5_begin_134 a8.1 a8.2.1 (by first | assumption | omega) (show (50) < ((mN M qt : Nat) : Int) by rw [a8.2.2]; omega) (show mN M qt < 2147483648 by rw [a8.2.2]; decide) ?_
  refine q_mem (M2 := wI M (up2 (up2 (up2 (up2 (mI M) mo 0 (e_1 σ t)) qt 48 t) qt 49 (a_1 σ)) qt 50 0) (mL M)) rfl ?_
  refine q_aload_n G 2 0 dX5_begin_135 rfl rfl ?_
  refine q_bipush G dX5_begin_136 (by decide +kernel) ?_
  refine q_aload_n G 2 0 dX5_begin_138 rfl rfl ?_
  refine q_gt (v := .ref qt) G dX5_begin_139 fl_X5_23 hF (by decide) rfl (congrArg va_rf r8) ?_
  refine q_bipush G dX5_begin_142 (by decide +kernel) ?_
  refine q_iaload G dX5_begin_144 a8.1 a8.2.1 (by first | assumption | omega) (show (49) < ((mN M qt : Nat) : Int) by rw [a8.2.2]; omega) (show mN M qt < 2147483648 by rw [a8.2.2]; decide) ?_
  refine q_topI (z2 := a_1 σ) (by simp [mI, wI, sI, up2]) ?_
  refine q_iconst G dX5_begin_145 ?_
  refine q_callV (As := [.int (qI (55)), .int (qI (a_1 σ)), .int (qI (3))]) (rest := []) G dX5_begin_146 cw_X5_105 (c_X5_raiseTo l D cy (wI M (up2 (up2 (up2 (up2 (mI M) mo 0 (e_1 σ t)) qt 48 t) qt 49 (a_1 σ)) qt 50 0) (mL M)) mo qa qb qc qf qt hMO (sD σ) hd (kG q0.1).1 55 (a_1 σ) 3 (by decide) (by decide) (by unfold a_1; have := qand_65535 (h_1 σ); omega) (show gd (sD σ) (gM (mL M) qa qb qc 55) by rw [(kG q0.1).2]; exact (geT_gd hd).1)) hF.1 hF.2 (by decide) rfl rfl rfl (Nat.le_of_ble_eq_true rfl) rfl rfl ⟨Nat.le_of_ble_eq_true rfl, Nat.le_of_ble_eq_true rfl⟩ ⟨by decide, by decide⟩ (fun v9 M9 hq9 => ?_)
  obtain ⟨rfl, L1, e9, fr1, v1, g1⟩ := hq9
  refine q_st (st2 := []) rfl ?_
  refine q_mem (M2 := wI M (up2 (up2 (up2 (up2 (mI M) mo 0 (e_1 σ t)) qt 48 t) qt 49 (a_1 σ)) qt 50 0) L1) e9 ?_
  replace v1 : gM L1 qa qb qc 3 = p_1 σ := by unfold p_1; rw [← (kG q0.1).2]; exact v1
  replace fr1 : frM M L1 qa qb qc [58, 59, 56, 57, 3] := fr1
  refine q_lvs [1, 2] rfl ?_
  exact j_X5_beg3 l D cy M mo qa qb qc qf qt hMO σ hR hW t ht q0 he0 hd (up2 (up2 (up2 (up2 (mI M) mo 0 (e_1 σ t)) qt 48 t) qt 49 (a_1 σ)) qt 50 0) L1 (frR_L (M := M) (frR_I (frR_I (frR_I (frR_I (frR_rf _ _ _ _ _ _ _ _) mo 0 _ (Or.inl rfl)) qt 48 _ (Or.inr (Or.inr rfl))) qt 49 _ (Or.inr (Or.inr rfl))) qt 50 _ (Or.inr (Or.inr rfl))) rfl fr1) (by rw [up2_a _ _ u2, up2_a _ _ u2, up2_a _ _ u2, up2_s]) (RM_F (M := M) (RM_C (RM_C (RM_C (RM_0 hR _ u1 u2) t u2 u3 48) (a_1 σ) u2 u3 49) 0 u2 u3 50) n4 n5 n6 fr1 (by intro y hy; simp at hy; omega) (by decide) v1) G hret
set_option maxRecDepth 100000 in
set_option maxHeartbeats 4000000 in
theorem j_X5_begin {p : Program} {e : Env} {s : State} {m : MethodId} {args : Array Value} {below : List Frame} {meth : Method} {c : Code} (l : Launch) (D : va_G) (cy : Nat → ClassId) (M : qM) (mo qa qb qc qf qt : Nat) (hMO : qMO M mo qa qb qc qf qt) (σ : qS) (hR : RMd σ (mI M) (mL M) mo qa qb qc qf qt) (hW : WF σ) (t : Int) (ht : r32 t) (G : qG p s m args meth c cX5_begin 3 yX5_begin.cls D cy (qA (mP M) s.heap.size)) (hret : meth.sig.returnType = (some .int)) : qK p l e { frames := 5, cells := 0, slots := 0, locals := 159 } s m args below meth c (MQ below (qQ D cy (mP M) (po5 M mo qa qb qc qf qt (if e_1 σ t = 0 then n_1 σ t else σ) (e_1 σ t) (fun v => ∃ z, v = some (.int (qI z)) ∧ (e_1 σ t = 0 → z = a_1 σ)))) args s 0 0 (qA (mP M) s.heap.size)) 3 D cy (qA (mP M) s.heap.size) 0 0 49 [(1, .int (qI (t))), (0, .ref mo)] [.int (qI (e_1 σ t)), .ref mo] (M) := by
  obtain ⟨hF, ⟨r2, r3, r4, r5, r8⟩, ⟨a2, a3, a4, a5, a8⟩, ⟨n1, n2, n3, n4, n5, n6⟩⟩ := id hMO
  obtain ⟨⟨k1, k6, k7, k9, k10, k11⟩, kF, kV, kC, kG⟩ := id hR
  obtain ⟨u1, u2, u3⟩ := qMO_ne hMO
  obtain ⟨w1, w2, w3⟩ := WF_n hW
  refine q_pI (z := e_1 σ t) G dX5_begin_49 (pl_X5_27 _) nf_5_0 hF (by decide) (Nat.le_of_ble_eq_true rfl) (fs_5_0 _ _ _) ?_
  refine q_aload_n G 1 0 dX5_begin_52 rfl rfl ?_
  refine q_gt (v := .int (qI (e_1 σ t))) G dX5_begin_53 fl_X5_27 hF (by decide) rfl (by simp [mI, mL, mR, sL, sI, sR, wL, wD, stF, up2, n1, n1.symm, n2, n2.symm, n3, n3.symm, u1, u1.symm, u2, u2.symm, u3, u3.symm]) ?_
  refine q_if_le (tgt := 61) G dX5_begin_56 (by decide) (by unfold e_1; omega) (fun c1 => ?_) (fun c1 => ?_)
  · have q0 : sD σ ≠ 0 ∧ (1 ≤ t ∧ t ≤ 500) ∧ sU σ ≠ 1 ∧ sB σ ≠ 16 := by unfold e_1 at c1; omega
    have he0 : e_1 σ t = 0 := by have : 0 ≤ e_1 σ t := (by unfold e_1; omega); omega
    have hd : dOk (sD σ) := by rcases hW.1 with h9 | h9; exact absurd h9 q0.1; exact h9
    have hd7 := hd.1
    refine q_iconst G dX5_begin_61 ?_
    refine q_aload_n G 1 0 dX5_begin_62 rfl rfl ?_
    refine q_gt (v := .long (qL (mL M mo 1))) G dX5_begin_63 fl_X5_90 hF (by decide) rfl rfl ?_
    refine q_l2i G dX5_begin_66 ?_
    refine q_callS (As := [.int (qI (1)), .int (qI (mL M mo 1))]) (rest := []) G dX5_begin_67 cw_X5_74 (c_X5_mix l D cy (sI M mo 0 (e_1 σ t)) 1 (mL M mo 1)) rfl rfl (Nat.le_of_ble_eq_true rfl) rfl rfl ⟨Nat.le_of_ble_eq_true rfl, Nat.le_of_ble_eq_true rfl⟩ ⟨by decide, by decide⟩ (fun v9 M9 hq9 => ?_)
    obtain ⟨rfl, e9⟩ := hq9
    refine q_mem e9 ?_
    refine q_st (st2 := [.int (qI (mixN 1 (mL M mo 1)))]) rfl ?_
    refine q_aload_n G 1 0 dX5_begin_70 rfl rfl ?_
    refine q_gt (v := .int (qI (mI M mo 7))) G dX5_begin_71 fl_X5_94 hF (by decide) rfl (by simp [mI, mL, mR, sL, sI, sR, wL, wD, stF, up2, n1, n1.symm, n2, n2.symm, n3, n3.symm, u1, u1.symm, u2, u2.symm, u3, u3.symm]) ?_
    refine q_callS (As := [.int (qI (mixN 1 (mL M mo 1))), .int (qI (mI M mo 7))]) (rest := []) G dX5_begin_74 cw_X5_74 (c_X5_mix l D cy (sI M mo 0 (e_1 σ t)) (mixN 1 (mL M mo 1)) (mI M mo 7)) rfl rfl (Nat.le_of_ble_eq_true rfl) rfl rfl ⟨Nat.le_of_ble_eq_true rfl, Nat.le_of_ble_eq_true rfl⟩ ⟨by decide, by decide⟩ (fun v9 M9 hq9 => ?_)
    obtain ⟨rfl, e9⟩ := hq9
    refine q_mem e9 ?_
    refine q_st (st2 := [.int (qI (mixN (mixN 1 (mL M mo 1)) (mI M mo 7)))]) rfl ?_
    refine q_istore_n (lv' := [(2, .int (qI (mixN (mixN 1 (mL M mo 1)) (mI M mo 7)))), (1, .int (qI (t))), (0, .ref mo)]) G 2 dX5_begin_77 rfl (by decide) rfl ?_
    refine q_aload_n G 2 0 dX5_begin_78 rfl rfl ?_
    refine q_gt (v := .int (qI (mI M mo 7))) G dX5_begin_79 fl_X5_94 hF (by decide) rfl (by simp [mI, mL, mR, sL, sI, sR, wL, wD, stF, up2, n1, n1.symm, n2, n2.symm, n3, n3.symm, u1, u1.symm, u2, u2.symm, u3, u3.symm]) ?_
    refine q_if_le (tgt := 104) G dX5_begin_82 (by decide) (by omega) (fun c2 => ?_) (fun c2 => ?_)
    · refine q_iload_n G 0 2 dX5_begin_104 rfl rfl ?_
      refine q_topI (z2 := h_1 σ) (by unfold h_1; rw [if_neg (by omega), k1, k7]) ?_
      refine q_lvs [1, 2] rfl ?_
      exact j_X5_beg2 l D cy M mo qa qb qc qf qt hMO σ hR hW t ht q0 he0 hd G hret
    · refine q_aload_n G 2 0 dX5_begin_85 rfl rfl ?_
      refine q_iload_n G 0 2 dX5_begin_86 rfl rfl ?_
      refine q_bipush G dX5_begin_87 (by decide +kernel) ?_
      refine q_iconst G dX5_begin_89 ?_
      refine q_aload_n G 2 0 dX5_begin_90 rfl rfl ?_
      refine q_gt (v := .int (qI (mI M mo 7))) G dX5_begin_91 fl_X5_94 hF (by decide) rfl (by simp [mI, mL, mR, sL, sI, sR, wL, wD, stF, up2, n1, n1.symm, n2, n2.symm, n3, n3.symm, u1, u1.symm, u2, u2.symm, u3, u3.symm]) ?_
      refine q_imul G dX5_begin_94 ?_
      refine q_iadd G dX5_begin_95 ?_
      refine q_iconst G dX5_begin_96 ?_
      refine q_isub G dX5_begin_97 ?_
      refine q_callV (As := [.int (qI (mixN (mixN 1 (mL M mo 1)) (mI M mo 7))), .int (qI ((6 + (3 * (mI M mo 7))) - 2))]) (rest := []) G dX5_begin_98 cw_X5_78 (c_X5_mixForm l D cy (sI M mo 0 (e_1 σ t)) mo qa qb qc qf qt hMO (mixN (mixN 1 (mL M mo 1)) (mI M mo 7)) (6 + 3 * mI M mo 7 - 2) (by omega)) hF.1 hF.2 (by decide) rfl rfl rfl (Nat.le_of_ble_eq_true rfl) rfl rfl ⟨Nat.le_of_ble_eq_true rfl, Nat.le_of_ble_eq_true rfl⟩ ⟨by decide, by decide⟩ (fun v9 M9 hq9 => ?_)
      obtain ⟨rfl, e9⟩ := hq9
      refine q_mem e9 ?_
      refine q_st (st2 := [.int (qI (mixF (mixN (mixN 1 (mL M mo 1)) (mI M mo 7)) (gM (mL M) qa qb qc (6 + 3 * mI M mo 7 - 2).toNat)))]) rfl ?_
      refine q_goto (tgt := 105) G dX5_begin_101 (by decide) ?_
      refine q_topI (z2 := h_1 σ) (by unfold h_1; rw [if_pos (by omega), k1, k7, show 6 + 3 * sB σ - 2 = 3 * sB σ + 4 by omega, kF _ (by omega)]) ?_
      refine q_lvs [1, 2] rfl ?_
      exact j_X5_beg2 l D cy M mo qa qb qc qf qt hMO σ hR hW t ht q0 he0 hd G hret
  · refine q_iconst G dX5_begin_59 ?_
    exact q_iret G dX5_begin_60 hret (by omega) (by omega) (⟨up2 (mI M) mo 0 (e_1 σ t), mL M, rfl, frR_I (frR_rf _ _ _ _ _ _ _ _) mo 0 _ (Or.inl rfl), up2_s _ _ _ _, (by rw [if_neg (by omega)]; exact RM_0 hR _ u1 u2), ⟨_, rfl, fun h9 => absurd h9 (by omega)⟩⟩)
set_option maxRecDepth 100000 in
set_option maxHeartbeats 4000000 in
theorem c_X5_begin (l : Launch) (D : va_G) (cy : Nat → ClassId) (M : qM) (mo qa qb qc qf qt : Nat) (hMO : qMO M mo qa qb qc qf qt) (σ : qS) (hR : RMd σ (mI M) (mL M) mo qa qb qc qf qt) (hW : WF σ) (t : Int) (ht : r32 t) : qCt l D cy yX5_begin cX5_begin 3 (some .int) { frames := 5, cells := 0, slots := 0, locals := 159 } 0 0 [.ref mo, .int (qI (t))] M (po5 M mo qa qb qc qf qt (if e_1 σ t = 0 then n_1 σ t else σ) (e_1 σ t) (fun v => ∃ z, v = some (.int (qI z)) ∧ (e_1 σ t = 0 → z = a_1 σ))) := by
  refine qCt_of (lv0 := [(0, .ref mo), (1, .int (qI (t)))]) (by decide) rfl (Nat.le_of_ble_eq_true rfl) ?_
  intro p e s m args below meth c G hname hret
  obtain ⟨hF, ⟨r2, r3, r4, r5, r8⟩, ⟨a2, a3, a4, a5, a8⟩, ⟨n1, n2, n3, n4, n5, n6⟩⟩ := id hMO
  obtain ⟨⟨k1, k6, k7, k9, k10, k11⟩, kF, kV, kC, kG⟩ := id hR
  obtain ⟨u1, u2, u3⟩ := qMO_ne hMO
  obtain ⟨w1, w2, w3⟩ := WF_n hW
  refine q_aload_n G 0 0 dX5_begin_0 rfl rfl ?_
  refine q_aload_n G 0 0 dX5_begin_1 rfl rfl ?_
  refine q_callV (As := []) (rest := [.ref mo]) G dX5_begin_2 cw_X5_101 (c_X5_isAny l D cy M mo qa qb qc qf qt hMO (by omega)) hF.1 hF.2 (by decide) rfl rfl rfl (Nat.le_of_ble_eq_true rfl) rfl rfl ⟨Nat.le_of_ble_eq_true rfl, Nat.le_of_ble_eq_true rfl⟩ ⟨by decide, by decide⟩ (fun v9 M9 hq9 => ?_)
  obtain ⟨rfl, e9⟩ := hq9
  refine q_mem e9 ?_
  refine q_st (st2 := [.int (qI (if 0 < mL M mo 1 then 1 else 0)), .ref mo]) rfl ?_
  refine q_if_ne (tgt := 12) G dX5_begin_5 (by decide) (by first | assumption | omega) (fun c1 => ?_) (fun c1 => ?_)
  · refine q_iload_n G 1 1 dX5_begin_12 rfl rfl ?_
    refine q_iconst G dX5_begin_13 ?_
    refine q_icmp_lt (tgt := 24) G dX5_begin_14 (by decide) (by first | assumption | omega) (by first | assumption | omega) (fun c2 => ?_) (fun c2 => ?_)
    · refine q_iconst G dX5_begin_24 ?_
      refine q_goto (tgt := 49) G dX5_begin_25 (by decide) ?_
      refine q_topI (z2 := e_1 σ t) (by unfold e_1; omega) ?_
      refine q_lvs [1, 0] rfl ?_
      exact j_X5_begin l D cy M mo qa qb qc qf qt hMO σ hR hW t ht G hret
    · refine q_iload_n G 1 1 dX5_begin_17 rfl rfl ?_
      refine q_sipush G dX5_begin_18 (by decide +kernel) ?_
      refine q_icmp_le (tgt := 28) G dX5_begin_21 (by decide) (by first | assumption | omega) (by first | assumption | omega) (fun c3 => ?_) (fun c3 => ?_)
      · refine q_aload_n G 0 0 dX5_begin_28 rfl rfl ?_
        refine q_gt (v := .int (qI (mI M mo 6))) G dX5_begin_29 fl_X5_86 hF (by decide) rfl rfl ?_
        refine q_if_ne (tgt := 44) G dX5_begin_32 (by decide) (by first | assumption | omega) (fun c4 => ?_) (fun c4 => ?_)
        · refine q_iconst G dX5_begin_44 ?_
          refine q_goto (tgt := 49) G dX5_begin_45 (by decide) ?_
          refine q_topI (z2 := e_1 σ t) (by unfold e_1; omega) ?_
          refine q_lvs [1, 0] rfl ?_
          exact j_X5_begin l D cy M mo qa qb qc qf qt hMO σ hR hW t ht G hret
        · refine q_aload_n G 0 0 dX5_begin_35 rfl rfl ?_
          refine q_gt (v := .int (qI (mI M mo 7))) G dX5_begin_36 fl_X5_94 hF (by decide) rfl rfl ?_
          refine q_bipush G dX5_begin_39 (by decide +kernel) ?_
          refine q_icmp_ne (tgt := 48) G dX5_begin_41 (by decide) (by first | assumption | omega) (by first | assumption | omega) (fun c5 => ?_) (fun c5 => ?_)
          · refine q_iconst G dX5_begin_48 ?_
            refine q_topI (z2 := e_1 σ t) (by unfold e_1; omega) ?_
            refine q_lvs [1, 0] rfl ?_
            exact j_X5_begin l D cy M mo qa qb qc qf qt hMO σ hR hW t ht G hret
          · refine q_iconst G dX5_begin_44 ?_
            refine q_goto (tgt := 49) G dX5_begin_45 (by decide) ?_
            refine q_topI (z2 := e_1 σ t) (by unfold e_1; omega) ?_
            refine q_lvs [1, 0] rfl ?_
            exact j_X5_begin l D cy M mo qa qb qc qf qt hMO σ hR hW t ht G hret
      · refine q_iconst G dX5_begin_24 ?_
        refine q_goto (tgt := 49) G dX5_begin_25 (by decide) ?_
        refine q_topI (z2 := e_1 σ t) (by unfold e_1; omega) ?_
        refine q_lvs [1, 0] rfl ?_
        exact j_X5_begin l D cy M mo qa qb qc qf qt hMO σ hR hW t ht G hret
  · refine q_iconst G dX5_begin_8 ?_
    refine q_goto (tgt := 49) G dX5_begin_9 (by decide) ?_
    refine q_topI (z2 := e_1 σ t) (by unfold e_1; omega) ?_
    refine q_lvs [1, 0] rfl ?_
    exact j_X5_begin l D cy M mo qa qb qc qf qt hMO σ hR hW t ht G hret
