noncomputable def wkS (σ : qS) (i : Nat) : qS := setQ (setF σ 4 (sqN i (sF σ 4))) (sQ σ - i)
theorem wkS_0 (σ : qS) : wkS σ 0 = σ := by
  show (_, _, _, up1 (sF σ) 4 (sF σ 4), _, _, sQ σ - ((0 : Nat) : Int), _, _) = σ
  rw [show up1 (sF σ) 4 (sF σ 4) = sF σ by funext b; unfold up1; by_cases h : b = 4; simp [h]; simp [h], show sQ σ - ((0 : Nat) : Int) = sQ σ by omega]; rfl
theorem wkS_s (σ : qS) (i : Nat) (v : Int) (hv : v = sQ σ - i - 1) : setQ (setF (wkS σ i) 4 (mulT (sqN i (sF σ 4)) (sqN i (sF σ 4)))) v = wkS σ (i + 1) := by
  show (_, _, _, up1 (up1 (sF σ) 4 _) 4 _, _, _, v, _, _) = (_, _, _, up1 (sF σ) 4 _, _, _, sQ σ - ((i + 1 : Nat) : Int), _, _)
  rw [up1_up1, hv, show sQ σ - i - 1 = sQ σ - ((i + 1 : Nat) : Int) by omega]; rfl
theorem sqN_gd {d : Int} (hd : dOk d) {t : qT3} (h : gd d t) : ∀ i, gd d (sqN i t)
  | 0 => h
  | i + 1 => (mulT_spec hd (sqN_gd hd h i) (sqN_gd hd h i)).2.1
set_option maxRecDepth 100000 in
set_option maxHeartbeats 4000000 in
theorem j_X5_work3 {p : Program} {e : Env} {s : State} {m : MethodId} {args : Array Value} {below : List Frame} {meth : Method} {c : Code} (l : Launch) (D : va_G) (cy : Nat → ClassId) (M : qM) (mo qa qb qc qf qt : Nat) (hMO : qMO M mo qa qb qc qf qt) (σ : qS) (hR : RMd σ (mI M) (mL M) mo qa qb qc qf qt) (hW : WF σ) (n : Int) (hn : r32 n) (q0 : sD σ ≠ 0 ∧ (0 < n ∧ n < 501) ∧ sU σ = 1 ∧ sQ σ ≠ 0) (he0 : e_2 σ n = 0) (hd : dOk (sD σ)) (i : Nat) (hi : (i : Int) ≤ sQ σ) (hk : (i : Int) = k_2 σ n) (I L : Nat → Nat → Int) (hf : frR (mI M) (mL M) I L mo qa qb qc qf qt) (h0 : I mo 0 = e_2 σ n) (hQ : RMd (wkS σ i) I L mo qa qb qc qf qt) (G : qG p s m args meth c cX5_work 3 yX5_work.cls D cy (qA (mP M) s.heap.size)) (hret : meth.sig.returnType = (some .int)) : qK p l e { frames := 4, cells := 0, slots := 0, locals := 135 } s m args below meth c (MQ below (qQ D cy (mP M) (po5 M mo qa qb qc qf qt (if e_2 σ n = 0 then n_2 σ n else σ) (e_2 σ n) (fun v => ∃ z, v = some (.int (qI z)) ∧ (e_2 σ n = 0 → z = a_2 σ n)))) args s 0 0 (qA (mP M) s.heap.size)) 3 D cy (qA (mP M) s.heap.size) 0 0 91 [(1, .int (qI (n))), (0, .ref mo)] [] (wI M I L) := by
  obtain ⟨hF, ⟨r2, r3, r4, r5, r8⟩, ⟨a2, a3, a4, a5, a8⟩, ⟨n1, n2, n3, n4, n5, n6⟩⟩ := id hMO
  obtain ⟨⟨k1, k6, k7, k9, k10, k11⟩, kF, kV, kC, kG⟩ := (show RMd (wkS σ i) (mI (wI M I L)) (mL (wI M I L)) mo qa qb qc qf qt from hQ)
  obtain ⟨u1, u2, u3⟩ := qMO_ne hMO
  obtain ⟨w1, w2, w3⟩ := WF_n hW
  replace k9 : mI (wI M I L) mo 9 = sQ σ - i := k9
  have hr := hW.2.2.2.2.2.2 q0.2.2.1
  obtain ⟨⟨hr1, hr2, hr3⟩, hr4, hr5, -⟩ := hr
  refine q_aload_n G 1 0 dX5_work_91 rfl rfl ?_
  refine q_gt (v := .int (qI (mI (wI M I L) mo 9))) G dX5_work_92 fl_X5_108 hF (by decide) rfl rfl ?_
  refine q_if_ne (tgt := 118) G dX5_work_95 (by decide) (by first | assumption | omega) (fun c1 => ?_) (fun c1 => ?_)
  · refine q_aload_n G 1 0 dX5_work_118 rfl rfl ?_
    refine q_gt (v := .int (qI (mI (wI M I L) mo 9))) G dX5_work_119 fl_X5_108 hF (by decide) rfl rfl ?_
    exact q_iret G dX5_work_122 hret (by omega) (by omega) (⟨I, L, rfl, hf, h0, by rw [if_pos he0, show n_2 σ n = wkS σ i by unfold n_2; rw [← hk, if_neg (by omega)]; unfold m_2 wkS; rw [← hk]; rfl]; exact hQ, ⟨_, rfl, fun _ => by unfold a_2; rw [← hk]; exact k9⟩⟩)
  · refine q_aload_n G 1 0 dX5_work_98 rfl rfl ?_
    refine q_gt (v := .ref qt) G dX5_work_99 fl_X5_23 hF (by decide) rfl (congrArg va_rf r8) ?_
    refine q_bipush G dX5_work_102 (by decide +kernel) ?_
    refine q_aload_n G 1 0 dX5_work_104 rfl rfl ?_
    refine q_iconst G dX5_work_105 ?_
    refine q_iconst G dX5_work_106 ?_
    refine q_aload_n G 1 0 dX5_work_107 rfl rfl ?_
    refine q_gt (v := .ref qt) G dX5_work_108 fl_X5_23 hF (by decide) rfl (congrArg va_rf r8) ?_
    refine q_bipush G dX5_work_111 (by decide +kernel) ?_
    refine q_iaload G dX5_work_113 a8.1 a8.2.1 (by first | assumption | omega) (show (48) < ((mN M qt : Nat) : Int) by rw [a8.2.2]; omega) (show mN M qt < 2147483648 by rw [a8.2.2]; decide) ?_
    refine q_callV (As := [.int (qI (3)), .int (qI (4)), .int (qI (mI (wI M I L) qt (Int.toNat (48))))]) (rest := [.int (qI (50)), .ref qt]) G dX5_work_114 cw_X5_120 (c_X5_primeOf l D cy (wI M I L) mo qa qb qc qf qt hMO 3 4 (mI (wI M I L) qt (Int.toNat 48)) (by decide) (by decide)) hF.1 hF.2 (by decide) rfl rfl rfl (Nat.le_of_ble_eq_true rfl) rfl rfl ⟨Nat.le_of_ble_eq_true rfl, Nat.le_of_ble_eq_true rfl⟩ ⟨by decide, by decide⟩ (fun v9 M9 hq9 => ?_)
    obtain ⟨rfl, e9⟩ := hq9
    refine q_mem e9 ?_
    refine q_st (st2 := [.int (qI (prmT (gM L qa qb qc 3) (gM L qa qb qc 4) (I qt 48))), .int (qI (50)), .ref qt]) rfl ?_
    refine q_iastore G dX5_work_117 a8.1 a8.2.1 (by first | assumption | omega) (show (50) < ((mN M qt : Nat) : Int) by rw [a8.2.2]; omega) (show mN M qt < 2147483648 by rw [a8.2.2]; decide) ?_
    refine q_aload_n G 1 0 dX5_work_118 rfl rfl ?_
    refine q_gt (v := .int (qI (mI (wI M I L) mo 9))) G dX5_work_119 fl_X5_108 hF (by decide) rfl (by simp [mI, mL, mR, sL, sI, sR, wL, wD, stF, up2, n1, n1.symm, n2, n2.symm, n3, n3.symm, u1, u1.symm, u2, u2.symm, u3, u3.symm, wI, stM, n4, n5, n6]) ?_
    exact q_iret G dX5_work_122 hret (by omega) (by omega) (⟨up2 I qt 50 (prmT (gM L qa qb qc 3) (gM L qa qb qc 4) (I qt 48)), L, rfl, frR_I hf qt 50 _ (Or.inr (Or.inr rfl)), (by rw [up2_a _ _ u2]; exact h0), by rw [if_pos he0, show n_2 σ n = setC (wkS σ i) 50 (prmT (gM L qa qb qc 3) (gM L qa qb qc 4) (I qt 48)) by unfold n_2; rw [← hk, if_pos (by omega), (show gM L qa qb qc 3 = sF σ 3 from kF 3 (by decide)), (show gM L qa qb qc 4 = sqN i (sF σ 4) from kF 4 (by decide)), (show I qt 48 = sC σ 48 from kC 48 (by decide))]; unfold m_2 wkS; rw [← hk]; rfl]; exact RM_C hQ _ u2 u3 50, ⟨_, rfl, fun _ => by unfold a_2; rw [← hk]; exact k9⟩⟩)
set_option maxRecDepth 100000 in
set_option maxHeartbeats 4000000 in
theorem l_work5 {p : Program} {e : Env} {s : State} {m : MethodId} {args : Array Value} {below : List Frame} {meth : Method} {c : Code} (l : Launch) (D : va_G) (cy : Nat → ClassId) (M : qM) (mo qa qb qc qf qt : Nat) (hMO : qMO M mo qa qb qc qf qt) (σ : qS) (hR : RMd σ (mI M) (mL M) mo qa qb qc qf qt) (hW : WF σ) (n : Int) (hn : r32 n) (q0 : sD σ ≠ 0 ∧ (0 < n ∧ n < 501) ∧ sU σ = 1 ∧ sQ σ ≠ 0) (he0 : e_2 σ n = 0) (hd : dOk (sD σ)) (G : qG p s m args meth c cX5_work 3 yX5_work.cls D cy (qA (mP M) s.heap.size)) (hret : meth.sig.returnType = (some .int)) : ∀ (w9 : Nat) (i : Nat) (I : Nat → Nat → Int) (L : Nat → Nat → Int), (n - (i : Int)).toNat < w9 → ((i : Int) ≤ n ∧ (i : Int) ≤ sQ σ) ∧ frR (mI M) (mL M) I L mo qa qb qc qf qt ∧ I mo 0 = e_2 σ n ∧ RMd (wkS σ i) I L mo qa qb qc qf qt → qK p l e { frames := 4, cells := 0, slots := 0, locals := 135 } s m args below meth c (MQ below (qQ D cy (mP M) (po5 M mo qa qb qc qf qt (if e_2 σ n = 0 then n_2 σ n else σ) (e_2 σ n) (fun v => ∃ z, v = some (.int (qI z)) ∧ (e_2 σ n = 0 → z = a_2 σ n)))) args s 0 0 (qA (mP M) s.heap.size)) 3 D cy (qA (mP M) s.heap.size) 0 0 56 [(2, .int (qI ((i : Int)))), (1, .int (qI (n))), (0, .ref mo)] [] (wI M I L) := by
  intro w9
  induction w9 with
  | zero => intro i I L h9; exact absurd h9 (Nat.not_lt_zero _)
  | succ w9 ih =>
    intro i I L hm hI
    obtain ⟨⟨i1, i2⟩, hf, h0, hQ⟩ := hI
    obtain ⟨hF, ⟨r2, r3, r4, r5, r8⟩, ⟨a2, a3, a4, a5, a8⟩, ⟨n1, n2, n3, n4, n5, n6⟩⟩ := id hMO
    obtain ⟨⟨k1, k6, k7, k9, k10, k11⟩, kF, kV, kC, kG⟩ := (show RMd (wkS σ i) (mI (wI M I L)) (mL (wI M I L)) mo qa qb qc qf qt from hQ)
    obtain ⟨u1, u2, u3⟩ := qMO_ne hMO
    obtain ⟨w1, w2, w3⟩ := WF_n hW
    replace k9 : mI (wI M I L) mo 9 = sQ σ - i := k9
    have hr := hW.2.2.2.2.2.2 q0.2.2.1
    obtain ⟨⟨hr1, hr2, hr3⟩, hr4, hr5, -⟩ := hr
    have g4 : gd (sD σ) (gM L qa qb qc 4) := by rw [show gM L qa qb qc 4 = sqN i (sF σ 4) from kF 4 (by decide)]; exact sqN_gd hd (hW.2.2.2.2.1 4 (Or.inr (Or.inl ⟨by decide, by decide, q0.2.2.1⟩))) i
    refine q_iload_n G 0 2 dX5_work_56 rfl rfl ?_
    refine q_iload_n G 1 1 dX5_work_57 rfl rfl ?_
    refine q_icmp_ge (tgt := 91) G dX5_work_58 (by decide) (by omega) (by omega) (fun c1 => ?_) (fun c1 => ?_)
    · have hk : (i : Int) = k_2 σ n := by unfold k_2; omega
      refine q_lvs [1, 2] rfl ?_
      exact j_X5_work3 l D cy M mo qa qb qc qf qt hMO σ hR hW n hn q0 he0 hd i i2 hk I L hf h0 hQ G hret
    · refine q_aload_n G 2 0 dX5_work_61 rfl rfl ?_
      refine q_gt (v := .int (qI (mI (wI M I L) mo 9))) G dX5_work_62 fl_X5_108 hF (by decide) rfl rfl ?_
      refine q_if_le (tgt := 91) G dX5_work_65 (by decide) (by omega) (fun c2 => ?_) (fun c2 => ?_)
      · have hk : (i : Int) = k_2 σ n := by unfold k_2; omega
        refine q_lvs [1, 2] rfl ?_
        exact j_X5_work3 l D cy M mo qa qb qc qf qt hMO σ hR hW n hn q0 he0 hd i i2 hk I L hf h0 hQ G hret
      · refine q_aload_n G 2 0 dX5_work_68 rfl rfl ?_
        refine q_iconst G dX5_work_69 ?_
        refine q_iconst G dX5_work_70 ?_
        refine q_iconst G dX5_work_71 ?_
        refine q_callV (As := [.int (qI (4)), .int (qI (4)), .int (qI (4))]) (rest := []) G dX5_work_72 cw_X5_69 (c_X5_times l D cy (wI M I L) mo qa qb qc qf qt hMO (sD σ) hd 4 4 4 (by decide) (by decide) (by decide) (by decide) g4 g4) hF.1 hF.2 (by decide) rfl rfl rfl (Nat.le_of_ble_eq_true rfl) rfl rfl ⟨Nat.le_of_ble_eq_true rfl, Nat.le_of_ble_eq_true rfl⟩ ⟨by decide, by decide⟩ (fun v9 M9 hq9 => ?_)
        obtain ⟨rfl, L1, e9, fr1, v1, g1, d1⟩ := hq9
        refine q_st (st2 := []) rfl ?_
        refine q_mem (M2 := wI M I L1) e9 ?_
        refine q_aload_n G 2 0 dX5_work_75 rfl rfl ?_
        refine q_dup G dX5_work_76 rfl ?_
        refine q_gt (v := .int (qI (mI (wI M I L) mo 9))) G dX5_work_77 fl_X5_108 hF (by decide) rfl (by simp [mI, mL, mR, sL, sI, sR, wL, wD, stF, up2, n1, n1.symm, n2, n2.symm, n3, n3.symm, u1, u1.symm, u2, u2.symm, u3, u3.symm, wI, stM, n4, n5, n6]) ?_
        refine q_iconst G dX5_work_80 ?_
        refine q_isub G dX5_work_81 ?_
        refine q_pI (z := (mI (wI M I L) mo 9) - 1) G dX5_work_82 (pl_X5_108 _) nf_5_9 hF (by decide) (Nat.le_of_ble_eq_true rfl) (fs_5_9 _ _ _) ?_
        refine q_iinc (lv' := [(2, .int (qI (((i : Int)) + 1))), (1, .int (qI (n))), (0, .ref mo)]) G 0 dX5_work_85 rfl (by decide) rfl ?_
        refine q_goto (tgt := 56) G dX5_work_88 (by decide) ?_
        refine q_lvs [0, 1, 2] rfl ?_
        have m1x : (n - ((i + 1 : Nat) : Int)).toNat < w9 ∧ ((i + 1 : Nat) : Int) ≤ n ∧ ((i + 1 : Nat) : Int) ≤ sQ σ ∧ mI (wI M I L) mo 9 - 1 = sQ σ - i - 1 := by clear v1 g1 g4 d1; omega
        have hQ2 : RMd (wkS σ (i + 1)) (up2 I mo 9 (I mo 9 - 1)) L1 mo qa qb qc qf qt := by rw [← wkS_s σ i (I mo 9 - 1) m1x.2.2.2]; exact RM_9 (RM_F (M := wI M I L) hQ n4 n5 n6 fr1 (by intro y hy; simp at hy; omega) (by decide) (by rw [← show gM L qa qb qc 4 = sqN i (sF σ 4) from kF 4 (by decide)]; exact v1)) _ u1 u2
        exact ih (i + 1) (up2 I mo 9 (I mo 9 - 1)) L1 m1x.1 ⟨⟨m1x.2.1, m1x.2.2.1⟩, frR_I (frR_L (M := wI M I L) hf rfl fr1) mo 9 _ (Or.inl rfl), (by rw [up2_k _ _ (by decide)]; exact h0), hQ2⟩
set_option maxRecDepth 100000 in
set_option maxHeartbeats 4000000 in
theorem j_X5_work {p : Program} {e : Env} {s : State} {m : MethodId} {args : Array Value} {below : List Frame} {meth : Method} {c : Code} (l : Launch) (D : va_G) (cy : Nat → ClassId) (M : qM) (mo qa qb qc qf qt : Nat) (hMO : qMO M mo qa qb qc qf qt) (σ : qS) (hR : RMd σ (mI M) (mL M) mo qa qb qc qf qt) (hW : WF σ) (n : Int) (hn : r32 n) (G : qG p s m args meth c cX5_work 3 yX5_work.cls D cy (qA (mP M) s.heap.size)) (hret : meth.sig.returnType = (some .int)) : qK p l e { frames := 4, cells := 0, slots := 0, locals := 135 } s m args below meth c (MQ below (qQ D cy (mP M) (po5 M mo qa qb qc qf qt (if e_2 σ n = 0 then n_2 σ n else σ) (e_2 σ n) (fun v => ∃ z, v = some (.int (qI z)) ∧ (e_2 σ n = 0 → z = a_2 σ n)))) args s 0 0 (qA (mP M) s.heap.size)) 3 D cy (qA (mP M) s.heap.size) 0 0 42 [(1, .int (qI (n))), (0, .ref mo)] [.int (qI (e_2 σ n)), .ref mo] (M) := by
  obtain ⟨hF, ⟨r2, r3, r4, r5, r8⟩, ⟨a2, a3, a4, a5, a8⟩, ⟨n1, n2, n3, n4, n5, n6⟩⟩ := id hMO
  obtain ⟨⟨k1, k6, k7, k9, k10, k11⟩, kF, kV, kC, kG⟩ := id hR
  obtain ⟨u1, u2, u3⟩ := qMO_ne hMO
  obtain ⟨w1, w2, w3⟩ := WF_n hW
  refine q_pI (z := e_2 σ n) G dX5_work_42 (pl_X5_27 _) nf_5_0 hF (by decide) (Nat.le_of_ble_eq_true rfl) (fs_5_0 _ _ _) ?_
  refine q_aload_n G 1 0 dX5_work_45 rfl rfl ?_
  refine q_gt (v := .int (qI (e_2 σ n))) G dX5_work_46 fl_X5_27 hF (by decide) rfl (by simp [mI, mL, mR, sL, sI, sR, wL, wD, stF, up2, n1, n1.symm, n2, n2.symm, n3, n3.symm, u1, u1.symm, u2, u2.symm, u3, u3.symm]) ?_
  refine q_if_le (tgt := 54) G dX5_work_49 (by decide) (by unfold e_2; omega) (fun c1 => ?_) (fun c1 => ?_)
  · have q0 : sD σ ≠ 0 ∧ (0 < n ∧ n < 501) ∧ sU σ = 1 ∧ sQ σ ≠ 0 := by unfold e_2 at c1; omega
    have he0 : e_2 σ n = 0 := by have : 0 ≤ e_2 σ n := (by unfold e_2; omega); omega
    have hd : dOk (sD σ) := by rcases hW.1 with h9 | h9; exact absurd h9 q0.1; exact h9
    have hd7 := hd.1
    have hr := hW.2.2.2.2.2.2 q0.2.2.1
    obtain ⟨-, hr4, -⟩ := hr
    refine q_iconst G dX5_work_54 ?_
    refine q_istore_n (lv' := [(2, .int (qI (0))), (1, .int (qI (n))), (0, .ref mo)]) G 2 dX5_work_55 rfl (by decide) rfl ?_
    refine q_lvs [0, 1, 2] rfl ?_
    exact l_work5 l D cy M mo qa qb qc qf qt hMO σ hR hW n hn q0 he0 hd G hret _ 0 (up2 (mI M) mo 0 (e_2 σ n)) (mL M) (Nat.lt_succ_self _) ⟨⟨by omega, by omega⟩, frR_I (frR_rf _ _ _ _ _ _ _ _) mo 0 _ (Or.inl rfl), up2_s _ _ _ _, by rw [wkS_0]; exact RM_0 hR _ u1 u2⟩
  · refine q_iconst G dX5_work_52 ?_
    exact q_iret G dX5_work_53 hret (by omega) (by omega) (⟨up2 (mI M) mo 0 (e_2 σ n), mL M, rfl, frR_I (frR_rf _ _ _ _ _ _ _ _) mo 0 _ (Or.inl rfl), up2_s _ _ _ _, (by rw [if_neg (by omega)]; exact RM_0 hR _ u1 u2), ⟨_, rfl, fun h9 => absurd h9 (by omega)⟩⟩)
set_option maxRecDepth 100000 in
set_option maxHeartbeats 4000000 in
theorem c_X5_work (l : Launch) (D : va_G) (cy : Nat → ClassId) (M : qM) (mo qa qb qc qf qt : Nat) (hMO : qMO M mo qa qb qc qf qt) (σ : qS) (hR : RMd σ (mI M) (mL M) mo qa qb qc qf qt) (hW : WF σ) (n : Int) (hn : r32 n) : qCt l D cy yX5_work cX5_work 3 (some .int) { frames := 4, cells := 0, slots := 0, locals := 135 } 0 0 [.ref mo, .int (qI (n))] M (po5 M mo qa qb qc qf qt (if e_2 σ n = 0 then n_2 σ n else σ) (e_2 σ n) (fun v => ∃ z, v = some (.int (qI z)) ∧ (e_2 σ n = 0 → z = a_2 σ n))) := by
  refine qCt_of (lv0 := [(0, .ref mo), (1, .int (qI (n)))]) (by decide) rfl (Nat.le_of_ble_eq_true rfl) ?_
  intro p e s m args below meth c G hname hret
  obtain ⟨hF, ⟨r2, r3, r4, r5, r8⟩, ⟨a2, a3, a4, a5, a8⟩, ⟨n1, n2, n3, n4, n5, n6⟩⟩ := id hMO
  obtain ⟨⟨k1, k6, k7, k9, k10, k11⟩, kF, kV, kC, kG⟩ := id hR
  obtain ⟨u1, u2, u3⟩ := qMO_ne hMO
  obtain ⟨w1, w2, w3⟩ := WF_n hW
  refine q_aload_n G 0 0 dX5_work_0 rfl rfl ?_
  refine q_aload_n G 0 0 dX5_work_1 rfl rfl ?_
  refine q_callV (As := []) (rest := [.ref mo]) G dX5_work_2 cw_X5_101 (c_X5_isAny l D cy M mo qa qb qc qf qt hMO (by omega)) hF.1 hF.2 (by decide) rfl rfl rfl (Nat.le_of_ble_eq_true rfl) rfl rfl ⟨Nat.le_of_ble_eq_true rfl, Nat.le_of_ble_eq_true rfl⟩ ⟨by decide, by decide⟩ (fun v9 M9 hq9 => ?_)
  obtain ⟨rfl, e9⟩ := hq9
  refine q_mem e9 ?_
  refine q_st (st2 := [.int (qI (if 0 < mL M mo 1 then 1 else 0)), .ref mo]) rfl ?_
  refine q_if_ne (tgt := 12) G dX5_work_5 (by decide) (by first | assumption | omega) (fun c1 => ?_) (fun c1 => ?_)
  · refine q_iload_n G 1 1 dX5_work_12 rfl rfl ?_
    refine q_callS (As := [.int (qI (n))]) (rest := [.ref mo]) G dX5_work_13 cw_X5_117 (c_X5_isMany l D cy M (n) (by omega)) rfl rfl (Nat.le_of_ble_eq_true rfl) rfl rfl ⟨Nat.le_of_ble_eq_true rfl, Nat.le_of_ble_eq_true rfl⟩ ⟨by decide, by decide⟩ (fun v9 M9 hq9 => ?_)
    obtain ⟨rfl, e9⟩ := hq9
    refine q_mem e9 ?_
    refine q_st (st2 := [.int (qI (if 0 < n ∧ n < 501 then 1 else 0)), .ref mo]) rfl ?_
    refine q_if_ne (tgt := 23) G dX5_work_16 (by decide) (by first | assumption | omega) (fun c2 => ?_) (fun c2 => ?_)
    · refine q_aload_n G 0 0 dX5_work_23 rfl rfl ?_
      refine q_gt (v := .int (qI (mI M mo 6))) G dX5_work_24 fl_X5_86 hF (by decide) rfl rfl ?_
      refine q_if_eq (tgt := 37) G dX5_work_27 (by decide) (by first | assumption | omega) (fun c3 => ?_) (fun c3 => ?_)
      · refine q_iconst G dX5_work_37 ?_
        refine q_goto (tgt := 42) G dX5_work_38 (by decide) ?_
        refine q_topI (z2 := e_2 σ n) (by unfold e_2; omega) ?_
        refine q_lvs [1, 0] rfl ?_
        exact j_X5_work l D cy M mo qa qb qc qf qt hMO σ hR hW n hn G hret
      · have hrq := (hW.2.2.2.2.2.2 (by omega)).2.1
        refine q_aload_n G 0 0 dX5_work_30 rfl rfl ?_
        refine q_gt (v := .int (qI (mI M mo 9))) G dX5_work_31 fl_X5_108 hF (by decide) rfl rfl ?_
        refine q_if_ne (tgt := 41) G dX5_work_34 (by decide) (by first | assumption | omega) (fun c4 => ?_) (fun c4 => ?_)
        · refine q_iconst G dX5_work_41 ?_
          refine q_topI (z2 := e_2 σ n) (by unfold e_2; omega) ?_
          refine q_lvs [1, 0] rfl ?_
          exact j_X5_work l D cy M mo qa qb qc qf qt hMO σ hR hW n hn G hret
        · refine q_iconst G dX5_work_37 ?_
          refine q_goto (tgt := 42) G dX5_work_38 (by decide) ?_
          refine q_topI (z2 := e_2 σ n) (by unfold e_2; omega) ?_
          refine q_lvs [1, 0] rfl ?_
          exact j_X5_work l D cy M mo qa qb qc qf qt hMO σ hR hW n hn G hret
    · refine q_iconst G dX5_work_19 ?_
      refine q_goto (tgt := 42) G dX5_work_20 (by decide) ?_
      refine q_topI (z2 := e_2 σ n) (by unfold e_2; omega) ?_
      refine q_lvs [1, 0] rfl ?_
      exact j_X5_work l D cy M mo qa qb qc qf qt hMO σ hR hW n hn G hret
  · refine q_iconst G dX5_work_8 ?_
    refine q_goto (tgt := 42) G dX5_work_9 (by decide) ?_
    refine q_topI (z2 := e_2 σ n) (by unfold e_2; omega) ?_
    refine q_lvs [1, 0] rfl ?_
    exact j_X5_work l D cy M mo qa qb qc qf qt hMO σ hR hW n hn G hret
