noncomputable def pvS (σ : qS) (i : Nat) : qS := setT (setX (setF σ 5 (u_3 σ i).1) (u_3 σ i).2) (sT σ - i)
theorem up1_self {α : Type} (f : Nat → α) (a : Nat) : up1 f a (f a) = f := by
  funext b; unfold up1; by_cases h : b = a
  · simp [h]
  · simp [h]
theorem pvS_0 (σ : qS) : pvS σ 0 = σ := by
  show (_, _, _, up1 (sF σ) 5 (sF σ 5), _, _, _, sT σ - ((0 : Nat) : Int), sX σ) = σ
  rw [up1_self, show sT σ - ((0 : Nat) : Int) = sT σ by omega]; rfl
theorem pvS_s (σ : qS) (i : Nat) (t : qT3) (x v : Int) (h : (t, x) = stT (sF σ 3) (sC σ 50) (u_3 σ i)) (hv : v = sT σ - i - 1) : setT (setX (setF (pvS σ i) 5 t) x) v = pvS σ (i + 1) := by
  show (_, _, _, up1 (up1 (sF σ) 5 _) 5 _, _, _, _, v, x) = (_, _, _, up1 (sF σ) 5 (stT (sF σ 3) (sC σ 50) (u_3 σ i)).1, _, _, _, sT σ - ((i + 1 : Nat) : Int), (stT (sF σ 3) (sC σ 50) (u_3 σ i)).2)
  rw [← h, up1_up1, hv, show sT σ - i - 1 = sT σ - ((i + 1 : Nat) : Int) by omega]; rfl
theorem pvS_a (σ : qS) (a b : qT3) (x y v : Int) : setX (setF (setX (setF σ 5 a) x) 5 b) y = setX (setF σ 5 b) y := by
  show (_, _, _, up1 (up1 (sF σ) 5 _) 5 _, _, _, _, _, y) = _
  rw [up1_up1]; rfl
/-- the forms and rests of the proof stay good -/
theorem stN_ok {d : Int} (hd : dOk d) {x : qT3} (hx : gd d x) {pr : Int} {u : qT3 × Int} (hu : gd d u.1 ∧ 0 ≤ u.2 ∧ u.2 < pr) : ∀ i, gd d (stN x pr i u).1 ∧ 0 ≤ (stN x pr i u).2 ∧ (stN x pr i u).2 < pr
  | 0 => hu
  | i + 1 => by
    obtain ⟨h1, h2, h3⟩ := stN_ok hd hx hu i
    have h4 := (mulT_spec hd h1 h1).2.1
    show gd d (stT x pr (stN x pr i u)).1 ∧ 0 ≤ (stT x pr (stN x pr i u)).2 ∧ (stT x pr (stN x pr i u)).2 < pr
    unfold stT
    by_cases h : 2 * (stN x pr i u).2 ≥ pr
    · rw [if_pos h]; exact ⟨(mulT_spec hd h4 hx).2.1, (by show 0 ≤ 2 * (stN x pr i u).2 - pr; omega), (by show 2 * (stN x pr i u).2 - pr < pr; omega)⟩
    · rw [if_neg h]; exact ⟨h4, (by show 0 ≤ 2 * (stN x pr i u).2; omega), (by show 2 * (stN x pr i u).2 < pr; omega)⟩
set_option maxRecDepth 100000 in
set_option maxHeartbeats 4000000 in
theorem l_prove5 {p : Program} {e : Env} {s : State} {m : MethodId} {args : Array Value} {below : List Frame} {meth : Method} {c : Code} (l : Launch) (D : va_G) (cy : Nat → ClassId) (M : qM) (mo qa qb qc qf qt : Nat) (hMO : qMO M mo qa qb qc qf qt) (σ : qS) (hR : RMd σ (mI M) (mL M) mo qa qb qc qf qt) (hW : WF σ) (n : Int) (hn : r32 n) (q0 : sD σ ≠ 0 ∧ (0 < n ∧ n < 501) ∧ sU σ = 1 ∧ sQ σ = 0 ∧ sT σ ≠ 0) (he0 : e_3 σ n = 0) (hd : dOk (sD σ)) (G : qG p s m args meth c cX5_prove 3 yX5_prove.cls D cy (qA (mP M) s.heap.size)) (hret : meth.sig.returnType = (some .int)) : ∀ (w9 : Nat) (i : Nat) (I : Nat → Nat → Int) (L : Nat → Nat → Int), (n - (i : Int)).toNat < w9 → ((i : Int) ≤ n ∧ (i : Int) ≤ sT σ) ∧ frR (mI M) (mL M) I L mo qa qb qc qf qt ∧ I mo 0 = e_3 σ n ∧ RMd (pvS σ i) I L mo qa qb qc qf qt → qK p l e { frames := 4, cells := 0, slots := 0, locals := 135 } s m args below meth c (MQ below (qQ D cy (mP M) (po5 M mo qa qb qc qf qt (if e_3 σ n = 0 then n_3 σ n else σ) (e_3 σ n) (fun v => ∃ z, v = some (.int (qI z)) ∧ (e_3 σ n = 0 → z = a_3 σ n)))) args s 0 0 (qA (mP M) s.heap.size)) 3 D cy (qA (mP M) s.heap.size) 0 0 63 [(2, .int (qI ((i : Int)))), (1, .int (qI (n))), (0, .ref mo)] [] (wI M I L) := by
  intro w9
  induction w9 with
  | zero => intro i I L h9; exact absurd h9 (Nat.not_lt_zero _)
  | succ w9 ih =>
    intro i I L hm hI
    obtain ⟨⟨i1, i2⟩, hf, h0, hQ⟩ := hI
    obtain ⟨hF, ⟨r2, r3, r4, r5, r8⟩, ⟨a2, a3, a4, a5, a8⟩, ⟨n1, n2, n3, n4, n5, n6⟩⟩ := id hMO
    obtain ⟨⟨k1, k6, k7, k9, k10, k11⟩, kF, kV, kC, kG⟩ := (show RMd (pvS σ i) (mI (wI M I L)) (mL (wI M I L)) mo qa qb qc qf qt from hQ)
    obtain ⟨u1, u2, u3⟩ := qMO_ne hMO
    obtain ⟨w1, w2, w3⟩ := WF_n hW
    replace k10 : mI (wI M I L) mo 10 = sT σ - i := k10
    replace k11 : mI (wI M I L) mo 11 = (u_3 σ i).2 := k11
    have hr := hW.2.2.2.2.2.2 q0.2.2.1
    obtain ⟨⟨hr1, hr2, hr3⟩, hr4, hr5, hr6, -⟩ := hr
    have hr7 := hr6 q0.2.2.2.1
    have gx : gd (sD σ) (sF σ 3) := hW.2.2.2.2.1 3 (Or.inr (Or.inl ⟨by decide, by decide, q0.2.2.1⟩))
    have hu := stN_ok hd gx (u := (sF σ 5, sX σ)) (pr := sC σ 50) ⟨hW.2.2.2.2.1 5 (Or.inr (Or.inl ⟨by decide, by decide, q0.2.2.1⟩)), hr7.2.1, hr7.2.2⟩ i
    have hu1 : gd (sD σ) (u_3 σ i).1 ∧ 0 ≤ (u_3 σ i).2 ∧ (u_3 σ i).2 < sC σ 50 := hu
    obtain ⟨hu2, hu3, hu4⟩ := hu1
    have y5 : gM L qa qb qc 5 = (u_3 σ i).1 := kF 5 (by decide)
    have y3 : gM L qa qb qc 3 = sF σ 3 := kF 3 (by decide)
    have c50 : mI (wI M I L) qt (Int.toNat 50) = sC σ 50 := kC 50 (by decide)
    have g5 : gd (sD σ) (gM L qa qb qc 5) := by rw [y5]; exact hu2
    clear hu
    refine q_iload_n G 0 2 dX5_prove_63 rfl rfl ?_
    refine q_iload_n G 1 1 dX5_prove_64 rfl rfl ?_
    refine q_icmp_ge (tgt := 145) G dX5_prove_65 (by decide) (by omega) (by omega) (fun c1 => ?_) (fun c1 => ?_)
    · have hk : (i : Int) = k_3 σ n := by unfold k_3; omega
      refine q_aload_n G 2 0 dX5_prove_145 rfl rfl ?_
      refine q_gt (v := .int (qI (mI (wI M I L) mo 10))) G dX5_prove_146 fl_X5_111 hF (by decide) rfl rfl ?_
      exact q_iret G dX5_prove_149 hret (by omega) (by omega) (⟨I, L, rfl, hf, h0, by rw [if_pos he0, show n_3 σ n = pvS σ i by unfold n_3 pvS; rw [← hk]; rfl]; exact hQ, ⟨_, rfl, fun _ => by unfold a_3; rw [← hk]; exact k10⟩⟩)
    · refine q_aload_n G 2 0 dX5_prove_68 rfl rfl ?_
      refine q_gt (v := .int (qI (mI (wI M I L) mo 10))) G dX5_prove_69 fl_X5_111 hF (by decide) rfl rfl ?_
      refine q_if_le (tgt := 145) G dX5_prove_72 (by decide) (by omega) (fun c2 => ?_) (fun c2 => ?_)
      · have hk : (i : Int) = k_3 σ n := by unfold k_3; omega
        refine q_aload_n G 2 0 dX5_prove_145 rfl rfl ?_
        refine q_gt (v := .int (qI (mI (wI M I L) mo 10))) G dX5_prove_146 fl_X5_111 hF (by decide) rfl rfl ?_
        exact q_iret G dX5_prove_149 hret (by omega) (by omega) (⟨I, L, rfl, hf, h0, by rw [if_pos he0, show n_3 σ n = pvS σ i by unfold n_3 pvS; rw [← hk]; rfl]; exact hQ, ⟨_, rfl, fun _ => by unfold a_3; rw [← hk]; exact k10⟩⟩)
      · refine q_aload_n G 2 0 dX5_prove_75 rfl rfl ?_
        refine q_iconst G dX5_prove_76 ?_
        refine q_iconst G dX5_prove_77 ?_
        refine q_iconst G dX5_prove_78 ?_
        refine q_callV (As := [.int (qI (5)), .int (qI (5)), .int (qI (5))]) (rest := []) G dX5_prove_79 cw_X5_69 (c_X5_times l D cy (wI M I L) mo qa qb qc qf qt hMO (sD σ) hd 5 5 5 (by decide) (by decide) (by decide) (by decide) g5 g5) hF.1 hF.2 (by decide) rfl rfl rfl (Nat.le_of_ble_eq_true rfl) rfl rfl ⟨Nat.le_of_ble_eq_true rfl, Nat.le_of_ble_eq_true rfl⟩ ⟨by decide, by decide⟩ (fun v9 M9 hq9 => ?_)
        obtain ⟨rfl, L1, e9, fr1, v1, g1, d1⟩ := hq9
        refine q_st (st2 := []) rfl ?_
        refine q_mem (M2 := wI M I L1) e9 ?_
        replace v1 : gM L1 qa qb qc 5 = mulT (u_3 σ i).1 (u_3 σ i).1 := by rw [← y5]; exact v1
        replace g1 : gd (sD σ) (gM L1 qa qb qc 5) := g1
        replace fr1 : frM (wI M I L) L1 qa qb qc [58, 59, 5] := fr1
        have y3b : gM L1 qa qb qc 3 = sF σ 3 := (frM_g fr1 (by decide)).trans y3
        have g3b : gd (sD σ) (gM L1 qa qb qc 3) := by rw [y3b]; exact gx
        refine q_aload_n G 2 0 dX5_prove_82 rfl rfl ?_
        refine q_iconst G dX5_prove_83 ?_
        refine q_aload_n G 2 0 dX5_prove_84 rfl rfl ?_
        refine q_gt (v := .int (qI (mI (wI M I L) mo 11))) G dX5_prove_85 fl_X5_114 hF (by decide) rfl (by simp [mI, mL, mR, sL, sI, sR, wL, wD, stF, up2, n1, n1.symm, n2, n2.symm, n3, n3.symm, u1, u1.symm, u2, u2.symm, u3, u3.symm, wI, stM, n4, n5, n6]) ?_
        refine q_imul G dX5_prove_88 ?_
        refine q_pI (z := 2 * (mI (wI M I L) mo 11)) G dX5_prove_89 (pl_X5_114 _) nf_5_11 hF (by decide) (Nat.le_of_ble_eq_true rfl) (fs_5_11 _ _ _) ?_
        refine q_aload_n G 2 0 dX5_prove_92 rfl rfl ?_
        refine q_gt (v := .int (qI (2 * (mI (wI M I L) mo 11)))) G dX5_prove_93 fl_X5_114 hF (by decide) rfl (by simp [mI, mL, mR, sL, sI, sR, wL, wD, stF, up2, n1, n1.symm, n2, n2.symm, n3, n3.symm, u1, u1.symm, u2, u2.symm, u3, u3.symm, wI, stM, n4, n5, n6]) ?_
        refine q_aload_n G 2 0 dX5_prove_96 rfl rfl ?_
        refine q_gt (v := .ref qt) G dX5_prove_97 fl_X5_23 hF (by decide) rfl (congrArg va_rf r8) ?_
        refine q_bipush G dX5_prove_100 (by decide +kernel) ?_
        refine q_iaload G dX5_prove_102 a8.1 a8.2.1 (by first | assumption | omega) (show (50) < ((mN M qt : Nat) : Int) by rw [a8.2.2]; omega) (show mN M qt < 2147483648 by rw [a8.2.2]; decide) ?_
        refine q_topI (z2 := mI (wI M I L) qt (Int.toNat 50)) (by simp [mI, wI, sI, up2, u2.symm]) ?_
        refine q_icmp_lt (tgt := 129) G dX5_prove_103 (by decide) (by clear v1 g1 d1; omega) (by clear v1 g1 d1; omega) (fun c3 => ?_) (fun c3 => ?_)
        · refine q_aload_n G 2 0 dX5_prove_129 rfl rfl ?_
          refine q_dup G dX5_prove_130 rfl ?_
          refine q_gt (v := .int (qI (mI (wI M I L) mo 10))) G dX5_prove_131 fl_X5_111 hF (by decide) rfl (by simp [mI, mL, mR, sL, sI, sR, wL, wD, stF, up2, n1, n1.symm, n2, n2.symm, n3, n3.symm, u1, u1.symm, u2, u2.symm, u3, u3.symm, wI, stM, n4, n5, n6]) ?_
          refine q_iconst G dX5_prove_134 ?_
          refine q_isub G dX5_prove_135 ?_
          refine q_pI (z := (mI (wI M I L) mo 10) - 1) G dX5_prove_136 (pl_X5_111 _) nf_5_10 hF (by decide) (Nat.le_of_ble_eq_true rfl) (fs_5_10 _ _ _) ?_
          refine q_iinc (lv' := [(2, .int (qI (((i : Int)) + 1))), (1, .int (qI (n))), (0, .ref mo)]) G 0 dX5_prove_139 rfl (by decide) rfl ?_
          refine q_goto (tgt := 63) G dX5_prove_142 (by decide) ?_
          refine q_lvs [0, 1, 2] rfl ?_
          have m1x : (n - ((i + 1 : Nat) : Int)).toNat < w9 ∧ ((i + 1 : Nat) : Int) ≤ n ∧ ((i + 1 : Nat) : Int) ≤ sT σ ∧ mI (wI M I L) mo 10 - 1 = sT σ - i - 1 := by clear v1 g1 d1; omega
          have hst : ((mulT (u_3 σ i).1 (u_3 σ i).1, 2 * I mo 11) : qT3 × Int) = stT (sF σ 3) (sC σ 50) (u_3 σ i) := by unfold stT; rw [if_neg (by omega), show I mo 11 = (u_3 σ i).2 from k11]
          have hQ2 : RMd (pvS σ (i + 1)) (up2 (up2 I mo 11 (2 * I mo 11)) mo 10 (I mo 10 - 1)) L1 mo qa qb qc qf qt := by rw [← pvS_s σ i _ _ (I mo 10 - 1) hst m1x.2.2.2]; exact RM_10 (RM_11 (RM_F (M := wI M I L) hQ n4 n5 n6 fr1 (by intro y hy; simp at hy; omega) (by decide) v1) (2 * I mo 11) u1 u2) (I mo 10 - 1) u1 u2
          exact ih (i + 1) (up2 (up2 I mo 11 (2 * I mo 11)) mo 10 (I mo 10 - 1)) L1 m1x.1 ⟨⟨m1x.2.1, m1x.2.2.1⟩, frR_I (frR_I (frR_L (M := wI M I L) hf rfl fr1) mo 11 _ (Or.inl rfl)) mo 10 _ (Or.inl rfl), (by rw [up2_k _ _ (by decide), up2_k _ _ (by decide)]; exact h0), hQ2⟩
        · refine q_aload_n G 2 0 dX5_prove_106 rfl rfl ?_
          refine q_aload_n G 2 0 dX5_prove_107 rfl rfl ?_
          refine q_gt (v := .int (qI (2 * (mI (wI M I L) mo 11)))) G dX5_prove_108 fl_X5_114 hF (by decide) rfl (by simp [mI, mL, mR, sL, sI, sR, wL, wD, stF, up2, n1, n1.symm, n2, n2.symm, n3, n3.symm, u1, u1.symm, u2, u2.symm, u3, u3.symm, wI, stM, n4, n5, n6]) ?_
          refine q_aload_n G 2 0 dX5_prove_111 rfl rfl ?_
          refine q_gt (v := .ref qt) G dX5_prove_112 fl_X5_23 hF (by decide) rfl (congrArg va_rf r8) ?_
          refine q_bipush G dX5_prove_115 (by decide +kernel) ?_
          refine q_iaload G dX5_prove_117 a8.1 a8.2.1 (by first | assumption | omega) (show (50) < ((mN M qt : Nat) : Int) by rw [a8.2.2]; omega) (show mN M qt < 2147483648 by rw [a8.2.2]; decide) ?_
          refine q_topI (z2 := mI (wI M I L) qt (Int.toNat 50)) (by simp [mI, wI, sI, up2, u2.symm]) ?_
          refine q_isub G dX5_prove_118 ?_
          refine q_pI (z := (2 * (mI (wI M I L) mo 11)) - (mI (wI M I L) qt (Int.toNat 50))) G dX5_prove_119 (pl_X5_114 _) nf_5_11 hF (by decide) (Nat.le_of_ble_eq_true rfl) (fs_5_11 _ _ _) ?_
          refine q_mem (M2 := wI M (up2 (up2 I mo 11 (2 * I mo 11)) mo 11 (2 * I mo 11 - I qt 50)) L1) rfl ?_
          refine q_aload_n G 2 0 dX5_prove_122 rfl rfl ?_
          refine q_iconst G dX5_prove_123 ?_
          refine q_iconst G dX5_prove_124 ?_
          refine q_iconst G dX5_prove_125 ?_
          refine q_callV (As := [.int (qI (5)), .int (qI (3)), .int (qI (5))]) (rest := []) G dX5_prove_126 cw_X5_69 (c_X5_times l D cy (wI M (up2 (up2 I mo 11 (2 * I mo 11)) mo 11 (2 * I mo 11 - I qt 50)) L1) mo qa qb qc qf qt hMO (sD σ) hd 5 3 5 (by decide) (by decide) (by decide) (by decide) g1 g3b) hF.1 hF.2 (by decide) rfl rfl rfl (Nat.le_of_ble_eq_true rfl) rfl rfl ⟨Nat.le_of_ble_eq_true rfl, Nat.le_of_ble_eq_true rfl⟩ ⟨by decide, by decide⟩ (fun v9 M9 hq9 => ?_)
          obtain ⟨rfl, L2, e9, fr2, v2, g2, d2⟩ := hq9
          refine q_st (st2 := []) rfl ?_
          refine q_mem (M2 := wI M (up2 (up2 I mo 11 (2 * I mo 11)) mo 11 (2 * I mo 11 - I qt 50)) L2) e9 ?_
          replace v2 : gM L2 qa qb qc 5 = mulT (mulT (u_3 σ i).1 (u_3 σ i).1) (sF σ 3) := by rw [← v1, ← y3b]; exact v2
          replace fr2 : frM (wI M I L) L2 qa qb qc [58, 59, 5] := frM_c fr1 fr2
          refine q_aload_n G 2 0 dX5_prove_129 rfl rfl ?_
          refine q_dup G dX5_prove_130 rfl ?_
          refine q_gt (v := .int (qI (mI (wI M I L) mo 10))) G dX5_prove_131 fl_X5_111 hF (by decide) rfl (by simp [mI, mL, mR, sL, sI, sR, wL, wD, stF, up2, n1, n1.symm, n2, n2.symm, n3, n3.symm, u1, u1.symm, u2, u2.symm, u3, u3.symm, wI, stM, n4, n5, n6]) ?_
          refine q_iconst G dX5_prove_134 ?_
          refine q_isub G dX5_prove_135 ?_
          refine q_pI (z := (mI (wI M I L) mo 10) - 1) G dX5_prove_136 (pl_X5_111 _) nf_5_10 hF (by decide) (Nat.le_of_ble_eq_true rfl) (fs_5_10 _ _ _) ?_
          refine q_iinc (lv' := [(2, .int (qI (((i : Int)) + 1))), (1, .int (qI (n))), (0, .ref mo)]) G 0 dX5_prove_139 rfl (by decide) rfl ?_
          refine q_goto (tgt := 63) G dX5_prove_142 (by decide) ?_
          refine q_lvs [0, 1, 2] rfl ?_
          have m1x : (n - ((i + 1 : Nat) : Int)).toNat < w9 ∧ ((i + 1 : Nat) : Int) ≤ n ∧ ((i + 1 : Nat) : Int) ≤ sT σ ∧ mI (wI M I L) mo 10 - 1 = sT σ - i - 1 := by clear v1 g1 d1 v2 g2 d2; omega
          have hst : ((mulT (mulT (u_3 σ i).1 (u_3 σ i).1) (sF σ 3), 2 * I mo 11 - I qt 50) : qT3 × Int) = stT (sF σ 3) (sC σ 50) (u_3 σ i) := by unfold stT; rw [if_pos (by omega), show I mo 11 = (u_3 σ i).2 from k11, show I qt 50 = sC σ 50 from c50]
          have hQ2 : RMd (pvS σ (i + 1)) (up2 (up2 (up2 I mo 11 (2 * I mo 11)) mo 11 (2 * I mo 11 - I qt 50)) mo 10 (I mo 10 - 1)) L2 mo qa qb qc qf qt := by rw [← pvS_s σ i _ _ (I mo 10 - 1) hst m1x.2.2.2]; exact RM_10 (RM_11 (RM_11 (RM_F (M := wI M I L) hQ n4 n5 n6 fr2 (by intro y hy; simp at hy; omega) (by decide) v2) (2 * I mo 11) u1 u2) (2 * I mo 11 - I qt 50) u1 u2) (I mo 10 - 1) u1 u2
          exact ih (i + 1) (up2 (up2 (up2 I mo 11 (2 * I mo 11)) mo 11 (2 * I mo 11 - I qt 50)) mo 10 (I mo 10 - 1)) L2 m1x.1 ⟨⟨m1x.2.1, m1x.2.2.1⟩, frR_I (frR_I (frR_I (frR_L (M := wI M I L) hf rfl fr2) mo 11 _ (Or.inl rfl)) mo 11 _ (Or.inl rfl)) mo 10 _ (Or.inl rfl), (by rw [up2_k _ _ (by decide), up2_k _ _ (by decide), up2_k _ _ (by decide)]; exact h0), hQ2⟩
set_option maxRecDepth 100000 in
set_option maxHeartbeats 4000000 in
theorem j_X5_prove {p : Program} {e : Env} {s : State} {m : MethodId} {args : Array Value} {below : List Frame} {meth : Method} {c : Code} (l : Launch) (D : va_G) (cy : Nat → ClassId) (M : qM) (mo qa qb qc qf qt : Nat) (hMO : qMO M mo qa qb qc qf qt) (σ : qS) (hR : RMd σ (mI M) (mL M) mo qa qb qc qf qt) (hW : WF σ) (n : Int) (hn : r32 n) (G : qG p s m args meth c cX5_prove 3 yX5_prove.cls D cy (qA (mP M) s.heap.size)) (hret : meth.sig.returnType = (some .int)) : qK p l e { frames := 4, cells := 0, slots := 0, locals := 135 } s m args below meth c (MQ below (qQ D cy (mP M) (po5 M mo qa qb qc qf qt (if e_3 σ n = 0 then n_3 σ n else σ) (e_3 σ n) (fun v => ∃ z, v = some (.int (qI z)) ∧ (e_3 σ n = 0 → z = a_3 σ n)))) args s 0 0 (qA (mP M) s.heap.size)) 3 D cy (qA (mP M) s.heap.size) 0 0 49 [(1, .int (qI (n))), (0, .ref mo)] [.int (qI (e_3 σ n)), .ref mo] (M) := by
  obtain ⟨hF, ⟨r2, r3, r4, r5, r8⟩, ⟨a2, a3, a4, a5, a8⟩, ⟨n1, n2, n3, n4, n5, n6⟩⟩ := id hMO
  obtain ⟨⟨k1, k6, k7, k9, k10, k11⟩, kF, kV, kC, kG⟩ := id hR
  obtain ⟨u1, u2, u3⟩ := qMO_ne hMO
  obtain ⟨w1, w2, w3⟩ := WF_n hW
  refine q_pI (z := e_3 σ n) G dX5_prove_49 (pl_X5_27 _) nf_5_0 hF (by decide) (Nat.le_of_ble_eq_true rfl) (fs_5_0 _ _ _) ?_
  refine q_aload_n G 1 0 dX5_prove_52 rfl rfl ?_
  refine q_gt (v := .int (qI (e_3 σ n))) G dX5_prove_53 fl_X5_27 hF (by decide) rfl (by simp [mI, mL, mR, sL, sI, sR, wL, wD, stF, up2, n1, n1.symm, n2, n2.symm, n3, n3.symm, u1, u1.symm, u2, u2.symm, u3, u3.symm]) ?_
  refine q_if_le (tgt := 61) G dX5_prove_56 (by decide) (by unfold e_3; omega) (fun c1 => ?_) (fun c1 => ?_)
  · have q0 : sD σ ≠ 0 ∧ (0 < n ∧ n < 501) ∧ sU σ = 1 ∧ ¬ sQ σ > 0 ∧ sT σ ≠ 0 := by unfold e_3 at c1; omega
    have he0 : e_3 σ n = 0 := by have : 0 ≤ e_3 σ n := (by unfold e_3; omega); omega
    have hd : dOk (sD σ) := by rcases hW.1 with h9 | h9; exact absurd h9 q0.1; exact h9
    have hd7 := hd.1
    obtain ⟨-, hr4, hr5, -⟩ := hW.2.2.2.2.2.2 q0.2.2.1
    replace q0 : sD σ ≠ 0 ∧ (0 < n ∧ n < 501) ∧ sU σ = 1 ∧ sQ σ = 0 ∧ sT σ ≠ 0 := by omega
    refine q_iconst G dX5_prove_61 ?_
    refine q_istore_n (lv' := [(2, .int (qI (0))), (1, .int (qI (n))), (0, .ref mo)]) G 2 dX5_prove_62 rfl (by decide) rfl ?_
    refine q_lvs [0, 1, 2] rfl ?_
    exact l_prove5 l D cy M mo qa qb qc qf qt hMO σ hR hW n hn q0 he0 hd G hret _ 0 (up2 (mI M) mo 0 (e_3 σ n)) (mL M) (Nat.lt_succ_self _) ⟨⟨by omega, by omega⟩, frR_I (frR_rf _ _ _ _ _ _ _ _) mo 0 _ (Or.inl rfl), up2_s _ _ _ _, by rw [pvS_0]; exact RM_0 hR _ u1 u2⟩
  · refine q_iconst G dX5_prove_59 ?_
    exact q_iret G dX5_prove_60 hret (by omega) (by omega) (⟨up2 (mI M) mo 0 (e_3 σ n), mL M, rfl, frR_I (frR_rf _ _ _ _ _ _ _ _) mo 0 _ (Or.inl rfl), up2_s _ _ _ _, (by rw [if_neg (by omega)]; exact RM_0 hR _ u1 u2), ⟨_, rfl, fun h9 => absurd h9 (by omega)⟩⟩)
set_option maxRecDepth 100000 in
set_option maxHeartbeats 4000000 in
theorem c_X5_prove (l : Launch) (D : va_G) (cy : Nat → ClassId) (M : qM) (mo qa qb qc qf qt : Nat) (hMO : qMO M mo qa qb qc qf qt) (σ : qS) (hR : RMd σ (mI M) (mL M) mo qa qb qc qf qt) (hW : WF σ) (n : Int) (hn : r32 n) : qCt l D cy yX5_prove cX5_prove 3 (some .int) { frames := 4, cells := 0, slots := 0, locals := 135 } 0 0 [.ref mo, .int (qI (n))] M (po5 M mo qa qb qc qf qt (if e_3 σ n = 0 then n_3 σ n else σ) (e_3 σ n) (fun v => ∃ z, v = some (.int (qI z)) ∧ (e_3 σ n = 0 → z = a_3 σ n))) := by
  refine qCt_of (lv0 := [(0, .ref mo), (1, .int (qI (n)))]) (by decide) rfl (Nat.le_of_ble_eq_true rfl) ?_
  intro p e s m args below meth c G hname hret
  obtain ⟨hF, ⟨r2, r3, r4, r5, r8⟩, ⟨a2, a3, a4, a5, a8⟩, ⟨n1, n2, n3, n4, n5, n6⟩⟩ := id hMO
  obtain ⟨⟨k1, k6, k7, k9, k10, k11⟩, kF, kV, kC, kG⟩ := id hR
  obtain ⟨u1, u2, u3⟩ := qMO_ne hMO
  obtain ⟨w1, w2, w3⟩ := WF_n hW
  refine q_aload_n G 0 0 dX5_prove_0 rfl rfl ?_
  refine q_aload_n G 0 0 dX5_prove_1 rfl rfl ?_
  refine q_callV (As := []) (rest := [.ref mo]) G dX5_prove_2 cw_X5_101 (c_X5_isAny l D cy M mo qa qb qc qf qt hMO (by omega)) hF.1 hF.2 (by decide) rfl rfl rfl (Nat.le_of_ble_eq_true rfl) rfl rfl ⟨Nat.le_of_ble_eq_true rfl, Nat.le_of_ble_eq_true rfl⟩ ⟨by decide, by decide⟩ (fun v9 M9 hq9 => ?_)
  obtain ⟨rfl, e9⟩ := hq9
  refine q_mem e9 ?_
  refine q_st (st2 := [.int (qI (if 0 < mL M mo 1 then 1 else 0)), .ref mo]) rfl ?_
  refine q_if_ne (tgt := 12) G dX5_prove_5 (by decide) (by first | assumption | omega) (fun c1 => ?_) (fun c1 => ?_)
  · refine q_iload_n G 1 1 dX5_prove_12 rfl rfl ?_
    refine q_callS (As := [.int (qI (n))]) (rest := [.ref mo]) G dX5_prove_13 cw_X5_117 (c_X5_isMany l D cy M (n) (by omega)) rfl rfl (Nat.le_of_ble_eq_true rfl) rfl rfl ⟨Nat.le_of_ble_eq_true rfl, Nat.le_of_ble_eq_true rfl⟩ ⟨by decide, by decide⟩ (fun v9 M9 hq9 => ?_)
    obtain ⟨rfl, e9⟩ := hq9
    refine q_mem e9 ?_
    refine q_st (st2 := [.int (qI (if 0 < n ∧ n < 501 then 1 else 0)), .ref mo]) rfl ?_
    refine q_if_ne (tgt := 23) G dX5_prove_16 (by decide) (by first | assumption | omega) (fun c2 => ?_) (fun c2 => ?_)
    · refine q_aload_n G 0 0 dX5_prove_23 rfl rfl ?_
      refine q_gt (v := .int (qI (mI M mo 6))) G dX5_prove_24 fl_X5_86 hF (by decide) rfl rfl ?_
      refine q_if_eq (tgt := 44) G dX5_prove_27 (by decide) (by first | assumption | omega) (fun c3 => ?_) (fun c3 => ?_)
      · refine q_iconst G dX5_prove_44 ?_
        refine q_goto (tgt := 49) G dX5_prove_45 (by decide) ?_
        refine q_topI (z2 := e_3 σ n) (by unfold e_3; omega) ?_
        refine q_lvs [1, 0] rfl ?_
        exact j_X5_prove l D cy M mo qa qb qc qf qt hMO σ hR hW n hn G hret
      · have hrq := (hW.2.2.2.2.2.2 (by omega)).2.1
        have hrt := (hW.2.2.2.2.2.2 (by omega)).2.2.1
        refine q_aload_n G 0 0 dX5_prove_30 rfl rfl ?_
        refine q_gt (v := .int (qI (mI M mo 9))) G dX5_prove_31 fl_X5_108 hF (by decide) rfl rfl ?_
        refine q_if_gt (tgt := 44) G dX5_prove_34 (by decide) (by first | assumption | omega) (fun c4 => ?_) (fun c4 => ?_)
        · refine q_iconst G dX5_prove_44 ?_
          refine q_goto (tgt := 49) G dX5_prove_45 (by decide) ?_
          refine q_topI (z2 := e_3 σ n) (by unfold e_3; omega) ?_
          refine q_lvs [1, 0] rfl ?_
          exact j_X5_prove l D cy M mo qa qb qc qf qt hMO σ hR hW n hn G hret
        · refine q_aload_n G 0 0 dX5_prove_37 rfl rfl ?_
          refine q_gt (v := .int (qI (mI M mo 10))) G dX5_prove_38 fl_X5_111 hF (by decide) rfl rfl ?_
          refine q_if_ne (tgt := 48) G dX5_prove_41 (by decide) (by first | assumption | omega) (fun c5 => ?_) (fun c5 => ?_)
          · refine q_iconst G dX5_prove_48 ?_
            refine q_topI (z2 := e_3 σ n) (by unfold e_3; omega) ?_
            refine q_lvs [1, 0] rfl ?_
            exact j_X5_prove l D cy M mo qa qb qc qf qt hMO σ hR hW n hn G hret
          · refine q_iconst G dX5_prove_44 ?_
            refine q_goto (tgt := 49) G dX5_prove_45 (by decide) ?_
            refine q_topI (z2 := e_3 σ n) (by unfold e_3; omega) ?_
            refine q_lvs [1, 0] rfl ?_
            exact j_X5_prove l D cy M mo qa qb qc qf qt hMO σ hR hW n hn G hret
    · refine q_iconst G dX5_prove_19 ?_
      refine q_goto (tgt := 49) G dX5_prove_20 (by decide) ?_
      refine q_topI (z2 := e_3 σ n) (by unfold e_3; omega) ?_
      refine q_lvs [1, 0] rfl ?_
      exact j_X5_prove l D cy M mo qa qb qc qf qt hMO σ hR hW n hn G hret
  · refine q_iconst G dX5_prove_8 ?_
    refine q_goto (tgt := 49) G dX5_prove_9 (by decide) ?_
    refine q_topI (z2 := e_3 σ n) (by unfold e_3; omega) ?_
    refine q_lvs [1, 0] rfl ?_
    exact j_X5_prove l D cy M mo qa qb qc qf qt hMO σ hR hW n hn G hret
