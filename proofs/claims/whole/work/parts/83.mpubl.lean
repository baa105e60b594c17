def pbS (σ : qS) : Nat → qS
  | 0 => σ
  | k + 1 => c_4 (pbS σ k) k
theorem pbS_B (σ : qS) : ∀ k, sB (pbS σ k) = sB σ
  | 0 => rfl
  | k + 1 => (show sB (c_4 (pbS σ k) k) = sB (pbS σ k) from rfl).trans (pbS_B σ k)
theorem pbS_D (σ : qS) : ∀ k, sD (pbS σ k) = sD σ
  | 0 => rfl
  | k + 1 => (show sD (c_4 (pbS σ k) k) = sD (pbS σ k) from rfl).trans (pbS_D σ k)
set_option maxRecDepth 100000 in
set_option maxHeartbeats 4000000 in
theorem l_pub5 {p : Program} {e : Env} {s : State} {m : MethodId} {args : Array Value} {below : List Frame} {meth : Method} {c : Code} (l : Launch) (D : va_G) (cy : Nat → ClassId) (M : qM) (mo qa qb qc qf qt : Nat) (hMO : qMO M mo qa qb qc qf qt) (σ : qS) (hR : RMd σ (mI M) (mL M) mo qa qb qc qf qt) (hW : WF σ) (q0 : sD σ ≠ 0 ∧ sU σ = 1 ∧ sB σ < 16) (he0 : e_4 σ = 0) (G : qG p s m args meth c cX5_publish 2 yX5_publish.cls D cy (qA (mP M) s.heap.size)) (hret : meth.sig.returnType = (some .int)) : ∀ (w9 : Nat) (i : Nat) (I : Nat → Nat → Int) (L : Nat → Nat → Int), 3 - i < w9 → i ≤ 3 ∧ frR (mI M) (mL M) I L mo qa qb qc qf qt ∧ I mo 0 = e_4 σ ∧ RMd (pbS σ i) I L mo qa qb qc qf qt → qK p l e { frames := 2, cells := 0, slots := 0, locals := 49 } s m args below meth c (MQ below (qQ D cy (mP M) (po5 M mo qa qb qc qf qt (if e_4 σ = 0 then n_4 σ else σ) (e_4 σ) (fun v => ∃ z, v = some (.int (qI z)) ∧ (e_4 σ = 0 → z = a_4 σ)))) args s 0 0 (qA (mP M) s.heap.size)) 2 D cy (qA (mP M) s.heap.size) 0 0 48 [(1, .int (qI ((i : Int)))), (0, .ref mo)] [] (wI M I L) := by
  intro w9
  induction w9 with
  | zero => intro i I L h9; exact absurd h9 (Nat.not_lt_zero _)
  | succ w9 ih =>
    intro i I L hm hI
    obtain ⟨i1, hf, h0, hQ⟩ := hI
    obtain ⟨hF, ⟨r2, r3, r4, r5, r8⟩, ⟨a2, a3, a4, a5, a8⟩, ⟨n1, n2, n3, n4, n5, n6⟩⟩ := id hMO
    obtain ⟨⟨k1, k6, k7, k9, k10, k11⟩, kF, kV, kC, kG⟩ := (show RMd (pbS σ i) (mI (wI M I L)) (mL (wI M I L)) mo qa qb qc qf qt from hQ)
    obtain ⟨u1, u2, u3⟩ := qMO_ne hMO
    obtain ⟨w1, w2, w3⟩ := WF_n hW
    rw [pbS_B] at k7
    obtain ⟨b0, hb0⟩ : ∃ b0 : Nat, sB σ = b0 := ⟨(sB σ).toNat, by omega⟩
    have x1 : (6 + 3 * mI (wI M I L) mo 7 + (i : Int)).toNat = 6 + 3 * b0 + i := by omega
    have x2 : (3 + (i : Int)).toNat = 3 + i := by omega
    have x3 : (3 * mI (wI M I L) mo 7 + (i : Int)).toNat = 3 * b0 + i := by omega
    have x4 : (48 + (i : Int)).toNat = 48 + i := by omega
    refine q_iload_n G 0 1 dX5_publish_48 rfl rfl ?_
    refine q_iconst G dX5_publish_49 ?_
    refine q_icmp_ge (tgt := 99) G dX5_publish_50 (by decide) (by omega) (by omega) (fun c1 => ?_) (fun c1 => ?_)
    · refine q_aload_n G 1 0 dX5_publish_99 rfl rfl ?_
      refine q_dup G dX5_publish_100 rfl ?_
      refine q_gt (v := .int (qI (mI (wI M I L) mo 7))) G dX5_publish_101 fl_X5_94 hF (by decide) rfl rfl ?_
      refine q_iconst G dX5_publish_104 ?_
      refine q_iadd G dX5_publish_105 ?_
      refine q_pI (z := (mI (wI M I L) mo 7) + 1) G dX5_publish_106 (pl_X5_94 _) nf_5_7 hF (by decide) (Nat.le_of_ble_eq_true rfl) (fs_5_7 _ _ _) ?_
      refine q_aload_n G 1 0 dX5_publish_109 rfl rfl ?_
      refine q_iconst G dX5_publish_110 ?_
      refine q_pI (z := 0) G dX5_publish_111 pl_X5_86f nf_5_6 hF (by decide) (Nat.le_of_ble_eq_true rfl) (fs_5_6 _ _ _) ?_
      refine q_aload_n G 1 0 dX5_publish_114 rfl rfl ?_
      refine q_gt (v := .int (qI ((mI (wI M I L) mo 7) + 1))) G dX5_publish_115 fl_X5_94 hF (by decide) rfl (by simp [mI, mL, mR, sL, sI, sR, wL, wD, stF, up2, n1, n1.symm, n2, n2.symm, n3, n3.symm, u1, u1.symm, u2, u2.symm, u3, u3.symm, wI, stM, n4, n5, n6]) ?_
      exact q_iret G dX5_publish_118 hret (by omega) (by omega) (⟨up2 (up2 I mo 7 (I mo 7 + 1)) mo 6 0, L, rfl, frR_I (frR_I hf mo 7 _ (Or.inl rfl)) mo 6 _ (Or.inl rfl), (by rw [up2_k _ _ (by decide), up2_k _ _ (by decide)]; exact h0), by rw [if_pos he0, show n_4 σ = setU (setB (pbS σ 3) (sB σ + 1)) 0 from rfl, ← show i = 3 by omega, ← show I mo 7 = sB σ from k7]; exact RM_6 (RM_7 hQ _ u1 u2) 0 u1 u2, ⟨_, rfl, fun _ => by unfold a_4; exact congrArg (· + 1) k7⟩⟩)
    · refine q_aload_n G 1 0 dX5_publish_53 rfl rfl ?_
      refine q_iconst G dX5_publish_54 ?_
      refine q_iload_n G 0 1 dX5_publish_55 rfl rfl ?_
      refine q_iadd G dX5_publish_56 ?_
      refine q_bipush G dX5_publish_57 (by decide +kernel) ?_
      refine q_iconst G dX5_publish_59 ?_
      refine q_aload_n G 1 0 dX5_publish_60 rfl rfl ?_
      refine q_gt (v := .int (qI (mI (wI M I L) mo 7))) G dX5_publish_61 fl_X5_94 hF (by decide) rfl rfl ?_
      refine q_imul G dX5_publish_64 ?_
      refine q_iadd G dX5_publish_65 ?_
      refine q_iload_n G 0 1 dX5_publish_66 rfl rfl ?_
      refine q_iadd G dX5_publish_67 ?_
      refine q_callV (As := [.int (qI (3 + ((i : Int)))), .int (qI ((6 + (3 * (mI (wI M I L) mo 7))) + ((i : Int))))]) (rest := []) G dX5_publish_68 cw_X5_62 (c_X5_copy l D cy (wI M I L) mo qa qb qc qf qt hMO (3 + (i : Int)) (6 + 3 * mI (wI M I L) mo 7 + (i : Int)) (by omega) (by omega)) hF.1 hF.2 (by decide) rfl rfl rfl (Nat.le_of_ble_eq_true rfl) rfl rfl ⟨Nat.le_of_ble_eq_true rfl, Nat.le_of_ble_eq_true rfl⟩ ⟨by decide, by decide⟩ (fun v9 M9 hq9 => ?_)
      obtain ⟨rfl, e9⟩ := hq9
      refine q_mem e9 ?_
      refine q_st (st2 := []) rfl ?_
      refine q_mem (M2 := wI M I (stM L qa qb qc (6 + 3 * b0 + i) (L qa (3 + i)) (L qb (3 + i)) (L qc (3 + i)))) (by rw [x1, x2]; rfl) ?_
      refine q_aload_n G 1 0 dX5_publish_71 rfl rfl ?_
      refine q_gt (v := .ref qt) G dX5_publish_72 fl_X5_23 hF (by decide) rfl (congrArg va_rf r8) ?_
      refine q_iconst G dX5_publish_75 ?_
      refine q_aload_n G 1 0 dX5_publish_76 rfl rfl ?_
      refine q_gt (v := .int (qI (mI (wI M I L) mo 7))) G dX5_publish_77 fl_X5_94 hF (by decide) rfl (by simp [mI, mL, mR, sL, sI, sR, wL, wD, stF, up2, n1, n1.symm, n2, n2.symm, n3, n3.symm, u1, u1.symm, u2, u2.symm, u3, u3.symm, wI, stM, n4, n5, n6]) ?_
      refine q_imul G dX5_publish_80 ?_
      refine q_iload_n G 0 1 dX5_publish_81 rfl rfl ?_
      refine q_iadd G dX5_publish_82 ?_
      refine q_aload_n G 1 0 dX5_publish_83 rfl rfl ?_
      refine q_gt (v := .ref qt) G dX5_publish_84 fl_X5_23 hF (by decide) rfl (congrArg va_rf r8) ?_
      refine q_bipush G dX5_publish_87 (by decide +kernel) ?_
      refine q_iload_n G 0 1 dX5_publish_89 rfl rfl ?_
      refine q_iadd G dX5_publish_90 ?_
      refine q_iaload G dX5_publish_91 a8.1 a8.2.1 (by first | assumption | omega) (show (48 + ((i : Int))) < ((mN M qt : Nat) : Int) by rw [a8.2.2]; omega) (show mN M qt < 2147483648 by rw [a8.2.2]; decide) ?_
      refine q_topI (z2 := I qt (48 + i)) (by rw [x4]; rfl) ?_
      refine q_iastore G dX5_publish_92 a8.1 a8.2.1 (by first | assumption | omega) (show (3 * mI (wI M I L) mo 7 + (i : Int)) < ((mN M qt : Nat) : Int) by rw [a8.2.2]; omega) (show mN M qt < 2147483648 by rw [a8.2.2]; decide) ?_
      refine q_mem (M2 := wI M (up2 I qt (3 * b0 + i) (I qt (48 + i))) (stM L qa qb qc (6 + 3 * b0 + i) (L qa (3 + i)) (L qb (3 + i)) (L qc (3 + i)))) (by rw [x3]; rfl) ?_
      refine q_iinc (lv' := [(1, .int (qI (((i : Int)) + 1))), (0, .ref mo)]) G 0 dX5_publish_93 rfl (by decide) rfl ?_
      refine q_goto (tgt := 48) G dX5_publish_96 (by decide) ?_
      refine q_lvs [0, 1] rfl ?_
      clear x1 x2 x3 x4
      obtain ⟨m91, m92, m93⟩ : 3 - (i + 1) < w9 ∧ i + 1 ≤ 3 ∧ 6 + 3 * b0 + i < 54 := by omega
      have hQ2 : RMd (pbS σ (i + 1)) (up2 I qt (3 * b0 + i) (I qt (48 + i))) (stM L qa qb qc (6 + 3 * b0 + i) (L qa (3 + i)) (L qb (3 + i)) (L qc (3 + i))) mo qa qb qc qf qt := by show RMd (setC (setF (pbS σ i) (6 + 3 * (sB (pbS σ i)).toNat + i) (sF (pbS σ i) (3 + i))) (3 * (sB (pbS σ i)).toNat + i) (sC (pbS σ i) (48 + i))) _ _ _ _ _ _ _ _; rw [pbS_B, hb0, Int.toNat_natCast, ← kC (48 + i) (by omega), ← kF (3 + i) (by omega)]; exact RM_C (RM_F (M := wI M I L) hQ n4 n5 n6 (frM_st (S := [6 + 3 * b0 + i]) (frM_rf (wI M I L) qa qb qc _) (by simp) _ _ _) (by intro y hy; exact Or.inl (List.mem_singleton.mp hy)) m93 (gM_s _ _ _ _ n1 n2 n3)) _ u2 u3 _
      exact ih (i + 1) (up2 I qt (3 * b0 + i) (I qt (48 + i))) (stM L qa qb qc (6 + 3 * b0 + i) (L qa (3 + i)) (L qb (3 + i)) (L qc (3 + i))) m91 ⟨m92, frR_I (frR_L (M := wI M I L) hf rfl (frM_st (S := [6 + 3 * b0 + i]) (frM_rf (wI M I L) qa qb qc _) (by simp) _ _ _)) qt _ _ (Or.inr (Or.inr rfl)), (by rw [up2_a _ _ u2]; exact h0), hQ2⟩
set_option maxRecDepth 100000 in
set_option maxHeartbeats 4000000 in
theorem j_X5_publish {p : Program} {e : Env} {s : State} {m : MethodId} {args : Array Value} {below : List Frame} {meth : Method} {c : Code} (l : Launch) (D : va_G) (cy : Nat → ClassId) (M : qM) (mo qa qb qc qf qt : Nat) (hMO : qMO M mo qa qb qc qf qt) (σ : qS) (hR : RMd σ (mI M) (mL M) mo qa qb qc qf qt) (hW : WF σ) (G : qG p s m args meth c cX5_publish 2 yX5_publish.cls D cy (qA (mP M) s.heap.size)) (hret : meth.sig.returnType = (some .int)) : qK p l e { frames := 2, cells := 0, slots := 0, locals := 49 } s m args below meth c (MQ below (qQ D cy (mP M) (po5 M mo qa qb qc qf qt (if e_4 σ = 0 then n_4 σ else σ) (e_4 σ) (fun v => ∃ z, v = some (.int (qI z)) ∧ (e_4 σ = 0 → z = a_4 σ)))) args s 0 0 (qA (mP M) s.heap.size)) 2 D cy (qA (mP M) s.heap.size) 0 0 34 [(0, .ref mo)] [.int (qI (e_4 σ)), .ref mo] (M) := by
  obtain ⟨hF, ⟨r2, r3, r4, r5, r8⟩, ⟨a2, a3, a4, a5, a8⟩, ⟨n1, n2, n3, n4, n5, n6⟩⟩ := id hMO
  obtain ⟨⟨k1, k6, k7, k9, k10, k11⟩, kF, kV, kC, kG⟩ := id hR
  obtain ⟨u1, u2, u3⟩ := qMO_ne hMO
  obtain ⟨w1, w2, w3⟩ := WF_n hW
  refine q_pI (z := e_4 σ) G dX5_publish_34 (pl_X5_27 _) nf_5_0 hF (by decide) (Nat.le_of_ble_eq_true rfl) (fs_5_0 _ _ _) ?_
  refine q_aload_n G 0 0 dX5_publish_37 rfl rfl ?_
  refine q_gt (v := .int (qI (e_4 σ))) G dX5_publish_38 fl_X5_27 hF (by decide) rfl (by simp [mI, mL, mR, sL, sI, sR, wL, wD, stF, up2, n1, n1.symm, n2, n2.symm, n3, n3.symm, u1, u1.symm, u2, u2.symm, u3, u3.symm]) ?_
  refine q_if_le (tgt := 46) G dX5_publish_41 (by decide) (by unfold e_4; omega) (fun c1 => ?_) (fun c1 => ?_)
  · have q1 : sD σ ≠ 0 ∧ sU σ = 1 := by unfold e_4 at c1; omega
    have he0 : e_4 σ = 0 := by have : 0 ≤ e_4 σ := (by unfold e_4; omega); omega
    have q0 : sD σ ≠ 0 ∧ sU σ = 1 ∧ sB σ < 16 := ⟨q1.1, q1.2, hW.2.1.2.2 q1.2⟩
    refine q_iconst G dX5_publish_46 ?_
    refine q_istore_n (lv' := [(1, .int (qI (0))), (0, .ref mo)]) G 1 dX5_publish_47 rfl (by decide) rfl ?_
    refine q_lvs [0, 1] rfl ?_
    exact l_pub5 l D cy M mo qa qb qc qf qt hMO σ hR hW q0 he0 G hret _ 0 (up2 (mI M) mo 0 (e_4 σ)) (mL M) (Nat.lt_succ_self _) ⟨by omega, frR_I (frR_rf _ _ _ _ _ _ _ _) mo 0 _ (Or.inl rfl), up2_s _ _ _ _, RM_0 hR _ u1 u2⟩
  · refine q_iconst G dX5_publish_44 ?_
    exact q_iret G dX5_publish_45 hret (by omega) (by omega) (⟨up2 (mI M) mo 0 (e_4 σ), mL M, rfl, frR_I (frR_rf _ _ _ _ _ _ _ _) mo 0 _ (Or.inl rfl), up2_s _ _ _ _, (by rw [if_neg (by omega)]; exact RM_0 hR _ u1 u2), ⟨_, rfl, fun h9 => absurd h9 (by omega)⟩⟩)
set_option maxRecDepth 100000 in
set_option maxHeartbeats 4000000 in
theorem c_X5_publish (l : Launch) (D : va_G) (cy : Nat → ClassId) (M : qM) (mo qa qb qc qf qt : Nat) (hMO : qMO M mo qa qb qc qf qt) (σ : qS) (hR : RMd σ (mI M) (mL M) mo qa qb qc qf qt) (hW : WF σ) : qCt l D cy yX5_publish cX5_publish 2 (some .int) { frames := 2, cells := 0, slots := 0, locals := 49 } 0 0 [.ref mo] M (po5 M mo qa qb qc qf qt (if e_4 σ = 0 then n_4 σ else σ) (e_4 σ) (fun v => ∃ z, v = some (.int (qI z)) ∧ (e_4 σ = 0 → z = a_4 σ))) := by
  refine qCt_of (lv0 := [(0, .ref mo)]) (by decide) rfl (Nat.le_of_ble_eq_true rfl) ?_
  intro p e s m args below meth c G hname hret
  obtain ⟨hF, ⟨r2, r3, r4, r5, r8⟩, ⟨a2, a3, a4, a5, a8⟩, ⟨n1, n2, n3, n4, n5, n6⟩⟩ := id hMO
  obtain ⟨⟨k1, k6, k7, k9, k10, k11⟩, kF, kV, kC, kG⟩ := id hR
  obtain ⟨u1, u2, u3⟩ := qMO_ne hMO
  obtain ⟨w1, w2, w3⟩ := WF_n hW
  refine q_aload_n G 0 0 dX5_publish_0 rfl rfl ?_
  refine q_aload_n G 0 0 dX5_publish_1 rfl rfl ?_
  refine q_callV (As := []) (rest := [.ref mo]) G dX5_publish_2 cw_X5_101 (c_X5_isAny l D cy M mo qa qb qc qf qt hMO (by omega)) hF.1 hF.2 (by decide) rfl rfl rfl (Nat.le_of_ble_eq_true rfl) rfl rfl ⟨Nat.le_of_ble_eq_true rfl, Nat.le_of_ble_eq_true rfl⟩ ⟨by decide, by decide⟩ (fun v9 M9 hq9 => ?_)
  obtain ⟨rfl, e9⟩ := hq9
  refine q_mem e9 ?_
  refine q_st (st2 := [.int (qI (if 0 < mL M mo 1 then 1 else 0)), .ref mo]) rfl ?_
  refine q_if_eq (tgt := 29) G dX5_publish_5 (by decide) (by first | assumption | omega) (fun c1 => ?_) (fun c1 => ?_)
  · refine q_iconst G dX5_publish_29 ?_
    refine q_goto (tgt := 34) G dX5_publish_30 (by decide) ?_
    refine q_topI (z2 := e_4 σ) (by unfold e_4; omega) ?_
    refine q_lvs [0] rfl ?_
    exact j_X5_publish l D cy M mo qa qb qc qf qt hMO σ hR hW  G hret
  · refine q_aload_n G 0 0 dX5_publish_8 rfl rfl ?_
    refine q_gt (v := .int (qI (mI M mo 6))) G dX5_publish_9 fl_X5_86 hF (by decide) rfl rfl ?_
    refine q_if_eq (tgt := 29) G dX5_publish_12 (by decide) (by first | assumption | omega) (fun c2 => ?_) (fun c2 => ?_)
    · refine q_iconst G dX5_publish_29 ?_
      refine q_goto (tgt := 34) G dX5_publish_30 (by decide) ?_
      refine q_topI (z2 := e_4 σ) (by unfold e_4; omega) ?_
      refine q_lvs [0] rfl ?_
      exact j_X5_publish l D cy M mo qa qb qc qf qt hMO σ hR hW  G hret
    · have hrq := (hW.2.2.2.2.2.2 (by omega)).2.1
      have hrt := (hW.2.2.2.2.2.2 (by omega)).2.2.1
      refine q_aload_n G 0 0 dX5_publish_15 rfl rfl ?_
      refine q_gt (v := .int (qI (mI M mo 9))) G dX5_publish_16 fl_X5_108 hF (by decide) rfl rfl ?_
      refine q_if_gt (tgt := 29) G dX5_publish_19 (by decide) (by first | assumption | omega) (fun c3 => ?_) (fun c3 => ?_)
      · refine q_iconst G dX5_publish_29 ?_
        refine q_goto (tgt := 34) G dX5_publish_30 (by decide) ?_
        refine q_topI (z2 := e_4 σ) (by unfold e_4; omega) ?_
        refine q_lvs [0] rfl ?_
        exact j_X5_publish l D cy M mo qa qb qc qf qt hMO σ hR hW  G hret
      · refine q_aload_n G 0 0 dX5_publish_22 rfl rfl ?_
        refine q_gt (v := .int (qI (mI M mo 10))) G dX5_publish_23 fl_X5_111 hF (by decide) rfl rfl ?_
        refine q_if_le (tgt := 33) G dX5_publish_26 (by decide) (by first | assumption | omega) (fun c4 => ?_) (fun c4 => ?_)
        · refine q_iconst G dX5_publish_33 ?_
          refine q_topI (z2 := e_4 σ) (by unfold e_4; omega) ?_
          refine q_lvs [0] rfl ?_
          exact j_X5_publish l D cy M mo qa qb qc qf qt hMO σ hR hW  G hret
        · refine q_iconst G dX5_publish_29 ?_
          refine q_goto (tgt := 34) G dX5_publish_30 (by decide) ?_
          refine q_topI (z2 := e_4 σ) (by unfold e_4; omega) ?_
          refine q_lvs [0] rfl ?_
          exact j_X5_publish l D cy M mo qa qb qc qf qt hMO σ hR hW  G hret
