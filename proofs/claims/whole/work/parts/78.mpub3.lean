theorem ite1 {P : Prop} [Decidable P] (h : (if P then (1 : Int) else 0) ≠ 0) : P := Decidable.byContradiction (fun h9 => h (if_neg h9))
theorem ite0 {P : Prop} [Decidable P] (h : (if P then (1 : Int) else 0) = 0) : ¬ P := fun h9 => absurd ((if_pos h9).symm.trans h) (by decide)
set_option maxRecDepth 100000 in
set_option maxHeartbeats 4000000 in
theorem j_X5_verify {p : Program} {e : Env} {s : State} {m : MethodId} {args : Array Value} {below : List Frame} {meth : Method} {c : Code} (l : Launch) (D : va_G) (cy : Nat → ClassId) (M : qM) (mo qa qb qc qf qt : Nat) (hMO : qMO M mo qa qb qc qf qt) (σ : qS) (hR : RMd σ (mI M) (mL M) mo qa qb qc qf qt) (hW : WF σ) (r : Int) (hr : r32 r) (G : qG p s m args meth c cX5_verify 3 yX5_verify.cls D cy (qA (mP M) s.heap.size)) (hret : meth.sig.returnType = (some .boolean)) : qK p l e { frames := 6, cells := 0, slots := 0, locals := 184 } s m args below meth c (MQ below (qQ D cy (mP M) (po5 M mo qa qb qc qf qt (σ) (e_9 σ r) (fun v => ∃ z, v = some (.int (qI z)) ∧ (e_9 σ r = 0 → z = a_9 σ r)))) args s 0 0 (qA (mP M) s.heap.size)) 3 D cy (qA (mP M) s.heap.size) 0 0 29 [(1, .int (qI (r))), (0, .ref mo)] [.int (qI (e_9 σ r)), .ref mo] (M) := by
  obtain ⟨hF, ⟨r2, r3, r4, r5, r8⟩, ⟨a2, a3, a4, a5, a8⟩, ⟨n1, n2, n3, n4, n5, n6⟩⟩ := id hMO
  obtain ⟨⟨k1, k6, k7, k9, k10, k11⟩, kF, kV, kC, kG⟩ := id hR
  obtain ⟨u1, u2, u3⟩ := qMO_ne hMO
  obtain ⟨w1, w2, w3⟩ := WF_n hW
  refine q_pI (z := e_9 σ r) G dX5_verify_29 (pl_X5_27 _) nf_5_0 hF (by decide) (Nat.le_of_ble_eq_true rfl) (fs_5_0 _ _ _) ?_
  refine q_aload_n G 1 0 dX5_verify_32 rfl rfl ?_
  refine q_gt (v := .int (qI (e_9 σ r))) G dX5_verify_33 fl_X5_27 hF (by decide) rfl (by simp [mI, mL, mR, sL, sI, sR, wL, wD, stF, up2, n1, n1.symm, n2, n2.symm, n3, n3.symm, u1, u1.symm, u2, u2.symm, u3, u3.symm]) ?_
  refine q_if_le (tgt := 41) G dX5_verify_36 (by decide) (by unfold e_9; omega) (fun c1 => ?_) (fun c1 => ?_)
  · have q0 : sD σ ≠ 0 ∧ isBk σ r := by unfold e_9 at c1; omega
    have he0 : e_9 σ r = 0 := by have : 0 ≤ e_9 σ r := (by unfold e_9; omega); omega
    have hd : dOk (sD σ) := by rcases hW.1 with h9 | h9; exact absurd h9 q0.1; exact h9
    have hd7 := hd.1
    have g2 : gd (sD σ) (gM (mL M) qa qb qc (6 + 3 * r).toNat) := by rw [kF _ (by omega)]; exact hW.2.2.2.2.1 _ (Or.inr (Or.inr ⟨by omega, by omega⟩))
    have g3 : gd (sD σ) (gM (mL M) qa qb qc (6 + 3 * r + 1).toNat) := by rw [kF _ (by omega)]; exact hW.2.2.2.2.1 _ (Or.inr (Or.inr ⟨by omega, by omega⟩))
    have g4 : gd (sD σ) (gM (mL M) qa qb qc (6 + 3 * r + 2).toNat) := by rw [kF _ (by omega)]; exact hW.2.2.2.2.1 _ (Or.inr (Or.inr ⟨by omega, by omega⟩))
    obtain ⟨f1, f2, f3⟩ := hW.2.2.2.2.2.1 r.toNat (by omega)
    rw [show 3 * r.toNat = (3 * r).toNat by omega] at f1
    rw [show 3 * r.toNat + 1 = (3 * r + 1).toNat by omega] at f2
    rw [show 3 * r.toNat + 2 = (3 * r + 2).toNat by omega] at f3
    have c0 := kC (3 * r).toNat (by omega)
    have c1x := kC (3 * r + 1).toNat (by omega)
    have c2x := kC (3 * r + 2).toNat (by omega)
    refine q_bipush G dX5_verify_41 (by decide +kernel) ?_
    refine q_iconst G dX5_verify_43 ?_
    refine q_iload_n G 0 1 dX5_verify_44 rfl rfl ?_
    refine q_imul G dX5_verify_45 ?_
    refine q_iadd G dX5_verify_46 ?_
    refine q_istore_n (lv' := [(2, .int (qI (6 + (3 * r)))), (1, .int (qI (r))), (0, .ref mo)]) G 2 dX5_verify_47 rfl (by decide) rfl ?_
    refine q_aload_n G 2 0 dX5_verify_48 rfl rfl ?_
    refine q_bipush G dX5_verify_49 (by decide +kernel) ?_
    refine q_aload_n G 2 0 dX5_verify_51 rfl rfl ?_
    refine q_gt (v := .ref qt) G dX5_verify_52 fl_X5_23 hF (by decide) rfl (congrArg va_rf r8) ?_
    refine q_iconst G dX5_verify_55 ?_
    refine q_iload_n G 1 1 dX5_verify_56 rfl rfl ?_
    refine q_imul G dX5_verify_57 ?_
    refine q_iconst G dX5_verify_58 ?_
    refine q_iadd G dX5_verify_59 ?_
    refine q_iaload G dX5_verify_60 a8.1 a8.2.1 (by first | assumption | omega) (show ((3 * r) + 1) < ((mN M qt : Nat) : Int) by rw [a8.2.2]; omega) (show mN M qt < 2147483648 by rw [a8.2.2]; decide) ?_
    refine q_topI (z2 := mI M qt (Int.toNat ((3 * r) + 1))) (by simp [mI, mL, mR, sL, sI, sR, wL, wD, stF, stM, up2, n1, n1.symm, n2, n2.symm, n3, n3.symm, u1, u1.symm, u2, u2.symm, u3, u3.symm]) ?_
    refine q_bipush G dX5_verify_61 (by decide +kernel) ?_
    refine q_callV (As := [.int (qI (55)), .int (qI (mI M qt (Int.toNat ((3 * r) + 1)))), .int (qI (60))]) (rest := []) G dX5_verify_63 cw_X5_105 (c_X5_raiseTo l D cy (sI M mo 0 (e_9 σ r)) mo qa qb qc qf qt hMO (sD σ) hd (kG q0.1).1 55 (mI M qt (Int.toNat (3 * r + 1))) 60 (by decide) (by decide) (by omega) (show gd (sD σ) (gM (mL M) qa qb qc 55) by rw [(kG q0.1).2]; exact (geT_gd hd).1)) hF.1 hF.2 (by decide) rfl rfl rfl (Nat.le_of_ble_eq_true rfl) rfl rfl ⟨Nat.le_of_ble_eq_true rfl, Nat.le_of_ble_eq_true rfl⟩ ⟨by decide, by decide⟩ (fun v9 M9 hq9 => ?_)
    obtain ⟨rfl, L1, e9, fr1, v1, g1⟩ := hq9
    refine q_st (st2 := []) rfl ?_
    refine q_mem (M2 := wL (sI M mo 0 (e_9 σ r)) L1) e9 ?_
    replace v1 : gM L1 qa qb qc 60 = powT (unT (sD σ)) (gM (mL M) qa qb qc 55) (mI M qt (Int.toNat (3 * r + 1))) := v1
    rw [(kG q0.1).2, c1x] at v1
    replace fr1 : frM M L1 qa qb qc [58, 59, 56, 57, 60, 61] := frM_w (S := [58, 59, 56, 57, 60]) fr1 (by intro y hy; simp at hy ⊢; omega)
    have fg1 : ∀ y : Nat, y < 56 → gM L1 qa qb qc y = gM (mL M) qa qb qc y := fun y hy => frM_g fr1 (by simp; omega)
    have g6 : gd (sD σ) (gM L1 qa qb qc 60) := by rw [v1]; have := g1; rw [show gM (mL (sI M mo 0 (e_9 σ r))) qa qb qc (Int.toNat 55) = geT (sD σ) from (kG q0.1).2, c1x] at this; exact this
    have ra := gd_r (by omega) g6
    have rb := gd_r (d := sD σ) (L := L1) (i := (6 + 3 * r).toNat) (by omega) (by rw [fg1 _ (by omega)]; exact g2)
    refine q_aload_n G 2 0 dX5_verify_66 rfl rfl ?_
    refine q_bipush G dX5_verify_67 (by decide +kernel) ?_
    refine q_iload_n G 0 2 dX5_verify_69 rfl rfl ?_
    refine q_callV (As := [.int (qI (60)), .int (qI (6 + (3 * r)))]) (rest := []) G dX5_verify_70 cw_X5_135 (c_X5_same l D cy (wL (sI M mo 0 (e_9 σ r)) L1) mo qa qb qc qf qt hMO 60 (6 + 3 * r) (by decide) (by omega) ra.1 ra.2.1 ra.2.2 rb.1 rb.2.1 rb.2.2) hF.1 hF.2 (by decide) rfl rfl rfl (Nat.le_of_ble_eq_true rfl) rfl rfl ⟨Nat.le_of_ble_eq_true rfl, Nat.le_of_ble_eq_true rfl⟩ ⟨by decide, by decide⟩ (fun v9 M9 hq9 => ?_)
    obtain ⟨rfl, e9⟩ := hq9
    refine q_mem e9 ?_
    refine q_st (st2 := [.int (qI (if L1 qa 60 = L1 qa (6 + 3 * r).toNat ∧ L1 qb 60 = L1 qb (6 + 3 * r).toNat ∧ L1 qc 60 = L1 qc (6 + 3 * r).toNat then 1 else 0))]) rfl ?_
    have hq : (L1 qa 60 = L1 qa (6 + 3 * r).toNat ∧ L1 qb 60 = L1 qb (6 + 3 * r).toNat ∧ L1 qc 60 = L1 qc (6 + 3 * r).toNat) ↔ powT (unT (sD σ)) (geT (sD σ)) (sC σ (3 * r + 1).toNat) = sF σ (6 + 3 * r).toNat := by rw [gM_iff, v1, fg1 _ (by omega), kF _ (by omega)]
    refine q_if_eq (tgt := 112) G dX5_verify_73 (by decide) (by first | assumption | omega) (fun c2 => ?_) (fun c2 => ?_)
    · refine q_iconst G dX5_verify_112 ?_
      exact q_zret G dX5_verify_113 hret (by decide +kernel) (by omega) (by omega) (⟨up2 (mI M) mo 0 (e_9 σ r), L1, rfl, frR_L (M := M) (frR_I (frR_rf _ _ _ _ _ _ _ _) mo 0 _ (Or.inl rfl)) rfl (fr1), up2_s _ _ _ _, RM_G (M := M) (RM_0 hR _ u1 u2) n4 n5 n6 (fr1) (by intro y hy; simp at hy; omega), ⟨_, rfl, fun _ => (bI_0 (fun h9 => ite0 (by assumption) (hq.mpr h9.1))).symm⟩⟩)
    · refine q_aload_n G 2 0 dX5_verify_76 rfl rfl ?_
      refine q_iload_n G 0 2 dX5_verify_77 rfl rfl ?_
      refine q_iload_n G 0 2 dX5_verify_78 rfl rfl ?_
      refine q_iconst G dX5_verify_79 ?_
      refine q_iadd G dX5_verify_80 ?_
      refine q_iload_n G 0 2 dX5_verify_81 rfl rfl ?_
      refine q_iconst G dX5_verify_82 ?_
      refine q_iadd G dX5_verify_83 ?_
      refine q_aload_n G 2 0 dX5_verify_84 rfl rfl ?_
      refine q_gt (v := .ref qt) G dX5_verify_85 fl_X5_23 hF (by decide) rfl (congrArg va_rf r8) ?_
      refine q_iconst G dX5_verify_88 ?_
      refine q_iload_n G 1 1 dX5_verify_89 rfl rfl ?_
      refine q_imul G dX5_verify_90 ?_
      refine q_iaload G dX5_verify_91 a8.1 a8.2.1 (by first | assumption | omega) (show (3 * r) < ((mN M qt : Nat) : Int) by rw [a8.2.2]; omega) (show mN M qt < 2147483648 by rw [a8.2.2]; decide) ?_
      refine q_topI (z2 := mI M qt (Int.toNat (3 * r))) (by simp [mI, mL, mR, sL, sI, sR, wL, wD, stF, stM, up2, n1, n1.symm, n2, n2.symm, n3, n3.symm, u1, u1.symm, u2, u2.symm, u3, u3.symm]) ?_
      refine q_aload_n G 2 0 dX5_verify_92 rfl rfl ?_
      refine q_gt (v := .ref qt) G dX5_verify_93 fl_X5_23 hF (by decide) rfl (congrArg va_rf r8) ?_
      refine q_iconst G dX5_verify_96 ?_
      refine q_iload_n G 1 1 dX5_verify_97 rfl rfl ?_
      refine q_imul G dX5_verify_98 ?_
      refine q_iconst G dX5_verify_99 ?_
      refine q_iadd G dX5_verify_100 ?_
      refine q_iaload G dX5_verify_101 a8.1 a8.2.1 (by first | assumption | omega) (show ((3 * r) + 2) < ((mN M qt : Nat) : Int) by rw [a8.2.2]; omega) (show mN M qt < 2147483648 by rw [a8.2.2]; decide) ?_
      refine q_topI (z2 := mI M qt (Int.toNat ((3 * r) + 2))) (by simp [mI, mL, mR, sL, sI, sR, wL, wD, stF, stM, up2, n1, n1.symm, n2, n2.symm, n3, n3.symm, u1, u1.symm, u2, u2.symm, u3, u3.symm]) ?_
      refine q_callV (As := [.int (qI (6 + (3 * r))), .int (qI ((6 + (3 * r)) + 1)), .int (qI ((6 + (3 * r)) + 2)), .int (qI (mI M qt (Int.toNat (3 * r)))), .int (qI (mI M qt (Int.toNat ((3 * r) + 2))))]) (rest := []) G dX5_verify_102 cw_X5_139 (c_X5_holds l D cy (wL (sI M mo 0 (e_9 σ r)) L1) mo qa qb qc qf qt hMO (sD σ) hd (show gM L1 qa qb qc 54 = _ by rw [fg1 54 (by omega)]; exact (kG q0.1).1) (6 + 3 * r) (6 + 3 * r + 1) (6 + 3 * r + 2) (mI M qt (Int.toNat (3 * r))) (mI M qt (Int.toNat (3 * r + 2))) (by omega) (by omega) (by omega) (by have := f1; omega) (by have := f3; omega) (show gd (sD σ) (gM L1 qa qb qc (6 + 3 * r).toNat) by rw [fg1 _ (by omega)]; exact g2) (show gd (sD σ) (gM L1 qa qb qc (6 + 3 * r + 1).toNat) by rw [fg1 _ (by omega)]; exact g3) (show gd (sD σ) (gM L1 qa qb qc (6 + 3 * r + 2).toNat) by rw [fg1 _ (by omega)]; exact g4)) hF.1 hF.2 (by decide) rfl rfl rfl (Nat.le_of_ble_eq_true rfl) rfl rfl ⟨Nat.le_of_ble_eq_true rfl, Nat.le_of_ble_eq_true rfl⟩ ⟨by decide, by decide⟩ (fun v9 M9 hq9 => ?_)
      obtain ⟨z9, rfl, hz, L2, e9, fr2⟩ := hq9
      refine q_st (st2 := [.int (qI (z9))]) rfl ?_
      refine q_mem (M2 := wL (sI M mo 0 (e_9 σ r)) L2) e9 ?_
      replace fr2 : frM M L2 qa qb qc [58, 59, 56, 57, 60, 61] := frM_c fr1 fr2
      replace hz : (z9 = 1 ∧ hdT (sD σ) (sF σ (6 + 3 * r).toNat) (sF σ (6 + 3 * r + 1).toNat) (sF σ (6 + 3 * r + 2).toNat) (sC σ (3 * r).toNat) (sC σ (3 * r + 2).toNat)) ∨ (z9 = 0 ∧ ¬ hdT (sD σ) (sF σ (6 + 3 * r).toNat) (sF σ (6 + 3 * r + 1).toNat) (sF σ (6 + 3 * r + 2).toNat) (sC σ (3 * r).toNat) (sC σ (3 * r + 2).toNat)) := by rw [← kF _ (show (6 + 3 * r).toNat < 54 by omega), ← kF _ (show (6 + 3 * r + 1).toNat < 54 by omega), ← kF _ (show (6 + 3 * r + 2).toNat < 54 by omega), ← fg1 _ (show (6 + 3 * r).toNat < 56 by omega), ← fg1 _ (show (6 + 3 * r + 1).toNat < 56 by omega), ← fg1 _ (show (6 + 3 * r + 2).toNat < 56 by omega), ← c0, ← c2x]; exact hz
      refine q_if_eq (tgt := 112) G dX5_verify_105 (by decide) (by omega) (fun c3 => ?_) (fun c3 => ?_)
      · refine q_iconst G dX5_verify_112 ?_
        exact q_zret G dX5_verify_113 hret (by decide +kernel) (by omega) (by omega) (⟨up2 (mI M) mo 0 (e_9 σ r), L2, rfl, frR_L (M := M) (frR_I (frR_rf _ _ _ _ _ _ _ _) mo 0 _ (Or.inl rfl)) rfl (fr2), up2_s _ _ _ _, RM_G (M := M) (RM_0 hR _ u1 u2) n4 n5 n6 (fr2) (by intro y hy; simp at hy; omega), ⟨_, rfl, fun _ => (bI_0 (fun h9 => by rcases hz with h8 | h8; omega; exact h8.2 h9.2)).symm⟩⟩)
      · refine q_iconst G dX5_verify_108 ?_
        refine q_goto (tgt := 113) G dX5_verify_109 (by decide) ?_
        exact q_zret G dX5_verify_113 hret (by decide +kernel) (by omega) (by omega) (⟨up2 (mI M) mo 0 (e_9 σ r), L2, rfl, frR_L (M := M) (frR_I (frR_rf _ _ _ _ _ _ _ _) mo 0 _ (Or.inl rfl)) rfl (fr2), up2_s _ _ _ _, RM_G (M := M) (RM_0 hR _ u1 u2) n4 n5 n6 (fr2) (by intro y hy; simp at hy; omega), ⟨_, rfl, fun _ => (bI_1 ⟨hq.mp (ite1 (by assumption)), by rcases hz with h9 | h9; exact h9.2; omega⟩).symm⟩⟩)
  · refine q_iconst G dX5_verify_39 ?_
    exact q_zret G dX5_verify_40 hret (by decide +kernel) (by omega) (by omega) (⟨up2 (mI M) mo 0 (e_9 σ r), mL M, rfl, frR_I (frR_rf _ _ _ _ _ _ _ _) mo 0 _ (Or.inl rfl), up2_s _ _ _ _, RM_0 hR _ u1 u2, ⟨_, rfl, fun h9 => absurd h9 (by omega)⟩⟩)
set_option maxRecDepth 100000 in
set_option maxHeartbeats 4000000 in
theorem c_X5_verify (l : Launch) (D : va_G) (cy : Nat → ClassId) (M : qM) (mo qa qb qc qf qt : Nat) (hMO : qMO M mo qa qb qc qf qt) (σ : qS) (hR : RMd σ (mI M) (mL M) mo qa qb qc qf qt) (hW : WF σ) (r : Int) (hr : r32 r) : qCt l D cy yX5_verify cX5_verify 3 (some .boolean) { frames := 6, cells := 0, slots := 0, locals := 184 } 0 0 [.ref mo, .int (qI (r))] M (po5 M mo qa qb qc qf qt (σ) (e_9 σ r) (fun v => ∃ z, v = some (.int (qI z)) ∧ (e_9 σ r = 0 → z = a_9 σ r))) := by
  refine qCt_of (lv0 := [(0, .ref mo), (1, .int (qI (r)))]) (by decide) rfl (Nat.le_of_ble_eq_true rfl) ?_
  intro p e s m args below meth c G hname hret
  obtain ⟨hF, ⟨r2, r3, r4, r5, r8⟩, ⟨a2, a3, a4, a5, a8⟩, ⟨n1, n2, n3, n4, n5, n6⟩⟩ := id hMO
  obtain ⟨⟨k1, k6, k7, k9, k10, k11⟩, kF, kV, kC, kG⟩ := id hR
  obtain ⟨u1, u2, u3⟩ := qMO_ne hMO
  obtain ⟨w1, w2, w3⟩ := WF_n hW
  refine q_aload_n G 0 0 dX5_verify_0 rfl rfl ?_
  refine q_aload_n G 0 0 dX5_verify_1 rfl rfl ?_
  refine q_callV (As := []) (rest := [.ref mo]) G dX5_verify_2 cw_X5_101 (c_X5_isAny l D cy M mo qa qb qc qf qt hMO (by omega)) hF.1 hF.2 (by decide) rfl rfl rfl (Nat.le_of_ble_eq_true rfl) rfl rfl ⟨Nat.le_of_ble_eq_true rfl, Nat.le_of_ble_eq_true rfl⟩ ⟨by decide, by decide⟩ (fun v9 M9 hq9 => ?_)
  obtain ⟨rfl, e9⟩ := hq9
  refine q_mem e9 ?_
  refine q_st (st2 := [.int (qI (if 0 < mL M mo 1 then 1 else 0)), .ref mo]) rfl ?_
  refine q_if_ne (tgt := 12) G dX5_verify_5 (by decide) (by first | assumption | omega) (fun c1 => ?_) (fun c1 => ?_)
  · refine q_iload_n G 1 1 dX5_verify_12 rfl rfl ?_
    refine q_if_lt (tgt := 24) G dX5_verify_13 (by decide) (by first | assumption | omega) (fun c2 => ?_) (fun c2 => ?_)
    · refine q_iconst G dX5_verify_24 ?_
      refine q_goto (tgt := 29) G dX5_verify_25 (by decide) ?_
      refine q_topI (z2 := e_9 σ r) (by unfold e_9; omega) ?_
      refine q_lvs [1, 0] rfl ?_
      exact j_X5_verify l D cy M mo qa qb qc qf qt hMO σ hR hW r hr G hret
    · refine q_iload_n G 1 1 dX5_verify_16 rfl rfl ?_
      refine q_aload_n G 0 0 dX5_verify_17 rfl rfl ?_
      refine q_gt (v := .int (qI (mI M mo 7))) G dX5_verify_18 fl_X5_94 hF (by decide) rfl rfl ?_
      refine q_icmp_lt (tgt := 28) G dX5_verify_21 (by decide) (by first | assumption | omega) (by first | assumption | omega) (fun c3 => ?_) (fun c3 => ?_)
      · refine q_iconst G dX5_verify_28 ?_
        refine q_topI (z2 := e_9 σ r) (by unfold e_9; omega) ?_
        refine q_lvs [1, 0] rfl ?_
        exact j_X5_verify l D cy M mo qa qb qc qf qt hMO σ hR hW r hr G hret
      · refine q_iconst G dX5_verify_24 ?_
        refine q_goto (tgt := 29) G dX5_verify_25 (by decide) ?_
        refine q_topI (z2 := e_9 σ r) (by unfold e_9; omega) ?_
        refine q_lvs [1, 0] rfl ?_
        exact j_X5_verify l D cy M mo qa qb qc qf qt hMO σ hR hW r hr G hret
  · refine q_iconst G dX5_verify_8 ?_
    refine q_goto (tgt := 29) G dX5_verify_9 (by decide) ?_
    refine q_topI (z2 := e_9 σ r) (by unfold e_9; omega) ?_
    refine q_lvs [1, 0] rfl ?_
    exact j_X5_verify l D cy M mo qa qb qc qf qt hMO σ hR hW r hr G hret
set_option maxRecDepth 100000 in
set_option maxHeartbeats 4000000 in
theorem j_X5_test {p : Program} {e : Env} {s : State} {m : MethodId} {args : Array Value} {below : List Frame} {meth : Method} {c : Code} (l : Launch) (D : va_G) (cy : Nat → ClassId) (M : qM) (mo qa qb qc qf qt : Nat) (hMO : qMO M mo qa qb qc qf qt) (σ : qS) (hR : RMd σ (mI M) (mL M) mo qa qb qc qf qt) (hW : WF σ) (r : Int) (hr : r32 r) (G : qG p s m args meth c cX5_test 3 yX5_test.cls D cy (qA (mP M) s.heap.size)) (hret : meth.sig.returnType = (some .int)) : qK p l e { frames := 6, cells := 0, slots := 0, locals := 184 } s m args below meth c (MQ below (qQ D cy (mP M) (po5 M mo qa qb qc qf qt (σ) (e_15 σ r) (fun v => ∃ z, v = some (.int (qI z)) ∧ (e_15 σ r = 0 → z = a_15 σ r)))) args s 0 0 (qA (mP M) s.heap.size)) 3 D cy (qA (mP M) s.heap.size) 0 0 60 [(1, .int (qI (r))), (0, .ref mo)] [.int (qI (e_15 σ r)), .ref mo] (M) := by
  obtain ⟨hF, ⟨r2, r3, r4, r5, r8⟩, ⟨a2, a3, a4, a5, a8⟩, ⟨n1, n2, n3, n4, n5, n6⟩⟩ := id hMO
  obtain ⟨⟨k1, k6, k7, k9, k10, k11⟩, kF, kV, kC, kG⟩ := id hR
  obtain ⟨u1, u2, u3⟩ := qMO_ne hMO
  obtain ⟨w1, w2, w3⟩ := WF_n hW
  refine q_pI (z := e_15 σ r) G dX5_test_60 (pl_X5_27 _) nf_5_0 hF (by decide) (Nat.le_of_ble_eq_true rfl) (fs_5_0 _ _ _) ?_
  refine q_aload_n G 1 0 dX5_test_63 rfl rfl ?_
  refine q_gt (v := .int (qI (e_15 σ r))) G dX5_test_64 fl_X5_27 hF (by decide) rfl (by simp [mI, mL, mR, sL, sI, sR, wL, wD, stF, up2, n1, n1.symm, n2, n2.symm, n3, n3.symm, u1, u1.symm, u2, u2.symm, u3, u3.symm]) ?_
  refine q_if_le (tgt := 72) G dX5_test_67 (by decide) (by unfold e_15; omega) (fun c1 => ?_) (fun c1 => ?_)
  · have q0 : sD σ ≠ 0 ∧ isBk σ r ∧ sV σ 0 ≠ 0 ∧ sV σ 1 ≠ 0 ∧ sV σ 2 ≠ 0 := by unfold e_15 at c1; omega
    have he0 : e_15 σ r = 0 := by have : 0 ≤ e_15 σ r := (by unfold e_15; omega); omega
    have hd : dOk (sD σ) := by rcases hW.1 with h9 | h9; exact absurd h9 q0.1; exact h9
    have hd7 := hd.1
    have g5 : gd (sD σ) (gM (mL M) qa qb qc 0) := by rw [kF _ (by omega)]; exact hW.2.2.2.2.1 _ (Or.inl ⟨by omega, by have := hW.2.2.2.1 0 (by omega); omega⟩)
    have g6 : gd (sD σ) (gM (mL M) qa qb qc 1) := by rw [kF _ (by omega)]; exact hW.2.2.2.2.1 _ (Or.inl ⟨by omega, by have := hW.2.2.2.1 1 (by omega); omega⟩)
    have g7 : gd (sD σ) (gM (mL M) qa qb qc 2) := by rw [kF _ (by omega)]; exact hW.2.2.2.2.1 _ (Or.inl ⟨by omega, by have := hW.2.2.2.1 2 (by omega); omega⟩)
    have g2 : gd (sD σ) (gM (mL M) qa qb qc (6 + 3 * r).toNat) := by rw [kF _ (by omega)]; exact hW.2.2.2.2.1 _ (Or.inr (Or.inr ⟨by omega, by omega⟩))
    obtain ⟨f1, f2, f3⟩ := hW.2.2.2.2.2.1 r.toNat (by omega)
    rw [show 3 * r.toNat = (3 * r).toNat by omega] at f1
    rw [show 3 * r.toNat + 1 = (3 * r + 1).toNat by omega] at f2
    rw [show 3 * r.toNat + 2 = (3 * r + 2).toNat by omega] at f3
    have c0 := kC (3 * r).toNat (by omega)
    have c1x := kC (3 * r + 1).toNat (by omega)
    have c2x := kC (3 * r + 2).toNat (by omega)
    have ra := gd_r (by omega) g5
    have rb := gd_r (by omega) g2
    have rc := gd_r (by omega) g6
    have rd := gd_r (by omega) g7
    have y0 := kF 0 (by omega)
    have y1 := kF 1 (by omega)
    have y2 := kF 2 (by omega)
    refine q_aload_n G 1 0 dX5_test_72 rfl rfl ?_
    refine q_iconst G dX5_test_73 ?_
    refine q_bipush G dX5_test_74 (by decide +kernel) ?_
    refine q_iconst G dX5_test_76 ?_
    refine q_iload_n G 0 1 dX5_test_77 rfl rfl ?_
    refine q_imul G dX5_test_78 ?_
    refine q_iadd G dX5_test_79 ?_
    refine q_callV (As := [.int (qI (0)), .int (qI (6 + (3 * r)))]) (rest := []) G dX5_test_80 cw_X5_135 (c_X5_same l D cy (sI M mo 0 (e_15 σ r)) mo qa qb qc qf qt hMO 0 (6 + 3 * r) (by decide) (by omega) ra.1 ra.2.1 ra.2.2 rb.1 rb.2.1 rb.2.2) hF.1 hF.2 (by decide) rfl rfl rfl (Nat.le_of_ble_eq_true rfl) rfl rfl ⟨Nat.le_of_ble_eq_true rfl, Nat.le_of_ble_eq_true rfl⟩ ⟨by decide, by decide⟩ (fun v9 M9 hq9 => ?_)
    obtain ⟨rfl, e9⟩ := hq9
    refine q_mem e9 ?_
    refine q_st (st2 := [.int (qI (if mL M qa 0 = mL M qa (6 + 3 * r).toNat ∧ mL M qb 0 = mL M qb (6 + 3 * r).toNat ∧ mL M qc 0 = mL M qc (6 + 3 * r).toNat then 1 else 0))]) rfl ?_
    have hq : (mL M qa 0 = mL M qa (6 + 3 * r).toNat ∧ mL M qb 0 = mL M qb (6 + 3 * r).toNat ∧ mL M qc 0 = mL M qc (6 + 3 * r).toNat) ↔ sF σ 0 = sF σ (6 + 3 * r).toNat := by rw [gM_iff, y0, kF _ (by omega)]
    refine q_if_ne (tgt := 88) G dX5_test_83 (by decide) (by first | assumption | omega) (fun c2 => ?_) (fun c2 => ?_)
    · refine q_aload_n G 1 0 dX5_test_88 rfl rfl ?_
      refine q_iconst G dX5_test_89 ?_
      refine q_callV (As := [.int (qI (1))]) (rest := []) G dX5_test_90 cw_X5_39 (c_X5_isReduced l D cy (sI M mo 0 (e_15 σ r)) mo qa qb qc qf qt hMO 1 (by decide) rc.1 rc.2.1 rc.2.2) hF.1 hF.2 (by decide) rfl rfl rfl (Nat.le_of_ble_eq_true rfl) rfl rfl ⟨Nat.le_of_ble_eq_true rfl, Nat.le_of_ble_eq_true rfl⟩ ⟨by decide, by decide⟩ (fun v9 M9 hq9 => ?_)
      obtain ⟨rfl, e9⟩ := hq9
      refine q_mem e9 ?_
      refine q_st (st2 := [.int (qI (if isRd (mL M qa 1) (mL M qb 1) (mL M qc 1) then 1 else 0))]) rfl ?_
      have hr1 : isRd (mL M qa 1) (mL M qb 1) (mL M qc 1) ↔ rdT (sF σ 1) := by rw [← y1]; exact Iff.rfl
      refine q_if_eq (tgt := 104) G dX5_test_93 (by decide) (by first | assumption | omega) (fun c3 => ?_) (fun c3 => ?_)
      · refine q_iconst G dX5_test_104 ?_
        exact q_iret G dX5_test_105 hret (by omega) (by omega) (⟨up2 (mI M) mo 0 (e_15 σ r), mL M, rfl, frR_I (frR_rf _ _ _ _ _ _ _ _) mo 0 _ (Or.inl rfl), up2_s _ _ _ _, RM_0 hR _ u1 u2, ⟨_, rfl, fun _ => by unfold a_15; rw [if_neg (show ¬ bI (sF σ 0 = sF σ (6 + 3 * r).toNat) = 0 by rw [bI_1 (hq.mp (ite1 (by assumption)))]; decide), if_pos (bI_0 (fun h9 => by first | exact ite0 (by assumption) (hr2.mpr h9.2) | exact ite0 (by assumption) (hr1.mpr h9.1)))]⟩⟩)
      · refine q_aload_n G 1 0 dX5_test_96 rfl rfl ?_
        refine q_iconst G dX5_test_97 ?_
        refine q_callV (As := [.int (qI (2))]) (rest := []) G dX5_test_98 cw_X5_39 (c_X5_isReduced l D cy (sI M mo 0 (e_15 σ r)) mo qa qb qc qf qt hMO 2 (by decide) rd.1 rd.2.1 rd.2.2) hF.1 hF.2 (by decide) rfl rfl rfl (Nat.le_of_ble_eq_true rfl) rfl rfl ⟨Nat.le_of_ble_eq_true rfl, Nat.le_of_ble_eq_true rfl⟩ ⟨by decide, by decide⟩ (fun v9 M9 hq9 => ?_)
        obtain ⟨rfl, e9⟩ := hq9
        refine q_mem e9 ?_
        refine q_st (st2 := [.int (qI (if isRd (mL M qa 2) (mL M qb 2) (mL M qc 2) then 1 else 0))]) rfl ?_
        have hr2 : isRd (mL M qa 2) (mL M qb 2) (mL M qc 2) ↔ rdT (sF σ 2) := by rw [← y2]; exact Iff.rfl
        refine q_if_ne (tgt := 106) G dX5_test_101 (by decide) (by first | assumption | omega) (fun c4 => ?_) (fun c4 => ?_)
        · refine q_aload_n G 1 0 dX5_test_106 rfl rfl ?_
          refine q_gt (v := .ref qt) G dX5_test_107 fl_X5_23 hF (by decide) rfl (congrArg va_rf r8) ?_
          refine q_iconst G dX5_test_110 ?_
          refine q_iload_n G 0 1 dX5_test_111 rfl rfl ?_
          refine q_imul G dX5_test_112 ?_
          refine q_iaload G dX5_test_113 a8.1 a8.2.1 (by first | assumption | omega) (show (3 * r) < ((mN M qt : Nat) : Int) by rw [a8.2.2]; omega) (show mN M qt < 2147483648 by rw [a8.2.2]; decide) ?_
          refine q_topI (z2 := mI M qt (Int.toNat (3 * r))) (by simp [mI, mL, mR, sL, sI, sR, wL, wD, stF, stM, up2, n1, n1.symm, n2, n2.symm, n3, n3.symm, u1, u1.symm, u2, u2.symm, u3, u3.symm]) ?_
          refine q_istore_n (lv' := [(2, .int (qI (mI M qt (Int.toNat (3 * r))))), (1, .int (qI (r))), (0, .ref mo)]) G 2 dX5_test_114 rfl (by decide) rfl ?_
          refine q_aload_n G 2 0 dX5_test_115 rfl rfl ?_
          refine q_iconst G dX5_test_116 ?_
          refine q_iconst G dX5_test_117 ?_
          refine q_iconst G dX5_test_118 ?_
          refine q_iload_n G 0 2 dX5_test_119 rfl rfl ?_
          refine q_aload_n G 2 0 dX5_test_120 rfl rfl ?_
          refine q_iconst G dX5_test_121 ?_
          refine q_iconst G dX5_test_122 ?_
          refine q_iload_n G 0 2 dX5_test_123 rfl rfl ?_
          refine q_callV (As := [.int (qI (0)), .int (qI (1)), .int (qI (mI M qt (Int.toNat (3 * r))))]) (rest := [.int (qI (mI M qt (Int.toNat (3 * r)))), .int (qI (2)), .int (qI (1)), .int (qI (0)), .ref mo]) G dX5_test_124 cw_X5_120 (c_X5_primeOf l D cy (sI M mo 0 (e_15 σ r)) mo qa qb qc qf qt hMO 0 1 (mI M qt (Int.toNat (3 * r))) (by decide) (by decide)) hF.1 hF.2 (by decide) rfl rfl rfl (Nat.le_of_ble_eq_true rfl) rfl rfl ⟨Nat.le_of_ble_eq_true rfl, Nat.le_of_ble_eq_true rfl⟩ ⟨by decide, by decide⟩ (fun v9 M9 hq9 => ?_)
          obtain ⟨rfl, e9⟩ := hq9
          refine q_mem e9 ?_
          refine q_st (st2 := [.int (qI (prmT (gM (mL M) qa qb qc 0) (gM (mL M) qa qb qc 1) (mI M qt (Int.toNat (3 * r))))), .int (qI (mI M qt (Int.toNat (3 * r)))), .int (qI (2)), .int (qI (1)), .int (qI (0)), .ref mo]) rfl ?_
          have hpp := prmT_r (gM (mL M) qa qb qc 0) (gM (mL M) qa qb qc 1) (mI M qt (Int.toNat (3 * r)))
          refine q_callV (As := [.int (qI (0)), .int (qI (1)), .int (qI (2)), .int (qI (mI M qt (Int.toNat (3 * r)))), .int (qI (prmT (gM (mL M) qa qb qc 0) (gM (mL M) qa qb qc 1) (mI M qt (Int.toNat (3 * r)))))]) (rest := []) G dX5_test_127 cw_X5_139 (c_X5_holds l D cy (sI M mo 0 (e_15 σ r)) mo qa qb qc qf qt hMO (sD σ) hd (kG q0.1).1 0 1 2 (mI M qt (Int.toNat (3 * r))) (prmT (gM (mL M) qa qb qc 0) (gM (mL M) qa qb qc 1) (mI M qt (Int.toNat (3 * r)))) (by decide) (by decide) (by decide) (by have := f1; omega) (by omega) g5 g6 g7) hF.1 hF.2 (by decide) rfl rfl rfl (Nat.le_of_ble_eq_true rfl) rfl rfl ⟨Nat.le_of_ble_eq_true rfl, Nat.le_of_ble_eq_true rfl⟩ ⟨by decide, by decide⟩ (fun v9 M9 hq9 => ?_)
          obtain ⟨z9, rfl, hz, L2, e9, fr2⟩ := hq9
          refine q_st (st2 := [.int (qI (z9))]) rfl ?_
          refine q_mem (M2 := wL (sI M mo 0 (e_15 σ r)) L2) e9 ?_
          replace fr2 : frM M L2 qa qb qc [58, 59, 56, 57, 60, 61] := fr2
          replace hz : (z9 = 1 ∧ hdT (sD σ) (sF σ 0) (sF σ 1) (sF σ 2) (sC σ (3 * r).toNat) (prmT (sF σ 0) (sF σ 1) (sC σ (3 * r).toNat))) ∨ (z9 = 0 ∧ ¬ hdT (sD σ) (sF σ 0) (sF σ 1) (sF σ 2) (sC σ (3 * r).toNat) (prmT (sF σ 0) (sF σ 1) (sC σ (3 * r).toNat))) := by rw [← y0, ← y1, ← y2, ← c0]; exact hz
          have hz2 := bI_z hz
          refine q_if_eq (tgt := 137) G dX5_test_130 (by decide) (by omega) (fun c5 => ?_) (fun c5 => ?_)
          · refine q_iconst G dX5_test_137 ?_
            exact q_iret G dX5_test_138 hret (by omega) (by omega) (⟨up2 (mI M) mo 0 (e_15 σ r), L2, rfl, frR_L (M := M) (frR_I (frR_rf _ _ _ _ _ _ _ _) mo 0 _ (Or.inl rfl)) rfl (fr2), up2_s _ _ _ _, RM_G (M := M) (RM_0 hR _ u1 u2) n4 n5 n6 (fr2) (by intro y hy; simp at hy; omega), ⟨_, rfl, fun _ => by unfold a_15; rw [if_neg (show ¬ bI (sF σ 0 = sF σ (6 + 3 * r).toNat) = 0 by rw [bI_1 (hq.mp (ite1 (by assumption)))]; decide), if_neg (show ¬ bI (rdT (sF σ 1) ∧ rdT (sF σ 2)) = 0 by rw [bI_1 ⟨hr1.mp (ite1 (by assumption)), hr2.mp (ite1 (by assumption))⟩]; decide), ← hz2]; rw [if_neg (by omega)]⟩⟩)
          · refine q_iconst G dX5_test_133 ?_
            refine q_goto (tgt := 138) G dX5_test_134 (by decide) ?_
            exact q_iret G dX5_test_138 hret (by omega) (by omega) (⟨up2 (mI M) mo 0 (e_15 σ r), L2, rfl, frR_L (M := M) (frR_I (frR_rf _ _ _ _ _ _ _ _) mo 0 _ (Or.inl rfl)) rfl (fr2), up2_s _ _ _ _, RM_G (M := M) (RM_0 hR _ u1 u2) n4 n5 n6 (fr2) (by intro y hy; simp at hy; omega), ⟨_, rfl, fun _ => by unfold a_15; rw [if_neg (show ¬ bI (sF σ 0 = sF σ (6 + 3 * r).toNat) = 0 by rw [bI_1 (hq.mp (ite1 (by assumption)))]; decide), if_neg (show ¬ bI (rdT (sF σ 1) ∧ rdT (sF σ 2)) = 0 by rw [bI_1 ⟨hr1.mp (ite1 (by assumption)), hr2.mp (ite1 (by assumption))⟩]; decide), ← hz2]; rw [if_pos (by omega)]⟩⟩)
        · refine q_iconst G dX5_test_104 ?_
          exact q_iret G dX5_test_105 hret (by omega) (by omega) (⟨up2 (mI M) mo 0 (e_15 σ r), mL M, rfl, frR_I (frR_rf _ _ _ _ _ _ _ _) mo 0 _ (Or.inl rfl), up2_s _ _ _ _, RM_0 hR _ u1 u2, ⟨_, rfl, fun _ => by unfold a_15; rw [if_neg (show ¬ bI (sF σ 0 = sF σ (6 + 3 * r).toNat) = 0 by rw [bI_1 (hq.mp (ite1 (by assumption)))]; decide), if_pos (bI_0 (fun h9 => by first | exact ite0 (by assumption) (hr2.mpr h9.2) | exact ite0 (by assumption) (hr1.mpr h9.1)))]⟩⟩)
    · refine q_iconst G dX5_test_86 ?_
      exact q_iret G dX5_test_87 hret (by omega) (by omega) (⟨up2 (mI M) mo 0 (e_15 σ r), mL M, rfl, frR_I (frR_rf _ _ _ _ _ _ _ _) mo 0 _ (Or.inl rfl), up2_s _ _ _ _, RM_0 hR _ u1 u2, ⟨_, rfl, fun _ => by unfold a_15; rw [if_pos (show bI (sF σ 0 = sF σ (6 + 3 * r).toNat) = 0 from bI_0 (fun h9 => ite0 (by assumption) (hq.mpr h9)))]⟩⟩)
  · refine q_iconst G dX5_test_70 ?_
    exact q_iret G dX5_test_71 hret (by omega) (by omega) (⟨up2 (mI M) mo 0 (e_15 σ r), mL M, rfl, frR_I (frR_rf _ _ _ _ _ _ _ _) mo 0 _ (Or.inl rfl), up2_s _ _ _ _, RM_0 hR _ u1 u2, ⟨_, rfl, fun h9 => absurd h9 (by omega)⟩⟩)
set_option maxRecDepth 100000 in
set_option maxHeartbeats 4000000 in
theorem c_X5_test (l : Launch) (D : va_G) (cy : Nat → ClassId) (M : qM) (mo qa qb qc qf qt : Nat) (hMO : qMO M mo qa qb qc qf qt) (σ : qS) (hR : RMd σ (mI M) (mL M) mo qa qb qc qf qt) (hW : WF σ) (r : Int) (hr : r32 r) : qCt l D cy yX5_test cX5_test 3 (some .int) { frames := 6, cells := 0, slots := 0, locals := 184 } 0 0 [.ref mo, .int (qI (r))] M (po5 M mo qa qb qc qf qt (σ) (e_15 σ r) (fun v => ∃ z, v = some (.int (qI z)) ∧ (e_15 σ r = 0 → z = a_15 σ r))) := by
  refine qCt_of (lv0 := [(0, .ref mo), (1, .int (qI (r)))]) (by decide) rfl (Nat.le_of_ble_eq_true rfl) ?_
  intro p e s m args below meth c G hname hret
  obtain ⟨hF, ⟨r2, r3, r4, r5, r8⟩, ⟨a2, a3, a4, a5, a8⟩, ⟨n1, n2, n3, n4, n5, n6⟩⟩ := id hMO
  obtain ⟨⟨k1, k6, k7, k9, k10, k11⟩, kF, kV, kC, kG⟩ := id hR
  obtain ⟨u1, u2, u3⟩ := qMO_ne hMO
  obtain ⟨w1, w2, w3⟩ := WF_n hW
  refine q_aload_n G 0 0 dX5_test_0 rfl rfl ?_
  refine q_aload_n G 0 0 dX5_test_1 rfl rfl ?_
  refine q_callV (As := []) (rest := [.ref mo]) G dX5_test_2 cw_X5_101 (c_X5_isAny l D cy M mo qa qb qc qf qt hMO (by omega)) hF.1 hF.2 (by decide) rfl rfl rfl (Nat.le_of_ble_eq_true rfl) rfl rfl ⟨Nat.le_of_ble_eq_true rfl, Nat.le_of_ble_eq_true rfl⟩ ⟨by decide, by decide⟩ (fun v9 M9 hq9 => ?_)
  obtain ⟨rfl, e9⟩ := hq9
  refine q_mem e9 ?_
  refine q_st (st2 := [.int (qI (if 0 < mL M mo 1 then 1 else 0)), .ref mo]) rfl ?_
  refine q_if_ne (tgt := 12) G dX5_test_5 (by decide) (by first | assumption | omega) (fun c1 => ?_) (fun c1 => ?_)
  · refine q_iload_n G 1 1 dX5_test_12 rfl rfl ?_
    refine q_if_lt (tgt := 24) G dX5_test_13 (by decide) (by first | assumption | omega) (fun c2 => ?_) (fun c2 => ?_)
    · refine q_iconst G dX5_test_24 ?_
      refine q_goto (tgt := 60) G dX5_test_25 (by decide) ?_
      refine q_topI (z2 := e_15 σ r) (by unfold e_15; omega) ?_
      refine q_lvs [1, 0] rfl ?_
      exact j_X5_test l D cy M mo qa qb qc qf qt hMO σ hR hW r hr G hret
    · refine q_iload_n G 1 1 dX5_test_16 rfl rfl ?_
      refine q_aload_n G 0 0 dX5_test_17 rfl rfl ?_
      refine q_gt (v := .int (qI (mI M mo 7))) G dX5_test_18 fl_X5_94 hF (by decide) rfl rfl ?_
      refine q_icmp_lt (tgt := 28) G dX5_test_21 (by decide) (by first | assumption | omega) (by first | assumption | omega) (fun c3 => ?_) (fun c3 => ?_)
      · refine q_aload_n G 0 0 dX5_test_28 rfl rfl ?_
        refine q_gt (v := .ref qf) G dX5_test_29 fl_X5_19 hF (by decide) rfl (congrArg va_rf r5) ?_
        refine q_iconst G dX5_test_32 ?_
        refine q_baload G dX5_test_33 a5.1 a5.2.1 (by first | assumption | omega) (show (0) < ((mN M qf : Nat) : Int) by rw [a5.2.2]; omega) (show mN M qf < 2147483648 by rw [a5.2.2]; decide) ?_
        have kv0 : mI M qf (Int.toNat 0) = sV σ 0 := kV 0 (by omega)
        have wv0 := hW.2.2.2.1 0 (by omega)
        refine q_if_eq (tgt := 55) G dX5_test_34 (by decide) (by first | assumption | omega) (fun c4 => ?_) (fun c4 => ?_)
        · refine q_iconst G dX5_test_55 ?_
          refine q_goto (tgt := 60) G dX5_test_56 (by decide) ?_
          refine q_topI (z2 := e_15 σ r) (by unfold e_15; omega) ?_
          refine q_lvs [1, 0] rfl ?_
          exact j_X5_test l D cy M mo qa qb qc qf qt hMO σ hR hW r hr G hret
        · refine q_aload_n G 0 0 dX5_test_37 rfl rfl ?_
          refine q_gt (v := .ref qf) G dX5_test_38 fl_X5_19 hF (by decide) rfl (congrArg va_rf r5) ?_
          refine q_iconst G dX5_test_41 ?_
          refine q_baload G dX5_test_42 a5.1 a5.2.1 (by first | assumption | omega) (show (1) < ((mN M qf : Nat) : Int) by rw [a5.2.2]; omega) (show mN M qf < 2147483648 by rw [a5.2.2]; decide) ?_
          have kv1 : mI M qf (Int.toNat 1) = sV σ 1 := kV 1 (by omega)
          have wv1 := hW.2.2.2.1 1 (by omega)
          refine q_if_eq (tgt := 55) G dX5_test_43 (by decide) (by first | assumption | omega) (fun c5 => ?_) (fun c5 => ?_)
          · refine q_iconst G dX5_test_55 ?_
            refine q_goto (tgt := 60) G dX5_test_56 (by decide) ?_
            refine q_topI (z2 := e_15 σ r) (by unfold e_15; omega) ?_
            refine q_lvs [1, 0] rfl ?_
            exact j_X5_test l D cy M mo qa qb qc qf qt hMO σ hR hW r hr G hret
          · refine q_aload_n G 0 0 dX5_test_46 rfl rfl ?_
            refine q_gt (v := .ref qf) G dX5_test_47 fl_X5_19 hF (by decide) rfl (congrArg va_rf r5) ?_
            refine q_iconst G dX5_test_50 ?_
            refine q_baload G dX5_test_51 a5.1 a5.2.1 (by first | assumption | omega) (show (2) < ((mN M qf : Nat) : Int) by rw [a5.2.2]; omega) (show mN M qf < 2147483648 by rw [a5.2.2]; decide) ?_
            have kv2 : mI M qf (Int.toNat 2) = sV σ 2 := kV 2 (by omega)
            have wv2 := hW.2.2.2.1 2 (by omega)
            refine q_if_ne (tgt := 59) G dX5_test_52 (by decide) (by first | assumption | omega) (fun c6 => ?_) (fun c6 => ?_)
            · refine q_iconst G dX5_test_59 ?_
              refine q_topI (z2 := e_15 σ r) (by unfold e_15; omega) ?_
              refine q_lvs [1, 0] rfl ?_
              exact j_X5_test l D cy M mo qa qb qc qf qt hMO σ hR hW r hr G hret
            · refine q_iconst G dX5_test_55 ?_
              refine q_goto (tgt := 60) G dX5_test_56 (by decide) ?_
              refine q_topI (z2 := e_15 σ r) (by unfold e_15; omega) ?_
              refine q_lvs [1, 0] rfl ?_
              exact j_X5_test l D cy M mo qa qb qc qf qt hMO σ hR hW r hr G hret
      · refine q_iconst G dX5_test_24 ?_
        refine q_goto (tgt := 60) G dX5_test_25 (by decide) ?_
        refine q_topI (z2 := e_15 σ r) (by unfold e_15; omega) ?_
        refine q_lvs [1, 0] rfl ?_
        exact j_X5_test l D cy M mo qa qb qc qf qt hMO σ hR hW r hr G hret
  · refine q_iconst G dX5_test_8 ?_
    refine q_goto (tgt := 60) G dX5_test_9 (by decide) ?_
    refine q_topI (z2 := e_15 σ r) (by unfold e_15; omega) ?_
    refine q_lvs [1, 0] rfl ?_
    exact j_X5_test l D cy M mo qa qb qc qf qt hMO σ hR hW r hr G hret
