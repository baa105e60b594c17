def orJ (M : qM) (qa qb qc : Nat) (d : Int) (most t x : Int) (L : Nat → Nat → Int) (k : Nat) : Prop := (1 ≤ x ∧ x + k = most + 1) ∧ frM M L qa qb qc [58, 59, 60] ∧ gd d (gM L qa qb qc 60) ∧ ordN k x (mulT (gM L qa qb qc 60) (geT d)) (unT d) (geT d) = t
set_option maxRecDepth 100000 in
set_option maxHeartbeats 4000000 in
theorem l_order5 {p : Program} {e : Env} {s : State} {m : MethodId} {args : Array Value} {below : List Frame} {meth : Method} {c : Code} (l : Launch) (D : va_G) (cy : Nat → ClassId) (M : qM) (mo qa qb qc qf qt : Nat) (hMO : qMO M mo qa qb qc qf qt) (σ : qS) (hR : RMd σ (mI M) (mL M) mo qa qb qc qf qt) (hW : WF σ) (n : Int) (hn : r32 n) (q0 : sD σ ≠ 0 ∧ 1 ≤ n ∧ n ≤ 1000) (he0 : e_16 σ n = 0) (hd : dOk (sD σ)) (G : qG p s m args meth c cX5_order 3 yX5_order.cls D cy (qA (mP M) s.heap.size)) (hret : meth.sig.returnType = (some .int)) : ∀ (w9 : Nat) (x : Int) (L : Nat → Nat → Int) (k : Nat), (n + 1 - x).toNat < w9 → orJ M qa qb qc (sD σ) n (a_16 σ n) x L k → qK p l e { frames := 4, cells := 0, slots := 0, locals := 135 } s m args below meth c (MQ below (qQ D cy (mP M) (po5 M mo qa qb qc qf qt (σ) (e_16 σ n) (fun v => ∃ z, v = some (.int (qI z)) ∧ (e_16 σ n = 0 → z = a_16 σ n)))) args s 0 0 (qA (mP M) s.heap.size)) 3 D cy (qA (mP M) s.heap.size) 0 0 51 [(2, .int (qI (x))), (1, .int (qI (n))), (0, .ref mo)] [] (wL (sI M mo 0 (e_16 σ n)) L) := by
  intro w9
  induction w9 with
  | zero => intro x L k h9; exact absurd h9 (Nat.not_lt_zero _)
  | succ w9 ih =>
    intro x L k hm hI
    obtain ⟨hF, ⟨r2, r3, r4, r5, r8⟩, ⟨a2, a3, a4, a5, a8⟩, ⟨n1, n2, n3, n4, n5, n6⟩⟩ := id hMO
    obtain ⟨⟨k1, k6, k7, k9, k10, k11⟩, kF, kV, kC, kG⟩ := id hR
    obtain ⟨u1, u2, u3⟩ := qMO_ne hMO
    obtain ⟨w1, w2, w3⟩ := WF_n hW
    have hd7 := hd.1
    have hg := geT_gd hd
    have hu := unT_gd hd
    have y54 : gM L qa qb qc 54 = unT (sD σ) := by rw [frM_g hI.2.1 (by simp)]; exact (kG q0.1).1
    have y55 : gM L qa qb qc 55 = geT (sD σ) := by rw [frM_g hI.2.1 (by simp)]; exact (kG q0.1).2
    obtain ⟨i1, i2⟩ := hI.1
    refine q_iload_n G 0 2 dX5_order_51 rfl rfl ?_
    refine q_iload_n G 1 1 dX5_order_52 rfl rfl ?_
    refine q_icmp_gt (tgt := 85) G dX5_order_53 (by decide) (by omega) (by omega) (fun c1 => ?_) (fun c1 => ?_)
    · refine q_iconst G dX5_order_85 ?_
      exact q_iret G dX5_order_86 hret (by omega) (by omega) (⟨up2 (mI M) mo 0 (e_16 σ n), L, rfl, frR_L (M := M) (frR_I (frR_rf _ _ _ _ _ _ _ _) mo 0 _ (Or.inl rfl)) rfl (hI.2.1), up2_s _ _ _ _, RM_G (M := M) (RM_0 hR _ u1 u2) n4 n5 n6 (hI.2.1) (by intro y hy; simp at hy; omega), ⟨_, rfl, fun _ => by have h6 := hI.2.2.2; rw [show k = 0 by omega, ordN] at h6; exact h6⟩⟩)
    · refine q_aload_n G 2 0 dX5_order_56 rfl rfl ?_
      refine q_bipush G dX5_order_57 (by decide +kernel) ?_
      refine q_bipush G dX5_order_59 (by decide +kernel) ?_
      refine q_bipush G dX5_order_61 (by decide +kernel) ?_
      refine q_callV (As := [.int (qI (60)), .int (qI (55)), .int (qI (60))]) (rest := []) G dX5_order_63 cw_X5_69 (c_X5_times l D cy (wL (sI M mo 0 (e_16 σ n)) L) mo qa qb qc qf qt hMO (sD σ) hd 60 55 60 (by decide) (by decide) (by decide) (by decide) hI.2.2.1 (show gd (sD σ) (gM L qa qb qc 55) by rw [y55]; exact hg.1)) hF.1 hF.2 (by decide) rfl rfl rfl (Nat.le_of_ble_eq_true rfl) rfl rfl ⟨Nat.le_of_ble_eq_true rfl, Nat.le_of_ble_eq_true rfl⟩ ⟨by decide, by decide⟩ (fun v9 M9 hq9 => ?_)
      obtain ⟨rfl, L1, e9, fr1, v1, g1, d1⟩ := hq9
      refine q_st (st2 := []) rfl ?_
      refine q_mem (M2 := wL (sI M mo 0 (e_16 σ n)) L1) e9 ?_
      replace v1 : gM L1 qa qb qc 60 = mulT (gM L qa qb qc 60) (gM L qa qb qc 55) := v1
      rw [y55] at v1
      replace g1 : gd (sD σ) (gM L1 qa qb qc 60) := g1
      have fr2 : frM M L1 qa qb qc [58, 59, 60] := frM_c hI.2.1 fr1
      have z54 : gM L1 qa qb qc 54 = unT (sD σ) := by rw [frM_g fr2 (by simp)]; exact (kG q0.1).1
      have ra := gd_r (by omega) g1
      have rb := gd_r (d := sD σ) (L := L1) (i := 54) (by omega) (by rw [z54]; exact hu.1)
      refine q_aload_n G 2 0 dX5_order_66 rfl rfl ?_
      refine q_bipush G dX5_order_67 (by decide +kernel) ?_
      refine q_bipush G dX5_order_69 (by decide +kernel) ?_
      refine q_callV (As := [.int (qI (60)), .int (qI (54))]) (rest := []) G dX5_order_71 cw_X5_135 (c_X5_same l D cy (wL (sI M mo 0 (e_16 σ n)) L1) mo qa qb qc qf qt hMO 60 54 (by decide) (by decide) ra.1 ra.2.1 ra.2.2 rb.1 rb.2.1 rb.2.2) hF.1 hF.2 (by decide) rfl rfl rfl (Nat.le_of_ble_eq_true rfl) rfl rfl ⟨Nat.le_of_ble_eq_true rfl, Nat.le_of_ble_eq_true rfl⟩ ⟨by decide, by decide⟩ (fun v9 M9 hq9 => ?_)
      obtain ⟨rfl, e9⟩ := hq9
      refine q_mem e9 ?_
      refine q_st (st2 := [.int (qI (if L1 qa 60 = L1 qa 54 ∧ L1 qb 60 = L1 qb 54 ∧ L1 qc 60 = L1 qc 54 then 1 else 0))]) rfl ?_
      have hq : (L1 qa 60 = L1 qa 54 ∧ L1 qb 60 = L1 qb 54 ∧ L1 qc 60 = L1 qc 54) ↔ mulT (gM L qa qb qc 60) (geT (sD σ)) = unT (sD σ) := by rw [gM_iff, v1, z54]
      obtain ⟨j, rfl⟩ : ∃ j, k = j + 1 := ⟨k - 1, by omega⟩
      have h6 := hI.2.2.2
      rw [ordN] at h6
      refine q_if_eq (tgt := 79) G dX5_order_74 (by decide) (by omega) (fun c2 => ?_) (fun c2 => ?_)
      · refine q_iinc (lv' := [(2, .int (qI (x + 1))), (1, .int (qI (n))), (0, .ref mo)]) G 0 dX5_order_79 rfl (by decide) rfl ?_
        refine q_goto (tgt := 51) G dX5_order_82 (by decide) ?_
        refine q_lvs [0, 1, 2] rfl ?_
        have m1x : (n + 1 - (x + 1)).toNat < w9 ∧ 1 ≤ x + 1 ∧ x + 1 + (j : Int) = n + 1 := by clear hq ra rb h6 v1 z54 y54 y55 c2; omega
        exact ih (x + 1) L1 j m1x.1 ⟨m1x.2, fr2, g1, by rw [v1]; rw [if_neg (fun h9 => ite0 (by assumption) (hq.mpr h9))] at h6; exact h6⟩
      · refine q_iload_n G 0 2 dX5_order_77 rfl rfl ?_
        exact q_iret G dX5_order_78 hret (by omega) (by omega) (⟨up2 (mI M) mo 0 (e_16 σ n), L1, rfl, frR_L (M := M) (frR_I (frR_rf _ _ _ _ _ _ _ _) mo 0 _ (Or.inl rfl)) rfl (fr2), up2_s _ _ _ _, RM_G (M := M) (RM_0 hR _ u1 u2) n4 n5 n6 (fr2) (by intro y hy; simp at hy; omega), ⟨_, rfl, fun _ => by rw [if_pos (hq.mp (ite1 (by assumption)))] at h6; exact h6⟩⟩)
set_option maxRecDepth 100000 in
set_option maxHeartbeats 4000000 in
theorem j_X5_order {p : Program} {e : Env} {s : State} {m : MethodId} {args : Array Value} {below : List Frame} {meth : Method} {c : Code} (l : Launch) (D : va_G) (cy : Nat → ClassId) (M : qM) (mo qa qb qc qf qt : Nat) (hMO : qMO M mo qa qb qc qf qt) (σ : qS) (hR : RMd σ (mI M) (mL M) mo qa qb qc qf qt) (hW : WF σ) (n : Int) (hn : r32 n) (G : qG p s m args meth c cX5_order 3 yX5_order.cls D cy (qA (mP M) s.heap.size)) (hret : meth.sig.returnType = (some .int)) : qK p l e { frames := 4, cells := 0, slots := 0, locals := 135 } s m args below meth c (MQ below (qQ D cy (mP M) (po5 M mo qa qb qc qf qt (σ) (e_16 σ n) (fun v => ∃ z, v = some (.int (qI z)) ∧ (e_16 σ n = 0 → z = a_16 σ n)))) args s 0 0 (qA (mP M) s.heap.size)) 3 D cy (qA (mP M) s.heap.size) 0 0 29 [(1, .int (qI (n))), (0, .ref mo)] [.int (qI (e_16 σ n)), .ref mo] (M) := by
  obtain ⟨hF, ⟨r2, r3, r4, r5, r8⟩, ⟨a2, a3, a4, a5, a8⟩, ⟨n1, n2, n3, n4, n5, n6⟩⟩ := id hMO
  obtain ⟨⟨k1, k6, k7, k9, k10, k11⟩, kF, kV, kC, kG⟩ := id hR
  obtain ⟨u1, u2, u3⟩ := qMO_ne hMO
  obtain ⟨w1, w2, w3⟩ := WF_n hW
  refine q_pI (z := e_16 σ n) G dX5_order_29 (pl_X5_27 _) nf_5_0 hF (by decide) (Nat.le_of_ble_eq_true rfl) (fs_5_0 _ _ _) ?_
  refine q_aload_n G 1 0 dX5_order_32 rfl rfl ?_
  refine q_gt (v := .int (qI (e_16 σ n))) G dX5_order_33 fl_X5_27 hF (by decide) rfl (by simp [mI, mL, mR, sL, sI, sR, wL, wD, stF, up2, n1, n1.symm, n2, n2.symm, n3, n3.symm, u1, u1.symm, u2, u2.symm, u3, u3.symm]) ?_
  refine q_if_le (tgt := 41) G dX5_order_36 (by decide) (by unfold e_16; omega) (fun c1 => ?_) (fun c1 => ?_)
  · have q0 : sD σ ≠ 0 ∧ 1 ≤ n ∧ n ≤ 1000 := by unfold e_16 at c1; omega
    have he0 : e_16 σ n = 0 := by have : 0 ≤ e_16 σ n := (by unfold e_16; omega); omega
    have hd : dOk (sD σ) := by rcases hW.1 with h9 | h9; exact absurd h9 q0.1; exact h9
    have hd7 := hd.1
    refine q_aload_n G 1 0 dX5_order_41 rfl rfl ?_
    refine q_bipush G dX5_order_42 (by decide +kernel) ?_
    refine q_bipush G dX5_order_44 (by decide +kernel) ?_
    refine q_callV (As := [.int (qI (54)), .int (qI (60))]) (rest := []) G dX5_order_46 cw_X5_62 (c_X5_copy l D cy (sI M mo 0 (e_16 σ n)) mo qa qb qc qf qt hMO 54 60 (by decide) (by decide)) hF.1 hF.2 (by decide) rfl rfl rfl (Nat.le_of_ble_eq_true rfl) rfl rfl ⟨Nat.le_of_ble_eq_true rfl, Nat.le_of_ble_eq_true rfl⟩ ⟨by decide, by decide⟩ (fun v9 M9 hq9 => ?_)
    obtain ⟨rfl, e9⟩ := hq9
    refine q_mem e9 ?_
    refine q_st (st2 := []) rfl ?_
    refine q_mem (M2 := wL (sI M mo 0 (e_16 σ n)) (stM (mL M) qa qb qc 60 (mL M qa 54) (mL M qb 54) (mL M qc 54))) rfl ?_
    refine q_iconst G dX5_order_49 ?_
    refine q_istore_n (lv' := [(2, .int (qI (1))), (1, .int (qI (n))), (0, .ref mo)]) G 2 dX5_order_50 rfl (by decide) rfl ?_
    have hg6 : gM (stM (mL M) qa qb qc 60 (mL M qa 54) (mL M qb 54) (mL M qc 54)) qa qb qc 60 = unT (sD σ) := by rw [gM_s _ _ _ _ n1 n2 n3]; exact (kG q0.1).1
    refine q_lvs [0, 1, 2] rfl ?_
    exact l_order5 l D cy M mo qa qb qc qf qt hMO σ hR hW n hn q0 he0 hd G hret _ 1 (stM (mL M) qa qb qc 60 (mL M qa 54) (mL M qb 54) (mL M qc 54)) n.toNat (Nat.lt_succ_self _) ⟨by omega, frM_st (S := [58, 59, 60]) (frM_rf M qa qb qc _) (by simp) _ _ _, by rw [hg6]; exact (unT_gd hd).1, by rw [hg6, mulT_un hd (geT_gd hd).1 (geT_gd hd).2]; rfl⟩
  · refine q_iconst G dX5_order_39 ?_
    exact q_iret G dX5_order_40 hret (by omega) (by omega) (⟨up2 (mI M) mo 0 (e_16 σ n), mL M, rfl, frR_I (frR_rf _ _ _ _ _ _ _ _) mo 0 _ (Or.inl rfl), up2_s _ _ _ _, RM_0 hR _ u1 u2, ⟨_, rfl, fun h9 => absurd h9 (by omega)⟩⟩)
set_option maxRecDepth 100000 in
set_option maxHeartbeats 4000000 in
theorem c_X5_order (l : Launch) (D : va_G) (cy : Nat → ClassId) (M : qM) (mo qa qb qc qf qt : Nat) (hMO : qMO M mo qa qb qc qf qt) (σ : qS) (hR : RMd σ (mI M) (mL M) mo qa qb qc qf qt) (hW : WF σ) (n : Int) (hn : r32 n) : qCt l D cy yX5_order cX5_order 3 (some .int) { frames := 4, cells := 0, slots := 0, locals := 135 } 0 0 [.ref mo, .int (qI (n))] M (po5 M mo qa qb qc qf qt (σ) (e_16 σ n) (fun v => ∃ z, v = some (.int (qI z)) ∧ (e_16 σ n = 0 → z = a_16 σ n))) := by
  refine qCt_of (lv0 := [(0, .ref mo), (1, .int (qI (n)))]) (by decide) rfl (Nat.le_of_ble_eq_true rfl) ?_
  intro p e s m args below meth c G hname hret
  obtain ⟨hF, ⟨r2, r3, r4, r5, r8⟩, ⟨a2, a3, a4, a5, a8⟩, ⟨n1, n2, n3, n4, n5, n6⟩⟩ := id hMO
  obtain ⟨⟨k1, k6, k7, k9, k10, k11⟩, kF, kV, kC, kG⟩ := id hR
  obtain ⟨u1, u2, u3⟩ := qMO_ne hMO
  obtain ⟨w1, w2, w3⟩ := WF_n hW
  refine q_aload_n G 0 0 dX5_order_0 rfl rfl ?_
  refine q_aload_n G 0 0 dX5_order_1 rfl rfl ?_
  refine q_callV (As := []) (rest := [.ref mo]) G dX5_order_2 cw_X5_101 (c_X5_isAny l D cy M mo qa qb qc qf qt hMO (by omega)) hF.1 hF.2 (by decide) rfl rfl rfl (Nat.le_of_ble_eq_true rfl) rfl rfl ⟨Nat.le_of_ble_eq_true rfl, Nat.le_of_ble_eq_true rfl⟩ ⟨by decide, by decide⟩ (fun v9 M9 hq9 => ?_)
  obtain ⟨rfl, e9⟩ := hq9
  refine q_mem e9 ?_
  refine q_st (st2 := [.int (qI (if 0 < mL M mo 1 then 1 else 0)), .ref mo]) rfl ?_
  refine q_if_ne (tgt := 12) G dX5_order_5 (by decide) (by first | assumption | omega) (fun c1 => ?_) (fun c1 => ?_)
  · refine q_iload_n G 1 1 dX5_order_12 rfl rfl ?_
    refine q_iconst G dX5_order_13 ?_
    refine q_icmp_lt (tgt := 24) G dX5_order_14 (by decide) (by first | assumption | omega) (by first | assumption | omega) (fun c2 => ?_) (fun c2 => ?_)
    · refine q_iconst G dX5_order_24 ?_
      refine q_goto (tgt := 29) G dX5_order_25 (by decide) ?_
      refine q_topI (z2 := e_16 σ n) (by unfold e_16; omega) ?_
      refine q_lvs [1, 0] rfl ?_
      exact j_X5_order l D cy M mo qa qb qc qf qt hMO σ hR hW n hn G hret
    · refine q_iload_n G 1 1 dX5_order_17 rfl rfl ?_
      refine q_sipush G dX5_order_18 (by decide +kernel) ?_
      refine q_icmp_le (tgt := 28) G dX5_order_21 (by decide) (by first | assumption | omega) (by first | assumption | omega) (fun c3 => ?_) (fun c3 => ?_)
      · refine q_iconst G dX5_order_28 ?_
        refine q_topI (z2 := e_16 σ n) (by unfold e_16; omega) ?_
        refine q_lvs [1, 0] rfl ?_
        exact j_X5_order l D cy M mo qa qb qc qf qt hMO σ hR hW n hn G hret
      · refine q_iconst G dX5_order_24 ?_
        refine q_goto (tgt := 29) G dX5_order_25 (by decide) ?_
        refine q_topI (z2 := e_16 σ n) (by unfold e_16; omega) ?_
        refine q_lvs [1, 0] rfl ?_
        exact j_X5_order l D cy M mo qa qb qc qf qt hMO σ hR hW n hn G hret
  · refine q_iconst G dX5_order_8 ?_
    refine q_goto (tgt := 29) G dX5_order_9 (by decide) ?_
    refine q_topI (z2 := e_16 σ n) (by unfold e_16; omega) ?_
    refine q_lvs [1, 0] rfl ?_
    exact j_X5_order l D cy M mo qa qb qc qf qt hMO σ hR hW n hn G hret
