theorem put_rng {a b d : Int} (ha : 1 ≤ a) (ha2 : a ≤ 100000) (hb : -100000 ≤ b) (hb2 : b ≤ 100000) (hd : 0 ≤ d) (hd2 : d ≤ 1000000000) : 0 ≤ b * b + d ∧ b * b + d ≤ 11000000000 ∧ (b * b + d).tmod (4 * a) = (b * b + d) % (4 * a) ∧ (b * b + d).tdiv (4 * a) = (b * b + d) / (4 * a) ∧ 0 ≤ (b * b + d) / (4 * a) ∧ (b * b + d) / (4 * a) ≤ 11000000000 := by
  have h1 := sq_nn b
  have h2 := sq_le hb hb2
  have h3 : 0 ≤ b * b + d := by omega
  have h4 := Int.ediv_nonneg h3 (show (0 : Int) ≤ 4 * a by omega)
  have h5 := Int.ediv_le_self (4 * a) h3
  refine ⟨h3, by omega, Int.tmod_eq_emod_of_nonneg h3, Int.tdiv_eq_ediv_of_nonneg h3, h4, by omega⟩
set_option maxRecDepth 100000 in
set_option maxHeartbeats 4000000 in
theorem j_X5_put4 {p : Program} {e : Env} {s : State} {m : MethodId} {args : Array Value} {below : List Frame} {meth : Method} {c : Code} (l : Launch) (D : va_G) (cy : Nat → ClassId) (M : qM) (mo qa qb qc qf qt : Nat) (hMO : qMO M mo qa qb qc qf qt) (σ : qS) (hR : RMd σ (mI M) (mL M) mo qa qb qc qf qt) (hW : WF σ) (i a b : Int) (hi : r32 i) (ha : r32 a) (hb : r32 b) (G : qG p s m args meth c cX5_put 8 yX5_put.cls D cy (qA (mP M) s.heap.size)) (hret : meth.sig.returnType = none) : qK p l e { frames := 1, cells := 0, slots := 0, locals := 29 } s m args below meth c (MQ below (qQ D cy (mP M) (po5 M mo qa qb qc qf qt (if e_10 σ i a b = 0 then n_10 σ i a b else σ) (e_10 σ i a b) (fun v => v = none))) args s 0 0 (qA (mP M) s.heap.size)) 8 D cy (qA (mP M) s.heap.size) 0 0 124 [(5, .long (qL (b * b + mL M mo 1))), (3, .int (qI (b))), (2, .int (qI (a))), (1, .int (qI (i))), (0, .ref mo)] [.int (qI (e_10 σ i a b)), .ref mo] (M) := by
  obtain ⟨hF, ⟨r2, r3, r4, r5, r8⟩, ⟨a2, a3, a4, a5, a8⟩, ⟨n1, n2, n3, n4, n5, n6⟩⟩ := id hMO
  obtain ⟨⟨k1, k6, k7, k9, k10, k11⟩, kF, kV, kC, kG⟩ := id hR
  obtain ⟨u1, u2, u3⟩ := qMO_ne hMO
  obtain ⟨w1, w2, w3⟩ := WF_n hW
  refine q_pI (z := e_10 σ i a b) G dX5_put_124 (pl_X5_27 _) nf_5_0 hF (by decide) (Nat.le_of_ble_eq_true rfl) (fs_5_0 _ _ _) ?_
  refine q_aload_n G 4 0 dX5_put_127 rfl rfl ?_
  refine q_gt (v := .int (qI (e_10 σ i a b))) G dX5_put_128 fl_X5_27 hF (by decide) rfl (by simp [mI, mL, mR, sL, sI, sR, wL, wD, stF, up2, n1, n1.symm, n2, n2.symm, n3, n3.symm, u1, u1.symm, u2, u2.symm, u3, u3.symm]) ?_
  refine q_if_le (tgt := 135) G dX5_put_131 (by decide) (by unfold e_10; omega) (fun c1 => ?_) (fun c1 => ?_)
  · have q1 : sD σ ≠ 0 ∧ isSl i ∧ bI (okP (sD σ) a b) ≠ 0 := by unfold e_10 at c1; omega
    have he0 : e_10 σ i a b = 0 := by have : 0 ≤ e_10 σ i a b := (by unfold e_10; omega); omega
    have hok : okP (sD σ) a b := by rcases bI_or (okP (sD σ) a b) with h9 | h9; exact h9.2; exact absurd h9.1 q1.2.2
    have q0 : sD σ ≠ 0 ∧ isSl i ∧ (1 ≤ a ∧ a ≤ 100000 ∧ -100000 ≤ b ∧ b ≤ 100000) := ⟨q1.1, q1.2.1, hok.1⟩
    clear q1 hok
    have hpr := put_rng q0.2.2.1 q0.2.2.2.1 q0.2.2.2.2.1 q0.2.2.2.2.2 (show 0 ≤ mL M mo 1 by omega) (by omega)
    obtain ⟨p1, p2, p3, p4, p5, p6⟩ := hpr
    refine q_aload_n G 4 0 dX5_put_135 rfl rfl ?_
    refine q_iload_n G 3 1 dX5_put_136 rfl rfl ?_
    refine q_iload_n G 2 2 dX5_put_137 rfl rfl ?_
    refine q_i2l G dX5_put_138 (by first | assumption | omega) ?_
    refine q_iload_n G 1 3 dX5_put_139 rfl rfl ?_
    refine q_i2l G dX5_put_140 (by first | assumption | omega) ?_
    refine q_lload G 0 dX5_put_141 rfl ?_
    refine q_ldc2 (z := 4) G dX5_put_143 tw_631 (by decide +kernel) ?_
    refine q_iload_n G 2 2 dX5_put_146 rfl rfl ?_
    refine q_i2l G dX5_put_147 (by first | assumption | omega) ?_
    refine q_lmul G dX5_put_148 ?_
    refine q_ldiv G dX5_put_149 (by omega) (by omega) (by omega) ?_
    refine q_callV (As := [.int (qI (i)), .long (qL (a)), .long (qL (b)), .long (qL ((b * b + mL M mo 1).tdiv (4 * a)))]) (rest := []) G dX5_put_150 cw_X5_35 (c_X5_set l D cy (sI M mo 0 (e_10 σ i a b)) mo qa qb qc qf qt hMO i a b ((b * b + mL M mo 1).tdiv (4 * a)) (by omega)) hF.1 hF.2 (by decide) rfl rfl rfl (Nat.le_of_ble_eq_true rfl) rfl rfl ⟨Nat.le_of_ble_eq_true rfl, Nat.le_of_ble_eq_true rfl⟩ ⟨by decide, by decide⟩ (fun v9 M9 hq9 => ?_)
    obtain ⟨rfl, e9⟩ := hq9
    refine q_mem e9 ?_
    refine q_st (st2 := []) rfl ?_
    refine q_mem (M2 := wL (sI M mo 0 (e_10 σ i a b)) (stM (mL M) qa qb qc i.toNat a b ((b * b + mL M mo 1) / (4 * a)))) (by rw [p4]; rfl) ?_
    refine q_aload_n G 4 0 dX5_put_153 rfl rfl ?_
    refine q_gt (v := .ref qf) G dX5_put_154 fl_X5_19 hF (by decide) rfl (congrArg va_rf r5) ?_
    refine q_iload_n G 3 1 dX5_put_157 rfl rfl ?_
    refine q_iconst G dX5_put_158 ?_
    refine q_bastore G dX5_put_159 a5.1 a5.2.1 (by first | assumption | omega) (show (i) < ((mN M qf : Nat) : Int) by rw [a5.2.2]; omega) (show mN M qf < 2147483648 by rw [a5.2.2]; decide) (by decide +kernel) ?_
    exact q_vret G dX5_put_160 hret (by omega) (by omega) (⟨up2 (up2 (mI M) mo 0 (e_10 σ i a b)) qf (Int.toNat i) 1, stM (mL M) qa qb qc i.toNat a b ((b * b + mL M mo 1) / (4 * a)), rfl, frR_I (frR_L (M := M) (frR_I (frR_rf _ _ _ _ _ _ _ _) mo 0 _ (Or.inl rfl)) rfl (frM_st (S := [i.toNat]) (frM_rf M qa qb qc _) (by simp) _ _ _)) qf _ _ (Or.inr (Or.inl rfl)), by rw [up2_a _ _ u1, up2_s], by rw [if_pos he0]; exact RM_V (RM_F (M := M) (RM_0 hR _ u1 u2) n4 n5 n6 (frM_st (S := [i.toNat]) (frM_rf M qa qb qc _) (by simp) _ _ _) (by intro y hy; simp at hy; omega) (by omega) (by rw [gM_s _ _ _ _ n1 n2 n3, k1])) 1 u1 u3 _, rfl⟩)
  · exact q_vret G dX5_put_134 hret (by omega) (by omega) (⟨up2 (mI M) mo 0 (e_10 σ i a b), mL M, rfl, frR_I (frR_rf _ _ _ _ _ _ _ _) mo 0 _ (Or.inl rfl), up2_s _ _ _ _, (by rw [if_neg (by omega)]; exact RM_0 hR _ u1 u2), rfl⟩)
set_option maxRecDepth 100000 in
set_option maxHeartbeats 4000000 in
theorem j_X5_put3 {p : Program} {e : Env} {s : State} {m : MethodId} {args : Array Value} {below : List Frame} {meth : Method} {c : Code} (l : Launch) (D : va_G) (cy : Nat → ClassId) (M : qM) (mo qa qb qc qf qt : Nat) (hMO : qMO M mo qa qb qc qf qt) (σ : qS) (hR : RMd σ (mI M) (mL M) mo qa qb qc qf qt) (hW : WF σ) (i a b : Int) (hi : r32 i) (ha : r32 a) (hb : r32 b) (G : qG p s m args meth c cX5_put 8 yX5_put.cls D cy (qA (mP M) s.heap.size)) (hret : meth.sig.returnType = none) : qK p l e { frames := 1, cells := 0, slots := 0, locals := 29 } s m args below meth c (MQ below (qQ D cy (mP M) (po5 M mo qa qb qc qf qt (if e_10 σ i a b = 0 then n_10 σ i a b else σ) (e_10 σ i a b) (fun v => v = none))) args s 0 0 (qA (mP M) s.heap.size)) 8 D cy (qA (mP M) s.heap.size) 0 0 89 [(5, .long (qL (b * b + mL M mo 1))), (3, .int (qI (b))), (2, .int (qI (a))), (1, .int (qI (i))), (0, .ref mo)] [.int (qI (bI (okP (sD σ) a b)))] (M) := by
  obtain ⟨hF, ⟨r2, r3, r4, r5, r8⟩, ⟨a2, a3, a4, a5, a8⟩, ⟨n1, n2, n3, n4, n5, n6⟩⟩ := id hMO
  obtain ⟨⟨k1, k6, k7, k9, k10, k11⟩, kF, kV, kC, kG⟩ := id hR
  obtain ⟨u1, u2, u3⟩ := qMO_ne hMO
  obtain ⟨w1, w2, w3⟩ := WF_n hW
  have hbi : bI (okP (sD σ) a b) = 0 ∨ bI (okP (sD σ) a b) = 1 := by rcases bI_or (okP (sD σ) a b) with h9 | h9; exact Or.inr h9.1; exact Or.inl h9.1
  refine q_istore (lv' := [(7, .int (qI (bI (okP (sD σ) a b)))), (5, .long (qL (b * b + mL M mo 1))), (3, .int (qI (b))), (2, .int (qI (a))), (1, .int (qI (i))), (0, .ref mo)]) G dX5_put_89 (by decide) rfl ?_
  refine q_aload_n G 5 0 dX5_put_91 rfl rfl ?_
  refine q_aload_n G 5 0 dX5_put_92 rfl rfl ?_
  refine q_callV (As := []) (rest := [.ref mo]) G dX5_put_93 cw_X5_101 (c_X5_isAny l D cy M mo qa qb qc qf qt hMO (by omega)) hF.1 hF.2 (by decide) rfl rfl rfl (Nat.le_of_ble_eq_true rfl) rfl rfl ⟨Nat.le_of_ble_eq_true rfl, Nat.le_of_ble_eq_true rfl⟩ ⟨by decide, by decide⟩ (fun v9 M9 hq9 => ?_)
  obtain ⟨rfl, e9⟩ := hq9
  refine q_mem e9 ?_
  refine q_st (st2 := [.int (qI (if 0 < mL M mo 1 then 1 else 0)), .ref mo]) rfl ?_
  refine q_if_ne (tgt := 103) G dX5_put_96 (by decide) (by first | assumption | omega) (fun c1 => ?_) (fun c1 => ?_)
  · refine q_iload_n G 4 1 dX5_put_103 rfl rfl ?_
    refine q_callS (As := [.int (qI (i))]) (rest := [.ref mo]) G dX5_put_104 cw_X5_145 (c_X5_isPlace l D cy M (i) (by omega)) rfl rfl (Nat.le_of_ble_eq_true rfl) rfl rfl ⟨Nat.le_of_ble_eq_true rfl, Nat.le_of_ble_eq_true rfl⟩ ⟨by decide, by decide⟩ (fun v9 M9 hq9 => ?_)
    obtain ⟨rfl, e9⟩ := hq9
    refine q_mem e9 ?_
    refine q_st (st2 := [.int (qI (if 0 ≤ i ∧ i < 3 then 1 else 0)), .ref mo]) rfl ?_
    refine q_if_ne (tgt := 114) G dX5_put_107 (by decide) (by first | assumption | omega) (fun c2 => ?_) (fun c2 => ?_)
    · refine q_iload G 0 dX5_put_114 rfl ?_
      refine q_if_ne (tgt := 123) G dX5_put_116 (by decide) (by omega) (fun c3 => ?_) (fun c3 => ?_)
      · refine q_iconst G dX5_put_123 ?_
        refine q_topI (z2 := e_10 σ i a b) (by unfold e_10; omega) ?_
        refine q_lvs [1, 2, 3, 4, 5] rfl ?_
        exact j_X5_put4 l D cy M mo qa qb qc qf qt hMO σ hR hW i a b hi ha hb G hret
      · refine q_iconst G dX5_put_119 ?_
        refine q_goto (tgt := 124) G dX5_put_120 (by decide) ?_
        refine q_topI (z2 := e_10 σ i a b) (by unfold e_10; omega) ?_
        refine q_lvs [1, 2, 3, 4, 5] rfl ?_
        exact j_X5_put4 l D cy M mo qa qb qc qf qt hMO σ hR hW i a b hi ha hb G hret
    · refine q_iconst G dX5_put_110 ?_
      refine q_goto (tgt := 124) G dX5_put_111 (by decide) ?_
      refine q_topI (z2 := e_10 σ i a b) (by unfold e_10; omega) ?_
      refine q_lvs [1, 2, 3, 4, 5] rfl ?_
      exact j_X5_put4 l D cy M mo qa qb qc qf qt hMO σ hR hW i a b hi ha hb G hret
  · refine q_iconst G dX5_put_99 ?_
    refine q_goto (tgt := 124) G dX5_put_100 (by decide) ?_
    refine q_topI (z2 := e_10 σ i a b) (by unfold e_10; omega) ?_
    refine q_lvs [1, 2, 3, 4, 5] rfl ?_
    exact j_X5_put4 l D cy M mo qa qb qc qf qt hMO σ hR hW i a b hi ha hb G hret
set_option maxRecDepth 100000 in
set_option maxHeartbeats 4000000 in
theorem j_X5_put2 {p : Program} {e : Env} {s : State} {m : MethodId} {args : Array Value} {below : List Frame} {meth : Method} {c : Code} (l : Launch) (D : va_G) (cy : Nat → ClassId) (M : qM) (mo qa qb qc qf qt : Nat) (hMO : qMO M mo qa qb qc qf qt) (σ : qS) (hR : RMd σ (mI M) (mL M) mo qa qb qc qf qt) (hW : WF σ) (i a b : Int) (hi : r32 i) (ha : r32 a) (hb : r32 b) (w : Int) (hw : (w = 1 ∧ (1 ≤ a ∧ a ≤ 100000 ∧ -100000 ≤ b ∧ b ≤ 100000)) ∨ (w = 0 ∧ ¬ (1 ≤ a ∧ a ≤ 100000 ∧ -100000 ≤ b ∧ b ≤ 100000))) (G : qG p s m args meth c cX5_put 8 yX5_put.cls D cy (qA (mP M) s.heap.size)) (hret : meth.sig.returnType = none) : qK p l e { frames := 1, cells := 0, slots := 0, locals := 29 } s m args below meth c (MQ below (qQ D cy (mP M) (po5 M mo qa qb qc qf qt (if e_10 σ i a b = 0 then n_10 σ i a b else σ) (e_10 σ i a b) (fun v => v = none))) args s 0 0 (qA (mP M) s.heap.size)) 8 D cy (qA (mP M) s.heap.size) 0 0 27 [(3, .int (qI (b))), (2, .int (qI (a))), (1, .int (qI (i))), (0, .ref mo)] [.int (qI (w))] (M) := by
  obtain ⟨hF, ⟨r2, r3, r4, r5, r8⟩, ⟨a2, a3, a4, a5, a8⟩, ⟨n1, n2, n3, n4, n5, n6⟩⟩ := id hMO
  obtain ⟨⟨k1, k6, k7, k9, k10, k11⟩, kF, kV, kC, kG⟩ := id hR
  obtain ⟨u1, u2, u3⟩ := qMO_ne hMO
  obtain ⟨w1, w2, w3⟩ := WF_n hW
  refine q_istore (lv' := [(4, .int (qI (w))), (3, .int (qI (b))), (2, .int (qI (a))), (1, .int (qI (i))), (0, .ref mo)]) G dX5_put_27 (by decide) rfl ?_
  refine q_iload_n G 1 3 dX5_put_29 rfl rfl ?_
  refine q_i2l G dX5_put_30 (by first | assumption | omega) ?_
  refine q_iload_n G 1 3 dX5_put_31 rfl rfl ?_
  refine q_i2l G dX5_put_32 (by first | assumption | omega) ?_
  refine q_lmul G dX5_put_33 ?_
  refine q_aload_n G 4 0 dX5_put_34 rfl rfl ?_
  refine q_gt (v := .long (qL (mL M mo 1))) G dX5_put_35 fl_X5_90 hF (by decide) rfl rfl ?_
  refine q_ladd G dX5_put_38 ?_
  refine q_lstore (lv' := [(5, .long (qL ((b * b) + (mL M mo 1)))), (4, .int (qI (w))), (3, .int (qI (b))), (2, .int (qI (a))), (1, .int (qI (i))), (0, .ref mo)]) G dX5_put_39 (by decide) rfl ?_
  refine q_iload G 1 dX5_put_41 rfl ?_
  refine q_if_eq (tgt := 88) G dX5_put_43 (by decide) (by omega) (fun c1 => ?_) (fun c1 => ?_)
  · refine q_iconst G dX5_put_88 ?_
    refine q_topI (z2 := bI (okP (sD σ) a b)) ((bI_0 (fun h9 => by first | (rcases hw with h8 | h8; omega; exact h8.2 h9.1) | (have h8 := h9.2.1; rw [← k1, ← p3] at h8; omega) | (have h8 := h9.2.2; rw [← gcd_fPr, ← k1, ← p4] at h8; omega))).symm) ?_
    refine q_lvs [0, 2, 3, 4, 5] rfl ?_
    exact j_X5_put3 l D cy M mo qa qb qc qf qt hMO σ hR hW i a b hi ha hb G hret
  · have hq : 1 ≤ a ∧ a ≤ 100000 ∧ -100000 ≤ b ∧ b ≤ 100000 := by omega
    have hpr := put_rng hq.1 hq.2.1 hq.2.2.1 hq.2.2.2 (show 0 ≤ mL M mo 1 by omega) (by omega)
    obtain ⟨p1, p2, p3, p4, p5, p6⟩ := hpr
    have p7 := Int.emod_nonneg (b * b + mL M mo 1) (show 4 * a ≠ 0 by omega)
    have p8 := Int.emod_lt_of_pos (b * b + mL M mo 1) (show 0 < 4 * a by omega)
    refine q_lload G 0 dX5_put_46 rfl ?_
    refine q_ldc2 (z := 4) G dX5_put_48 tw_631 (by decide +kernel) ?_
    refine q_iload_n G 3 2 dX5_put_51 rfl rfl ?_
    refine q_i2l G dX5_put_52 (by first | assumption | omega) ?_
    refine q_lmul G dX5_put_53 ?_
    refine q_lrem G dX5_put_54 (by omega) (by omega) (by omega) ?_
    refine q_lconst (z := 0) G dX5_put_55 (by decide +kernel) ?_
    refine q_lcmp_ne (tgt := 88) G dX5_put_56 dX5_put_57 (by decide) (by omega) (by omega) (fun c2 => ?_) (fun c2 => ?_)
    · refine q_iconst G dX5_put_88 ?_
      refine q_topI (z2 := bI (okP (sD σ) a b)) ((bI_0 (fun h9 => by first | (rcases hw with h8 | h8; omega; exact h8.2 h9.1) | (have h8 := h9.2.1; rw [← k1, ← p3] at h8; omega) | (have h8 := h9.2.2; rw [← gcd_fPr, ← k1, ← p4] at h8; omega))).symm) ?_
      refine q_lvs [0, 2, 3, 4, 5] rfl ?_
      exact j_X5_put3 l D cy M mo qa qb qc qf qt hMO σ hR hW i a b hi ha hb G hret
    · refine q_iload_n G 3 2 dX5_put_60 rfl rfl ?_
      refine q_i2l G dX5_put_61 (by first | assumption | omega) ?_
      refine q_iload_n G 2 3 dX5_put_62 rfl rfl ?_
      refine q_i2l G dX5_put_63 (by first | assumption | omega) ?_
      refine q_callS (As := [.long (qL (a)), .long (qL (b))]) (rest := []) G dX5_put_64 cw_X5_48 (c_X5_divisor l D cy M a b (by omega) (by omega)) rfl rfl (Nat.le_of_ble_eq_true rfl) rfl rfl ⟨Nat.le_of_ble_eq_true rfl, Nat.le_of_ble_eq_true rfl⟩ ⟨by decide, by decide⟩ (fun v9 M9 hq9 => ?_)
      obtain ⟨rfl, e9⟩ := hq9
      refine q_mem e9 ?_
      refine q_st (st2 := [.long (qL ((Int.gcd a b : Int)))]) rfl ?_
      have hg1 := gcd_r (x := a) (y := b) (N := 100000) (by omega) (by omega) (by omega) (by omega)
      refine q_lload G 0 dX5_put_67 rfl ?_
      refine q_ldc2 (z := 4) G dX5_put_69 tw_631 (by decide +kernel) ?_
      refine q_iload_n G 3 2 dX5_put_72 rfl rfl ?_
      refine q_i2l G dX5_put_73 (by first | assumption | omega) ?_
      refine q_lmul G dX5_put_74 ?_
      refine q_ldiv G dX5_put_75 (by omega) (by omega) (by omega) ?_
      refine q_callS (As := [.long (qL ((Int.gcd a b : Int))), .long (qL (((b * b) + (mL M mo 1)).tdiv (4 * a)))]) (rest := []) G dX5_put_76 cw_X5_48 (c_X5_divisor l D cy M (Int.gcd a b : Int) ((b * b + mL M mo 1).tdiv (4 * a)) (by omega) (by omega)) rfl rfl (Nat.le_of_ble_eq_true rfl) rfl rfl ⟨Nat.le_of_ble_eq_true rfl, Nat.le_of_ble_eq_true rfl⟩ ⟨by decide, by decide⟩ (fun v9 M9 hq9 => ?_)
      obtain ⟨rfl, e9⟩ := hq9
      refine q_mem e9 ?_
      refine q_st (st2 := [.long (qL ((Int.gcd (Int.gcd a b : Int) ((b * b + mL M mo 1).tdiv (4 * a)) : Int)))]) rfl ?_
      have hg2 := gcd_r (x := (Int.gcd a b : Int)) (y := (b * b + mL M mo 1).tdiv (4 * a)) (N := 11000000000) (by omega) (by omega) (by omega) (by omega)
      refine q_lconst (z := 1) G dX5_put_79 (by decide +kernel) ?_
      refine q_lcmp_ne (tgt := 88) G dX5_put_80 dX5_put_81 (by decide) (by omega) (by omega) (fun c3 => ?_) (fun c3 => ?_)
      · refine q_iconst G dX5_put_88 ?_
        refine q_topI (z2 := bI (okP (sD σ) a b)) ((bI_0 (fun h9 => by first | (rcases hw with h8 | h8; omega; exact h8.2 h9.1) | (have h8 := h9.2.1; rw [← k1, ← p3] at h8; omega) | (have h8 := h9.2.2; rw [← gcd_fPr, ← k1, ← p4] at h8; omega))).symm) ?_
        refine q_lvs [0, 2, 3, 4, 5] rfl ?_
        exact j_X5_put3 l D cy M mo qa qb qc qf qt hMO σ hR hW i a b hi ha hb G hret
      · refine q_iconst G dX5_put_84 ?_
        refine q_goto (tgt := 89) G dX5_put_85 (by decide) ?_
        refine q_topI (z2 := bI (okP (sD σ) a b)) ((bI_1 ⟨hq, by rw [← k1, ← p3]; assumption, by rw [← gcd_fPr, ← k1, ← p4]; omega⟩).symm) ?_
        refine q_lvs [0, 2, 3, 4, 5] rfl ?_
        exact j_X5_put3 l D cy M mo qa qb qc qf qt hMO σ hR hW i a b hi ha hb G hret
set_option maxRecDepth 100000 in
set_option maxHeartbeats 4000000 in
theorem c_X5_put (l : Launch) (D : va_G) (cy : Nat → ClassId) (M : qM) (mo qa qb qc qf qt : Nat) (hMO : qMO M mo qa qb qc qf qt) (σ : qS) (hR : RMd σ (mI M) (mL M) mo qa qb qc qf qt) (hW : WF σ) (i a b : Int) (hi : r32 i) (ha : r32 a) (hb : r32 b) : qCt l D cy yX5_put cX5_put 8 none { frames := 1, cells := 0, slots := 0, locals := 29 } 0 0 [.ref mo, .int (qI (i)), .int (qI (a)), .int (qI (b))] M (po5 M mo qa qb qc qf qt (if e_10 σ i a b = 0 then n_10 σ i a b else σ) (e_10 σ i a b) (fun v => v = none)) := by
  refine qCt_of (lv0 := [(0, .ref mo), (1, .int (qI (i))), (2, .int (qI (a))), (3, .int (qI (b)))]) (by decide) rfl (Nat.le_of_ble_eq_true rfl) ?_
  intro p e s m args below meth c G hname hret
  obtain ⟨hF, ⟨r2, r3, r4, r5, r8⟩, ⟨a2, a3, a4, a5, a8⟩, ⟨n1, n2, n3, n4, n5, n6⟩⟩ := id hMO
  obtain ⟨⟨k1, k6, k7, k9, k10, k11⟩, kF, kV, kC, kG⟩ := id hR
  obtain ⟨u1, u2, u3⟩ := qMO_ne hMO
  obtain ⟨w1, w2, w3⟩ := WF_n hW
  refine q_iload_n G 2 2 dX5_put_0 rfl rfl ?_
  refine q_if_le (tgt := 26) G dX5_put_1 (by decide) (by first | assumption | omega) (fun c1 => ?_) (fun c1 => ?_)
  · refine q_iconst G dX5_put_26 ?_
    refine q_lvs [3, 2, 1, 0] rfl ?_
    exact j_X5_put2 l D cy M mo qa qb qc qf qt hMO σ hR hW i a b hi ha hb 0 (Or.inr ⟨rfl, by omega⟩) G hret
  · refine q_iload_n G 2 2 dX5_put_4 rfl rfl ?_
    refine q_ldc (z := 100000) G dX5_put_5 tw_759 (by decide +kernel) ?_
    refine q_icmp_gt (tgt := 26) G dX5_put_7 (by decide) (by first | assumption | omega) (by first | assumption | omega) (fun c2 => ?_) (fun c2 => ?_)
    · refine q_iconst G dX5_put_26 ?_
      refine q_lvs [3, 2, 1, 0] rfl ?_
      exact j_X5_put2 l D cy M mo qa qb qc qf qt hMO σ hR hW i a b hi ha hb 0 (Or.inr ⟨rfl, by omega⟩) G hret
    · refine q_iload_n G 3 3 dX5_put_10 rfl rfl ?_
      refine q_ldc (z := -100000) G dX5_put_11 tw_760 (by decide +kernel) ?_
      refine q_icmp_lt (tgt := 26) G dX5_put_13 (by decide) (by first | assumption | omega) (by first | assumption | omega) (fun c3 => ?_) (fun c3 => ?_)
      · refine q_iconst G dX5_put_26 ?_
        refine q_lvs [3, 2, 1, 0] rfl ?_
        exact j_X5_put2 l D cy M mo qa qb qc qf qt hMO σ hR hW i a b hi ha hb 0 (Or.inr ⟨rfl, by omega⟩) G hret
      · refine q_iload_n G 3 3 dX5_put_16 rfl rfl ?_
        refine q_ldc (z := 100000) G dX5_put_17 tw_759 (by decide +kernel) ?_
        refine q_icmp_gt (tgt := 26) G dX5_put_19 (by decide) (by first | assumption | omega) (by first | assumption | omega) (fun c4 => ?_) (fun c4 => ?_)
        · refine q_iconst G dX5_put_26 ?_
          refine q_lvs [3, 2, 1, 0] rfl ?_
          exact j_X5_put2 l D cy M mo qa qb qc qf qt hMO σ hR hW i a b hi ha hb 0 (Or.inr ⟨rfl, by omega⟩) G hret
        · refine q_iconst G dX5_put_22 ?_
          refine q_goto (tgt := 27) G dX5_put_23 (by decide) ?_
          refine q_lvs [3, 2, 1, 0] rfl ?_
          exact j_X5_put2 l D cy M mo qa qb qc qf qt hMO σ hR hW i a b hi ha hb 1 (Or.inl ⟨rfl, by omega⟩) G hret
