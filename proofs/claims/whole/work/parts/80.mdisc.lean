theorem RM_D {σ : qS} {I L L' : Nat → Nat → Int} {mo qa qb qc qf qt : Nat} (h : RMd σ I L mo qa qb qc qf qt) {n : Int} (h1 : L' mo 1 = n) (h2 : ∀ k, k < 54 → gM L' qa qb qc k = gM L qa qb qc k) (h3 : gM L' qa qb qc 54 = unT n) (h4 : gM L' qa qb qc 55 = geT n) : RMd (setD σ n) I L' mo qa qb qc qf qt :=
  ⟨⟨h1, h.1.2⟩, fun k hk => (h2 k hk).trans (h.2.1 k hk), h.2.2.1, h.2.2.2.1, fun _ => ⟨h3, h4⟩⟩
theorem div4 {n : Int} (h : 7 ≤ n) : (1 + n).tdiv 4 = (1 + n) / 4 := Int.tdiv_eq_ediv_of_nonneg (by omega)
theorem div8 {n : Int} (h : 7 ≤ n) : (1 + n).tdiv 8 = (1 + n) / 8 := Int.tdiv_eq_ediv_of_nonneg (by omega)
theorem up1_up1 {α : Type} (f : Nat → α) (a : Nat) (v w : α) : up1 (up1 f a v) a w = up1 f a w := by
  funext b; unfold up1; by_cases h : b = a
  · simp [h]
  · simp [h]
set_option maxRecDepth 100000 in
set_option maxHeartbeats 4000000 in
theorem j_X5_disc3 {p : Program} {e : Env} {s : State} {m : MethodId} {args : Array Value} {below : List Frame} {meth : Method} {c : Code} (l : Launch) (D : va_G) (cy : Nat → ClassId) (M : qM) (mo qa qb qc qf qt : Nat) (hMO : qMO M mo qa qb qc qf qt) (σ : qS) (hR : RMd σ (mI M) (mL M) mo qa qb qc qf qt) (hW : WF σ) (n : Int) (hn : r32 n) (q0 : 7 ≤ n ∧ n ≤ 1000000000 ∧ n % 8 = 7 ∧ sU σ ≠ 1) (he0 : e_0 σ n = 0) (hd : dOk n) (I : Nat → Nat → Int) (hf : frR (mI M) (mL M) I (mL M) mo qa qb qc qf qt) (h0 : I mo 0 = e_0 σ n) (hQ : RMd (setV (setV (setV (setB σ 0) 0 0) 1 0) 2 0) I (mL M) mo qa qb qc qf qt) (G : qG p s m args meth c cX5_discriminant 3 yX5_discriminant.cls D cy (qA (mP M) s.heap.size)) (hret : meth.sig.returnType = none) : qK p l e { frames := 2, cells := 0, slots := 0, locals := 52 } s m args below meth c (MQ below (qQ D cy (mP M) (po5 M mo qa qb qc qf qt (if e_0 σ n = 0 then n_0 σ n else σ) (e_0 σ n) (fun v => v = none))) args s 0 0 (qA (mP M) s.heap.size)) 3 D cy (qA (mP M) s.heap.size) 0 0 80 [(1, .int (qI (n))), (0, .ref mo)] [] (wI M I (up2 (mL M) mo 1 n)) := by
  obtain ⟨hF, ⟨r2, r3, r4, r5, r8⟩, ⟨a2, a3, a4, a5, a8⟩, ⟨n1, n2, n3, n4, n5, n6⟩⟩ := id hMO
  obtain ⟨u1, u2, u3⟩ := qMO_ne hMO
  refine q_aload_n G 1 0 dX5_discriminant_80 rfl rfl ?_
  refine q_bipush G dX5_discriminant_81 (by decide +kernel) ?_
  refine q_lconst (z := 1) G dX5_discriminant_83 (by decide +kernel) ?_
  refine q_lconst (z := 1) G dX5_discriminant_84 (by decide +kernel) ?_
  refine q_lconst (z := 1) G dX5_discriminant_85 (by decide +kernel) ?_
  refine q_aload_n G 1 0 dX5_discriminant_86 rfl rfl ?_
  refine q_gt (v := .long (qL (n))) G dX5_discriminant_87 fl_X5_90 hF (by decide) rfl (by simp [mI, mL, mR, sL, sI, sR, wL, wD, stF, up2, n1, n1.symm, n2, n2.symm, n3, n3.symm, u1, u1.symm, u2, u2.symm, u3, u3.symm, wI, stM, n4, n5, n6]) ?_
  refine q_ladd G dX5_discriminant_90 ?_
  refine q_ldc2 (z := 4) G dX5_discriminant_91 tw_631 (by decide +kernel) ?_
  refine q_ldiv G dX5_discriminant_94 (by first | assumption | omega) (by first | assumption | omega) (by first | assumption | omega) ?_
  refine q_callV (As := [.int (qI (54)), .long (qL (1)), .long (qL (1)), .long (qL ((1 + n).tdiv 4))]) (rest := []) G dX5_discriminant_95 cw_X5_35 (c_X5_set l D cy (wI M I (up2 (mL M) mo 1 n)) mo qa qb qc qf qt hMO 54 1 1 ((1 + n).tdiv 4) (by decide)) hF.1 hF.2 (by decide) rfl rfl rfl (Nat.le_of_ble_eq_true rfl) rfl rfl ⟨Nat.le_of_ble_eq_true rfl, Nat.le_of_ble_eq_true rfl⟩ ⟨by decide, by decide⟩ (fun v9 M9 hq9 => ?_)
  obtain ⟨rfl, e9⟩ := hq9
  refine q_mem e9 ?_
  refine q_st (st2 := []) rfl ?_
  refine q_mem (M2 := wI M I (stM (up2 (mL M) mo 1 n) qa qb qc 54 1 1 ((1 + n) / 4))) (by rw [div4 q0.1]; rfl) ?_
  refine q_aload_n G 1 0 dX5_discriminant_98 rfl rfl ?_
  refine q_bipush G dX5_discriminant_99 (by decide +kernel) ?_
  refine q_ldc2 (z := 2) G dX5_discriminant_101 tw_636 (by decide +kernel) ?_
  refine q_lconst (z := 1) G dX5_discriminant_104 (by decide +kernel) ?_
  refine q_lconst (z := 1) G dX5_discriminant_105 (by decide +kernel) ?_
  refine q_aload_n G 1 0 dX5_discriminant_106 rfl rfl ?_
  refine q_gt (v := .long (qL (n))) G dX5_discriminant_107 fl_X5_90 hF (by decide) rfl (by simp [mI, mL, mR, sL, sI, sR, wL, wD, stF, up2, n1, n1.symm, n2, n2.symm, n3, n3.symm, u1, u1.symm, u2, u2.symm, u3, u3.symm, wI, stM, n4, n5, n6]) ?_
  refine q_ladd G dX5_discriminant_110 ?_
  refine q_ldc2 (z := 8) G dX5_discriminant_111 tw_637 (by decide +kernel) ?_
  refine q_ldiv G dX5_discriminant_114 (by first | assumption | omega) (by first | assumption | omega) (by first | assumption | omega) ?_
  refine q_callV (As := [.int (qI (55)), .long (qL (2)), .long (qL (1)), .long (qL ((1 + n).tdiv 8))]) (rest := []) G dX5_discriminant_115 cw_X5_35 (c_X5_set l D cy (wI M I (stM (up2 (mL M) mo 1 n) qa qb qc 54 1 1 ((1 + n) / 4))) mo qa qb qc qf qt hMO 55 2 1 ((1 + n).tdiv 8) (by decide)) hF.1 hF.2 (by decide) rfl rfl rfl (Nat.le_of_ble_eq_true rfl) rfl rfl ⟨Nat.le_of_ble_eq_true rfl, Nat.le_of_ble_eq_true rfl⟩ ⟨by decide, by decide⟩ (fun v9 M9 hq9 => ?_)
  obtain ⟨rfl, e9⟩ := hq9
  refine q_mem e9 ?_
  refine q_st (st2 := []) rfl ?_
  refine q_mem (M2 := wI M I (stM (stM (up2 (mL M) mo 1 n) qa qb qc 54 1 1 ((1 + n) / 4)) qa qb qc 55 2 1 ((1 + n) / 8))) (by rw [div8 q0.1]; rfl) ?_
  refine q_aload_n G 1 0 dX5_discriminant_118 rfl rfl ?_
  refine q_bipush G dX5_discriminant_119 (by decide +kernel) ?_
  refine q_callV (As := [.int (qI (55))]) (rest := []) G dX5_discriminant_121 cw_X5_58 (c_X5_settle l D cy (wI M I (stM (stM (up2 (mL M) mo 1 n) qa qb qc 54 1 1 ((1 + n) / 4)) qa qb qc 55 2 1 ((1 + n) / 8))) mo qa qb qc qf qt hMO 55 (by decide) n (by omega) hd.2.1 (by show smI n (stM _ _ _ _ 55 _ _ _ qa 55) (stM _ _ _ _ 55 _ _ _ qb 55) (stM _ _ _ _ 55 _ _ _ qc 55) (stM _ _ _ _ 55 _ _ _ qa 55) (stM _ _ _ _ 55 _ _ _ qb 55) (stM _ _ _ _ 55 _ _ _ qc 55); rw [stM_a _ _ _ _ n1 n2, stM_b _ _ _ _ n3, stM_c]; exact gd_smI (by omega) (ge_gd hd))) hF.1 hF.2 (by decide) rfl rfl rfl (Nat.le_of_ble_eq_true rfl) rfl rfl ⟨Nat.le_of_ble_eq_true rfl, Nat.le_of_ble_eq_true rfl⟩ ⟨by decide, by decide⟩ (fun v9 M9 hq9 => ?_)
  obtain ⟨rfl, la, lb, lc, e9, rd1, ps1, eq1⟩ := hq9
  refine q_st (st2 := []) rfl ?_
  refine q_mem (M2 := wI M I (stM (stM (up2 (mL M) mo 1 n) qa qb qc 54 1 1 ((1 + n) / 4)) qa qb qc 55 la lb lc)) (e9.trans (by show wI M I (stM (stM (stM (up2 (mL M) mo 1 n) qa qb qc 54 1 1 ((1 + n) / 4)) qa qb qc 55 2 1 ((1 + n) / 8)) qa qb qc 55 la lb lc) = _; rw [stM_stM _ _ _ _ _ _ _ _ _ _ _ n1 n2 n3])) ?_
  replace eq1 : fEq (stM (stM (up2 (mL M) mo 1 n) qa qb qc 54 1 1 ((1 + n) / 4)) qa qb qc 55 2 1 ((1 + n) / 8) qa 55) (stM (stM (up2 (mL M) mo 1 n) qa qb qc 54 1 1 ((1 + n) / 4)) qa qb qc 55 2 1 ((1 + n) / 8) qb 55) (stM (stM (up2 (mL M) mo 1 n) qa qb qc 54 1 1 ((1 + n) / 4)) qa qb qc 55 2 1 ((1 + n) / 8) qc 55) la lb lc := eq1
  rw [stM_a _ _ _ _ n1 n2, stM_b _ _ _ _ n3, stM_c] at eq1
  have hrd : rdOf (2, 1, (1 + n) / 8) (la, lb, lc) := ⟨rd1, ps1, eq1⟩
  exact q_vret G dX5_discriminant_124 hret (by omega) (by omega) (⟨I, stM (stM (up2 (mL M) mo 1 n) qa qb qc 54 1 1 ((1 + n) / 4)) qa qb qc 55 la lb lc, rfl, ⟨hf.1, fun b h1 h2 h3 h4 => by funext x; rw [stM_n _ _ _ _ (fun h9 => h9.1.elim h2 (fun h8 => h8.elim h3 h4)), stM_n _ _ _ _ (fun h9 => h9.1.elim h2 (fun h8 => h8.elim h3 h4)), up2_a _ _ h1]⟩, h0, by rw [if_pos he0]; exact RM_D (n := n) hQ (by rw [stM_n _ _ _ _ (fun h9 => h9.1.elim n4 (fun h8 => h8.elim n5 n6)), stM_n _ _ _ _ (fun h9 => h9.1.elim n4 (fun h8 => h8.elim n5 n6)), up2_s]) (fun k hk => by rw [gM_n _ _ _ _ (by omega), gM_n _ _ _ _ (by omega)]; unfold gM; rw [up2_a _ _ n4.symm, up2_a _ _ n5.symm, up2_a _ _ n6.symm]) (by rw [gM_n _ _ _ _ (by decide), gM_s _ _ _ _ n1 n2 n3]; rfl) (by rw [gM_s _ _ _ _ n1 n2 n3]; exact (redT_eq hrd).symm), rfl⟩)
set_option maxRecDepth 100000 in
set_option maxHeartbeats 4000000 in
theorem j_X5_discriminant {p : Program} {e : Env} {s : State} {m : MethodId} {args : Array Value} {below : List Frame} {meth : Method} {c : Code} (l : Launch) (D : va_G) (cy : Nat → ClassId) (M : qM) (mo qa qb qc qf qt : Nat) (hMO : qMO M mo qa qb qc qf qt) (σ : qS) (hR : RMd σ (mI M) (mL M) mo qa qb qc qf qt) (hW : WF σ) (n : Int) (hn : r32 n) (G : qG p s m args meth c cX5_discriminant 3 yX5_discriminant.cls D cy (qA (mP M) s.heap.size)) (hret : meth.sig.returnType = none) : qK p l e { frames := 2, cells := 0, slots := 0, locals := 52 } s m args below meth c (MQ below (qQ D cy (mP M) (po5 M mo qa qb qc qf qt (if e_0 σ n = 0 then n_0 σ n else σ) (e_0 σ n) (fun v => v = none))) args s 0 0 (qA (mP M) s.heap.size)) 3 D cy (qA (mP M) s.heap.size) 0 0 38 [(1, .int (qI (n))), (0, .ref mo)] [.int (qI (e_0 σ n)), .ref mo] (M) := by
  obtain ⟨hF, ⟨r2, r3, r4, r5, r8⟩, ⟨a2, a3, a4, a5, a8⟩, ⟨n1, n2, n3, n4, n5, n6⟩⟩ := id hMO
  obtain ⟨⟨k1, k6, k7, k9, k10, k11⟩, kF, kV, kC, kG⟩ := id hR
  obtain ⟨u1, u2, u3⟩ := qMO_ne hMO
  obtain ⟨w1, w2, w3⟩ := WF_n hW
  refine q_pI (z := e_0 σ n) G dX5_discriminant_38 (pl_X5_27 _) nf_5_0 hF (by decide) (Nat.le_of_ble_eq_true rfl) (fs_5_0 _ _ _) ?_
  refine q_aload_n G 1 0 dX5_discriminant_41 rfl rfl ?_
  refine q_gt (v := .int (qI (e_0 σ n))) G dX5_discriminant_42 fl_X5_27 hF (by decide) rfl (by simp [mI, mL, mR, sL, sI, sR, wL, wD, stF, up2, n1, n1.symm, n2, n2.symm, n3, n3.symm, u1, u1.symm, u2, u2.symm, u3, u3.symm]) ?_
  refine q_if_le (tgt := 49) G dX5_discriminant_45 (by decide) (by unfold e_0; omega) (fun c1 => ?_) (fun c1 => ?_)
  · have q0 : 7 ≤ n ∧ n ≤ 1000000000 ∧ n % 8 = 7 ∧ sU σ ≠ 1 := by unfold e_0 at c1; omega
    have he0 : e_0 σ n = 0 := by have : 0 ≤ e_0 σ n := (by unfold e_0; omega); omega
    have hd : dOk n := ⟨q0.1, q0.2.1, q0.2.2.1⟩
    refine q_aload_n G 1 0 dX5_discriminant_49 rfl rfl ?_
    refine q_iload_n G 0 1 dX5_discriminant_50 rfl rfl ?_
    refine q_i2l G dX5_discriminant_51 (by first | assumption | omega) ?_
    refine q_pL (z := n) G dX5_discriminant_52 (pl_X5_90 _) nf_5_1 hF (by decide) (Nat.le_of_ble_eq_true rfl) (fs_5_1 _ _ _) ?_
    refine q_aload_n G 1 0 dX5_discriminant_55 rfl rfl ?_
    refine q_iconst G dX5_discriminant_56 ?_
    refine q_pI (z := 0) G dX5_discriminant_57 (pl_X5_94 _) nf_5_7 hF (by decide) (Nat.le_of_ble_eq_true rfl) (fs_5_7 _ _ _) ?_
    refine q_iconst G dX5_discriminant_60 ?_
    refine q_istore_n (lv' := [(2, .int (qI (0))), (1, .int (qI (n))), (0, .ref mo)]) G 2 dX5_discriminant_61 rfl (by decide) rfl ?_
    refine q_iload_n G 0 2 dX5_discriminant_62 rfl rfl ?_
    refine q_iconst G dX5_discriminant_63 ?_
    refine q_icmp_ge (tgt := 80) G dX5_discriminant_64 (by decide) (by first | assumption | omega) (by first | assumption | omega) (fun c2 => ?_) (fun c2 => ?_)
    · exact absurd c2 (by omega)
    · refine q_aload_n G 2 0 dX5_discriminant_67 rfl rfl ?_
      refine q_gt (v := .ref qf) G dX5_discriminant_68 fl_X5_19 hF (by decide) rfl (congrArg va_rf r5) ?_
      refine q_iload_n G 0 2 dX5_discriminant_71 rfl rfl ?_
      refine q_iconst G dX5_discriminant_72 ?_
      refine q_bastore G dX5_discriminant_73 a5.1 a5.2.1 (by first | assumption | omega) (show (0) < ((mN M qf : Nat) : Int) by rw [a5.2.2]; omega) (show mN M qf < 2147483648 by rw [a5.2.2]; decide) (by decide +kernel) ?_
      refine q_iinc (lv' := [(2, .int (qI (0 + 1))), (1, .int (qI (n))), (0, .ref mo)]) G 0 dX5_discriminant_74 rfl (by decide) rfl ?_
      refine q_goto (tgt := 62) G dX5_discriminant_77 (by decide) ?_
      refine q_iload_n G 0 2 dX5_discriminant_62 rfl rfl ?_
      refine q_iconst G dX5_discriminant_63 ?_
      refine q_icmp_ge (tgt := 80) G dX5_discriminant_64 (by decide) (by first | assumption | omega) (by first | assumption | omega) (fun c3 => ?_) (fun c3 => ?_)
      · exact absurd c3 (by omega)
      · refine q_aload_n G 2 0 dX5_discriminant_67 rfl rfl ?_
        refine q_gt (v := .ref qf) G dX5_discriminant_68 fl_X5_19 hF (by decide) rfl (congrArg va_rf r5) ?_
        refine q_iload_n G 0 2 dX5_discriminant_71 rfl rfl ?_
        refine q_iconst G dX5_discriminant_72 ?_
        refine q_bastore G dX5_discriminant_73 a5.1 a5.2.1 (by first | assumption | omega) (show (0 + 1) < ((mN M qf : Nat) : Int) by rw [a5.2.2]; omega) (show mN M qf < 2147483648 by rw [a5.2.2]; decide) (by decide +kernel) ?_
        refine q_iinc (lv' := [(2, .int (qI ((0 + 1) + 1))), (1, .int (qI (n))), (0, .ref mo)]) G 0 dX5_discriminant_74 rfl (by decide) rfl ?_
        refine q_goto (tgt := 62) G dX5_discriminant_77 (by decide) ?_
        refine q_iload_n G 0 2 dX5_discriminant_62 rfl rfl ?_
        refine q_iconst G dX5_discriminant_63 ?_
        refine q_icmp_ge (tgt := 80) G dX5_discriminant_64 (by decide) (by first | assumption | omega) (by first | assumption | omega) (fun c4 => ?_) (fun c4 => ?_)
        · exact absurd c4 (by omega)
        · refine q_aload_n G 2 0 dX5_discriminant_67 rfl rfl ?_
          refine q_gt (v := .ref qf) G dX5_discriminant_68 fl_X5_19 hF (by decide) rfl (congrArg va_rf r5) ?_
          refine q_iload_n G 0 2 dX5_discriminant_71 rfl rfl ?_
          refine q_iconst G dX5_discriminant_72 ?_
          refine q_bastore G dX5_discriminant_73 a5.1 a5.2.1 (by first | assumption | omega) (show ((0 + 1) + 1) < ((mN M qf : Nat) : Int) by rw [a5.2.2]; omega) (show mN M qf < 2147483648 by rw [a5.2.2]; decide) (by decide +kernel) ?_
          refine q_iinc (lv' := [(2, .int (qI (((0 + 1) + 1) + 1))), (1, .int (qI (n))), (0, .ref mo)]) G 0 dX5_discriminant_74 rfl (by decide) rfl ?_
          refine q_goto (tgt := 62) G dX5_discriminant_77 (by decide) ?_
          refine q_iload_n G 0 2 dX5_discriminant_62 rfl rfl ?_
          refine q_iconst G dX5_discriminant_63 ?_
          refine q_icmp_ge (tgt := 80) G dX5_discriminant_64 (by decide) (by first | assumption | omega) (by first | assumption | omega) (fun c5 => ?_) (fun c5 => ?_)
          · refine q_lvs [1, 2] rfl ?_
            exact j_X5_disc3 l D cy M mo qa qb qc qf qt hMO σ hR hW n hn q0 he0 hd (up2 (up2 (up2 (up2 (up2 (mI M) mo 0 (e_0 σ n)) mo 7 0) qf 0 0) qf 1 0) qf 2 0) ⟨fun b h1 h2 h3 => by rw [up2_row _ _ h2, up2_row _ _ h2, up2_row _ _ h2, up2_row _ _ h1, up2_row _ _ h1], fun _ _ _ _ _ => rfl⟩ (by rw [up2_a _ _ u1, up2_a _ _ u1, up2_a _ _ u1, up2_k _ _ (by decide), up2_s]) (RM_V (RM_V (RM_V (RM_7 (RM_0 hR _ u1 u2) 0 u1 u2) 0 u1 u3 0) 0 u1 u3 1) 0 u1 u3 2) G hret
          · exact absurd c5 (by omega)
  · exact q_vret G dX5_discriminant_48 hret (by omega) (by omega) (⟨up2 (mI M) mo 0 (e_0 σ n), mL M, rfl, frR_I (frR_rf _ _ _ _ _ _ _ _) mo 0 _ (Or.inl rfl), up2_s _ _ _ _, (by rw [if_neg (by omega)]; exact RM_0 hR _ u1 u2), rfl⟩)
set_option maxRecDepth 100000 in
set_option maxHeartbeats 4000000 in
theorem c_X5_discriminant (l : Launch) (D : va_G) (cy : Nat → ClassId) (M : qM) (mo qa qb qc qf qt : Nat) (hMO : qMO M mo qa qb qc qf qt) (σ : qS) (hR : RMd σ (mI M) (mL M) mo qa qb qc qf qt) (hW : WF σ) (n : Int) (hn : r32 n) : qCt l D cy yX5_discriminant cX5_discriminant 3 none { frames := 2, cells := 0, slots := 0, locals := 52 } 0 0 [.ref mo, .int (qI (n))] M (po5 M mo qa qb qc qf qt (if e_0 σ n = 0 then n_0 σ n else σ) (e_0 σ n) (fun v => v = none)) := by
  refine qCt_of (lv0 := [(0, .ref mo), (1, .int (qI (n)))]) (by decide) rfl (Nat.le_of_ble_eq_true rfl) ?_
  intro p e s m args below meth c G hname hret
  obtain ⟨hF, ⟨r2, r3, r4, r5, r8⟩, ⟨a2, a3, a4, a5, a8⟩, ⟨n1, n2, n3, n4, n5, n6⟩⟩ := id hMO
  obtain ⟨⟨k1, k6, k7, k9, k10, k11⟩, kF, kV, kC, kG⟩ := id hR
  obtain ⟨u1, u2, u3⟩ := qMO_ne hMO
  obtain ⟨w1, w2, w3⟩ := WF_n hW
  refine q_aload_n G 0 0 dX5_discriminant_0 rfl rfl ?_
  refine q_iload_n G 1 1 dX5_discriminant_1 rfl rfl ?_
  refine q_bipush G dX5_discriminant_2 (by decide +kernel) ?_
  refine q_icmp_lt (tgt := 22) G dX5_discriminant_4 (by decide) (by first | assumption | omega) (by first | assumption | omega) (fun c1 => ?_) (fun c1 => ?_)
  · refine q_iconst G dX5_discriminant_22 ?_
    refine q_goto (tgt := 38) G dX5_discriminant_23 (by decide) ?_
    refine q_topI (z2 := e_0 σ n) (by unfold e_0; omega) ?_
    refine q_lvs [1, 0] rfl ?_
    exact j_X5_discriminant l D cy M mo qa qb qc qf qt hMO σ hR hW n hn G hret
  · refine q_iload_n G 1 1 dX5_discriminant_7 rfl rfl ?_
    refine q_ldc (z := 1000000000) G dX5_discriminant_8 tw_630 (by decide +kernel) ?_
    refine q_icmp_gt (tgt := 22) G dX5_discriminant_10 (by decide) (by first | assumption | omega) (by first | assumption | omega) (fun c2 => ?_) (fun c2 => ?_)
    · refine q_iconst G dX5_discriminant_22 ?_
      refine q_goto (tgt := 38) G dX5_discriminant_23 (by decide) ?_
      refine q_topI (z2 := e_0 σ n) (by unfold e_0; omega) ?_
      refine q_lvs [1, 0] rfl ?_
      exact j_X5_discriminant l D cy M mo qa qb qc qf qt hMO σ hR hW n hn G hret
    · refine q_iload_n G 1 1 dX5_discriminant_13 rfl rfl ?_
      refine q_bipush G dX5_discriminant_14 (by decide +kernel) ?_
      refine q_irem G dX5_discriminant_16 (by first | assumption | omega) (by first | assumption | omega) (by first | assumption | omega) ?_
      refine q_bipush G dX5_discriminant_17 (by decide +kernel) ?_
      refine q_st (st2 := [.int (qI 7), .int (qI (n % 8)), .ref mo]) (by rw [Int.tmod_eq_emod_of_nonneg (by omega)]) ?_
      refine q_icmp_eq (tgt := 26) G dX5_discriminant_19 (by decide) (by first | assumption | omega) (by first | assumption | omega) (fun c3 => ?_) (fun c3 => ?_)
      · refine q_aload_n G 0 0 dX5_discriminant_26 rfl rfl ?_
        refine q_gt (v := .int (qI (mI M mo 6))) G dX5_discriminant_27 fl_X5_86 hF (by decide) rfl rfl ?_
        refine q_if_eq (tgt := 37) G dX5_discriminant_30 (by decide) (by first | assumption | omega) (fun c4 => ?_) (fun c4 => ?_)
        · refine q_iconst G dX5_discriminant_37 ?_
          refine q_topI (z2 := e_0 σ n) (by unfold e_0; omega) ?_
          refine q_lvs [1, 0] rfl ?_
          exact j_X5_discriminant l D cy M mo qa qb qc qf qt hMO σ hR hW n hn G hret
        · refine q_iconst G dX5_discriminant_33 ?_
          refine q_goto (tgt := 38) G dX5_discriminant_34 (by decide) ?_
          refine q_topI (z2 := e_0 σ n) (by unfold e_0; omega) ?_
          refine q_lvs [1, 0] rfl ?_
          exact j_X5_discriminant l D cy M mo qa qb qc qf qt hMO σ hR hW n hn G hret
      · refine q_iconst G dX5_discriminant_22 ?_
        refine q_goto (tgt := 38) G dX5_discriminant_23 (by decide) ?_
        refine q_topI (z2 := e_0 σ n) (by unfold e_0; omega) ?_
        refine q_lvs [1, 0] rfl ?_
        exact j_X5_discriminant l D cy M mo qa qb qc qf qt hMO σ hR hW n hn G hret
