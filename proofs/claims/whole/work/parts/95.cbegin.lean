set_option maxRecDepth 100000 in
set_option maxHeartbeats 4000000 in
theorem c_X4_discriminant (l : Launch) (hl : l.stackTraces = false) (D : va_G) (cy : Nat → ClassId) (M : qM) (ad : Nat → Nat) (hC : CSt M ad) (σ : qS) (hY : CDy σ ad (mI M) (mL M) (mR M)) (hW : WF σ) (n : Int) (hn : r32 n) : qCx l D cy yX4_discriminant cX4_discriminant 3 none { frames := 6, cells := 1, slots := 6, locals := 90 } 1 6 [.ref (ad 0), .int (qI (n))] M (fun v M' => e_0 σ n = 0 ∧ poC M ad (n_0 σ n) (fun v => v = none) v M') (fun E => (E = sIA ∧ e_0 σ n = 1) ∨ (E = sIS ∧ e_0 σ n = 2)) := by
  refine qCx_of (lv0 := [(0, .ref (ad 0)), (1, .int (qI (n)))]) (by decide) rfl (Nat.le_of_ble_eq_true rfl) ?_
  intro p e s m args below meth c G ht hret
  obtain ⟨⟨y4, y5, y6⟩, yD, yV, yF, yB, yR, -⟩ := id hY
  obtain ⟨w1, w2, w3⟩ := WF_n hW
  have o0 := CS_x hC
  have o1 := CS_fo hC
  have a11 := CS_a1 hC
  have a12 := CS_a2 hC
  have a13 := CS_a3 hC
  obtain ⟨s0, s1, s2, s3⟩ := hC.2.2.2.1
  have z4 : mI M (ad 0) 4 = 0 ∨ mI M (ad 0) 4 = 1 := by omega
  rcases w3 with hU | hU
  · have r6 : mR M (ad 0) 6 = none := by rw [y6, if_neg (by omega)]
    refine q_iload_n G 1 1 dX4_discriminant_0 rfl rfl ?_
    refine q_bipush G dX4_discriminant_1 (by decide +kernel) ?_
    refine q_icmp_lt (tgt := 21) G dX4_discriminant_3 (by decide) (by first | assumption | omega) (by first | assumption | omega) (fun c1 => ?_) (fun c1 => ?_)
    · exact q_throw (P0 := []) G hl qt_47_49 (Or.inl (⟨rfl, by unfold e_0; omega⟩)) dX4_discriminant_21 dX4_discriminant_24 dX4_discriminant_25 dX4_discriminant_27 dX4_discriminant_30 ht (by decide) (by decide) (by decide) (by decide) (by omega) (by omega)
    · refine q_iload_n G 1 1 dX4_discriminant_6 rfl rfl ?_
      refine q_ldc (z := 1000000000) G dX4_discriminant_7 tw_186 (by decide +kernel) ?_
      refine q_icmp_gt (tgt := 21) G dX4_discriminant_9 (by decide) (by first | assumption | omega) (by first | assumption | omega) (fun c2 => ?_) (fun c2 => ?_)
      · exact q_throw (P0 := []) G hl qt_47_49 (Or.inl (⟨rfl, by unfold e_0; omega⟩)) dX4_discriminant_21 dX4_discriminant_24 dX4_discriminant_25 dX4_discriminant_27 dX4_discriminant_30 ht (by decide) (by decide) (by decide) (by decide) (by omega) (by omega)
      · refine q_iload_n G 1 1 dX4_discriminant_12 rfl rfl ?_
        refine q_bipush G dX4_discriminant_13 (by decide +kernel) ?_
        refine q_irem G dX4_discriminant_15 (by first | assumption | omega) (by first | assumption | omega) (by first | assumption | omega) ?_
        refine q_bipush G dX4_discriminant_16 (by decide +kernel) ?_
        refine q_st (st2 := [.int (qI 7), .int (qI (n % 8))]) (by rw [Int.tmod_eq_emod_of_nonneg (by omega)]) ?_
        refine q_icmp_eq (tgt := 31) G dX4_discriminant_18 (by decide) (by first | assumption | omega) (by first | assumption | omega) (fun c3 => ?_) (fun c3 => ?_)
        · refine q_aload_n G 0 0 dX4_discriminant_31 rfl rfl ?_
          refine q_gt (v := .null) G dX4_discriminant_32 fl_X4_42 o0 (by decide) rfl (congrArg va_rf r6) ?_
          refine q_ifnull (x := none) (tgt := 48) G dX4_discriminant_35 (by decide) (fun _ => ?_) (fun _ h9 => nomatch h9)
          have hd : dOk n := ⟨by omega, by omega, by omega⟩
          have hr7 : r32 (mI M (ad 1) 0) := by by_cases h9 : sD σ = 0; (have := hY.2.2.2.2.2.2 h9; omega); (have := (yD h9).1; omega)
          have hFO := CS_FO hC hr7
          have n13 := CS_ne hC (r := 0) (s := 13) (by decide) (by decide) (by decide)
          have n113 := CS_ne hC (r := 1) (s := 13) (by decide) (by decide) (by decide)
          have n10 := CS_ne hC (r := 1) (s := 0) (by decide) (by decide) (by decide)
          refine q_aload_n G 0 0 dX4_discriminant_48 rfl rfl ?_
          refine q_gt (v := .ref (ad 1)) G dX4_discriminant_49 fl_X4_10 o0 (by decide) rfl (congrArg va_rf s0) ?_
          refine q_iload_n G 1 1 dX4_discriminant_52 rfl rfl ?_
          refine q_callV (As := [.int (qI (n))]) (rest := []) G dX4_discriminant_53 cw_X4_59 (c_X2_choose l D cy M (ad 1) (ad 2) (ad 3) (ad 4) (ad 5) (ad 6) (ad 7) (ad 8) (ad 9) (ad 10) hFO n hd) o1.1 o1.2 (by decide) rfl rfl rfl (Nat.le_of_ble_eq_true rfl) rfl rfl ⟨Nat.le_of_ble_eq_true rfl, Nat.le_of_ble_eq_true rfl⟩ ⟨by decide, by decide⟩ (fun v9 M9 hq9 => ?_)
          obtain ⟨rfl, L1, e9, fr1, v1, v2, g1⟩ := hq9
          refine q_st (st2 := []) rfl ?_
          refine q_mem (M2 := wL (sI M (ad 1) 0 n) L1) e9 ?_
          have fa := frA_m (S := [2, 3]) fr1
          refine q_aload_n G 0 0 dX4_discriminant_56 rfl rfl ?_
          refine q_iconst G dX4_discriminant_57 ?_
          refine q_pI (z := 1) G dX4_discriminant_58 pl_X4_34t nf_4_4 o0 (by decide) (Nat.le_of_ble_eq_true rfl) (fs_4_4 _ _ _) ?_
          refine q_aload_n G 0 0 dX4_discriminant_61 rfl rfl ?_
          refine q_iconst G dX4_discriminant_62 ?_
          refine q_pI (z := 0) G dX4_discriminant_63 (pl_X4_38 _) nf_4_5 o0 (by decide) (Nat.le_of_ble_eq_true rfl) (fs_4_5 _ _ _) ?_
          refine q_iconst G dX4_discriminant_66 ?_
          refine q_istore_n (lv' := [(2, .int (qI (0))), (0, .ref (ad 0)), (1, .int (qI (n)))]) G 2 dX4_discriminant_67 rfl (by decide) rfl ?_
          refine q_iload_n G 0 2 dX4_discriminant_68 rfl rfl ?_
          refine q_iconst G dX4_discriminant_69 ?_
          refine q_icmp_ge (tgt := 86) G dX4_discriminant_70 (by decide) (by first | assumption | omega) (by first | assumption | omega) (fun c4 => ?_) (fun c4 => ?_)
          · exact absurd c4 (by omega)
          · refine q_aload_n G 1 0 dX4_discriminant_73 rfl rfl ?_
            refine q_gt (v := .ref (ad 13)) G dX4_discriminant_74 fl_X4_30 o0 (by decide) rfl (congrArg va_rf s3) ?_
            refine q_iload_n G 0 2 dX4_discriminant_77 rfl rfl ?_
            refine q_iconst G dX4_discriminant_78 ?_
            refine q_bastore G dX4_discriminant_79 a13.1 a13.2.1 (by first | assumption | omega) (show (0) < ((mN M (ad 13) : Nat) : Int) by rw [a13.2.2]; omega) (show mN M (ad 13) < 2147483648 by rw [a13.2.2]; decide) (by decide +kernel) ?_
            refine q_iinc (lv' := [(2, .int (qI (0 + 1))), (0, .ref (ad 0)), (1, .int (qI (n)))]) G 0 dX4_discriminant_80 rfl (by decide) rfl ?_
            refine q_goto (tgt := 68) G dX4_discriminant_83 (by decide) ?_
            refine q_iload_n G 0 2 dX4_discriminant_68 rfl rfl ?_
            refine q_iconst G dX4_discriminant_69 ?_
            refine q_icmp_ge (tgt := 86) G dX4_discriminant_70 (by decide) (by first | assumption | omega) (by first | assumption | omega) (fun c5 => ?_) (fun c5 => ?_)
            · exact absurd c5 (by omega)
            · refine q_aload_n G 1 0 dX4_discriminant_73 rfl rfl ?_
              refine q_gt (v := .ref (ad 13)) G dX4_discriminant_74 fl_X4_30 o0 (by decide) rfl (congrArg va_rf s3) ?_
              refine q_iload_n G 0 2 dX4_discriminant_77 rfl rfl ?_
              refine q_iconst G dX4_discriminant_78 ?_
              refine q_bastore G dX4_discriminant_79 a13.1 a13.2.1 (by first | assumption | omega) (show (0 + 1) < ((mN M (ad 13) : Nat) : Int) by rw [a13.2.2]; omega) (show mN M (ad 13) < 2147483648 by rw [a13.2.2]; decide) (by decide +kernel) ?_
              refine q_iinc (lv' := [(2, .int (qI ((0 + 1) + 1))), (0, .ref (ad 0)), (1, .int (qI (n)))]) G 0 dX4_discriminant_80 rfl (by decide) rfl ?_
              refine q_goto (tgt := 68) G dX4_discriminant_83 (by decide) ?_
              refine q_iload_n G 0 2 dX4_discriminant_68 rfl rfl ?_
              refine q_iconst G dX4_discriminant_69 ?_
              refine q_icmp_ge (tgt := 86) G dX4_discriminant_70 (by decide) (by first | assumption | omega) (by first | assumption | omega) (fun c6 => ?_) (fun c6 => ?_)
              · exact absurd c6 (by omega)
              · refine q_aload_n G 1 0 dX4_discriminant_73 rfl rfl ?_
                refine q_gt (v := .ref (ad 13)) G dX4_discriminant_74 fl_X4_30 o0 (by decide) rfl (congrArg va_rf s3) ?_
                refine q_iload_n G 0 2 dX4_discriminant_77 rfl rfl ?_
                refine q_iconst G dX4_discriminant_78 ?_
                refine q_bastore G dX4_discriminant_79 a13.1 a13.2.1 (by first | assumption | omega) (show ((0 + 1) + 1) < ((mN M (ad 13) : Nat) : Int) by rw [a13.2.2]; omega) (show mN M (ad 13) < 2147483648 by rw [a13.2.2]; decide) (by decide +kernel) ?_
                refine q_iinc (lv' := [(2, .int (qI (((0 + 1) + 1) + 1))), (0, .ref (ad 0)), (1, .int (qI (n)))]) G 0 dX4_discriminant_80 rfl (by decide) rfl ?_
                refine q_goto (tgt := 68) G dX4_discriminant_83 (by decide) ?_
                refine q_iload_n G 0 2 dX4_discriminant_68 rfl rfl ?_
                refine q_iconst G dX4_discriminant_69 ?_
                refine q_icmp_ge (tgt := 86) G dX4_discriminant_70 (by decide) (by first | assumption | omega) (by first | assumption | omega) (fun c7 => ?_) (fun c7 => ?_)
                · refine q_retX ?_
                  exact q_vret G dX4_discriminant_86 hret (by omega) (by omega) (⟨(by unfold e_0; omega), ⟨up2 (up2 (up2 (up2 (up2 (up2 (mI M) (ad 1) 0 n) (ad 0) 4 1) (ad 0) 5 0) (ad 13) 0 0) (ad 13) 1 0) (ad 13) 2 0, L1, mR M, rfl, fun b hb => ⟨by rw [up2_row _ _ (hb 13 (by decide)), up2_row _ _ (hb 13 (by decide)), up2_row _ _ (hb 13 (by decide)), up2_row _ _ (hb 0 (by decide)), up2_row _ _ (hb 0 (by decide)), up2_row _ _ (hb 1 (by decide))], frA_o fa (by intro s hs; simp at hs; omega) hb, rfl⟩, hC, CD_N (by omega) hY (by omega) (by rw [up2_a _ _ n13, up2_a _ _ n13, up2_a _ _ n13, up2_k _ _ (by decide), up2_s]) (by rw [up2_a _ _ n13, up2_a _ _ n13, up2_a _ _ n13, up2_s]) (by rw [up2_a _ _ n113, up2_a _ _ n113, up2_a _ _ n113, up2_a _ _ n10, up2_a _ _ n10, up2_s]) (fun j hj => by rcases (show j = 0 ∨ j = 1 ∨ j = 2 by omega) with rfl | rfl | rfl <;> simp [up2]) v1 v2, rfl⟩⟩)
                · exact absurd c7 (by omega)
        · exact q_throw (P0 := []) G hl qt_47_49 (Or.inl (⟨rfl, by unfold e_0; omega⟩)) dX4_discriminant_21 dX4_discriminant_24 dX4_discriminant_25 dX4_discriminant_27 dX4_discriminant_30 ht (by decide) (by decide) (by decide) (by decide) (by omega) (by omega)
  · have r6 : mR M (ad 0) 6 = some (ad (rnN σ)) := by rw [y6, if_pos hU]
    have hB6 := hW.2.1.2.2 hU
    have hrn : 14 ≤ rnN σ ∧ rnN σ < 30 := by unfold rnN; omega
    have oR := CS_rd hC hrn.1 hrn.2
    refine q_iload_n G 1 1 dX4_discriminant_0 rfl rfl ?_
    refine q_bipush G dX4_discriminant_1 (by decide +kernel) ?_
    refine q_icmp_lt (tgt := 21) G dX4_discriminant_3 (by decide) (by first | assumption | omega) (by first | assumption | omega) (fun c1 => ?_) (fun c1 => ?_)
    · exact q_throw (P0 := []) G hl qt_47_49 (Or.inl (⟨rfl, by unfold e_0; omega⟩)) dX4_discriminant_21 dX4_discriminant_24 dX4_discriminant_25 dX4_discriminant_27 dX4_discriminant_30 ht (by decide) (by decide) (by decide) (by decide) (by omega) (by omega)
    · refine q_iload_n G 1 1 dX4_discriminant_6 rfl rfl ?_
      refine q_ldc (z := 1000000000) G dX4_discriminant_7 tw_186 (by decide +kernel) ?_
      refine q_icmp_gt (tgt := 21) G dX4_discriminant_9 (by decide) (by first | assumption | omega) (by first | assumption | omega) (fun c2 => ?_) (fun c2 => ?_)
      · exact q_throw (P0 := []) G hl qt_47_49 (Or.inl (⟨rfl, by unfold e_0; omega⟩)) dX4_discriminant_21 dX4_discriminant_24 dX4_discriminant_25 dX4_discriminant_27 dX4_discriminant_30 ht (by decide) (by decide) (by decide) (by decide) (by omega) (by omega)
      · refine q_iload_n G 1 1 dX4_discriminant_12 rfl rfl ?_
        refine q_bipush G dX4_discriminant_13 (by decide +kernel) ?_
        refine q_irem G dX4_discriminant_15 (by first | assumption | omega) (by first | assumption | omega) (by first | assumption | omega) ?_
        refine q_bipush G dX4_discriminant_16 (by decide +kernel) ?_
        refine q_st (st2 := [.int (qI 7), .int (qI (n % 8))]) (by rw [Int.tmod_eq_emod_of_nonneg (by omega)]) ?_
        refine q_icmp_eq (tgt := 31) G dX4_discriminant_18 (by decide) (by first | assumption | omega) (by first | assumption | omega) (fun c3 => ?_) (fun c3 => ?_)
        · refine q_aload_n G 0 0 dX4_discriminant_31 rfl rfl ?_
          refine q_gt (v := .ref (ad (rnN σ))) G dX4_discriminant_32 fl_X4_42 o0 (by decide) rfl (congrArg va_rf r6) ?_
          refine q_ifnull (x := some (ad (rnN σ))) (tgt := 48) G dX4_discriminant_35 (by decide) (fun h9 => nomatch h9) (fun _ _ => ?_)
          exact q_throw (P0 := []) G hl qt_54_56 (Or.inr (⟨rfl, by unfold e_0; omega⟩)) dX4_discriminant_38 dX4_discriminant_41 dX4_discriminant_42 dX4_discriminant_44 dX4_discriminant_47 ht (by decide) (by decide) (by decide) (by decide) (by omega) (by omega)
        · exact q_throw (P0 := []) G hl qt_47_49 (Or.inl (⟨rfl, by unfold e_0; omega⟩)) dX4_discriminant_21 dX4_discriminant_24 dX4_discriminant_25 dX4_discriminant_27 dX4_discriminant_30 ht (by decide) (by decide) (by decide) (by decide) (by omega) (by omega)
set_option maxRecDepth 100000 in
set_option maxHeartbeats 4000000 in
theorem c_X4_nextExponent (l : Launch) (D : va_G) (cy : Nat → ClassId) (M : qM) (ad : Nat → Nat) (hC : CSt M ad) (σ : qS) (hb : 0 ≤ sB σ ∧ sB σ < 16) (hd : mI M (ad 1) 0 = sD σ) (h5 : mI M (ad 0) 5 = sB σ) (hy : 0 < sB σ → gT (mL M) (ad (30 + 3 * ((sB σ).toNat - 1) + 1)) = sF σ (3 * sB σ + 4).toNat) : qCt l D cy yX4_nextExponent cX4_nextExponent 2 (some .int) { frames := 2, cells := 0, slots := 0, locals := 43 } 0 0 [.ref (ad 0)] M (fun v M' => v = some (.int (qI (a_1 σ))) ∧ M' = M) := by
  refine qCt_of (lv0 := [(0, .ref (ad 0))]) (by decide) rfl (Nat.le_of_ble_eq_true rfl) ?_
  intro p e s m args below meth c G hname hret
  have hy2 := id hy
  have o0 := CS_x hC
  have o1 := CS_fo hC
  have a11 := CS_a1 hC
  obtain ⟨s0, s1, s2, s3⟩ := hC.2.2.2.1
  clear hy
  refine q_iconst G dX4_nextExponent_0 ?_
  refine q_aload_n G 0 0 dX4_nextExponent_1 rfl rfl ?_
  refine q_gt (v := .ref (ad 1)) G dX4_nextExponent_2 fl_X4_10 o0 (by decide) rfl (congrArg va_rf s0) ?_
  refine q_gt (v := .int (qI (mI M (ad 1) 0))) G dX4_nextExponent_5 fl_X4_207 o1 (by decide) rfl rfl ?_
  refine q_callS (As := [.int (qI (1)), .int (qI (mI M (ad 1) 0))]) (rest := []) G dX4_nextExponent_8 cw_X4_231 (c_X4_mixed l D cy M (1) (mI M (ad 1) 0)) rfl rfl (Nat.le_of_ble_eq_true rfl) rfl rfl ⟨Nat.le_of_ble_eq_true rfl, Nat.le_of_ble_eq_true rfl⟩ ⟨by decide, by decide⟩ (fun v9 M9 hq9 => ?_)
  obtain ⟨rfl, e9⟩ := hq9
  refine q_mem e9 ?_
  refine q_st (st2 := [.int (qI (mixN (1) (mI M (ad 1) 0)))]) rfl ?_
  refine q_istore_n (lv' := [(1, .int (qI (mixN (1) (mI M (ad 1) 0)))), (0, .ref (ad 0))]) G 1 dX4_nextExponent_11 rfl (by decide) rfl ?_
  refine q_iload_n G 0 1 dX4_nextExponent_12 rfl rfl ?_
  refine q_aload_n G 1 0 dX4_nextExponent_13 rfl rfl ?_
  refine q_gt (v := .int (qI (mI M (ad 0) 5))) G dX4_nextExponent_14 fl_X4_38 o0 (by decide) rfl rfl ?_
  refine q_callS (As := [.int (qI (mixN (1) (mI M (ad 1) 0))), .int (qI (mI M (ad 0) 5))]) (rest := []) G dX4_nextExponent_17 cw_X4_231 (c_X4_mixed l D cy M (mixN (1) (mI M (ad 1) 0)) (mI M (ad 0) 5)) rfl rfl (Nat.le_of_ble_eq_true rfl) rfl rfl ⟨Nat.le_of_ble_eq_true rfl, Nat.le_of_ble_eq_true rfl⟩ ⟨by decide, by decide⟩ (fun v9 M9 hq9 => ?_)
  obtain ⟨rfl, e9⟩ := hq9
  refine q_mem e9 ?_
  refine q_st (st2 := [.int (qI (mixN (mixN (1) (mI M (ad 1) 0)) (mI M (ad 0) 5)))]) rfl ?_
  refine q_istore_n (lv' := [(1, .int (qI (mixN (mixN (1) (mI M (ad 1) 0)) (mI M (ad 0) 5)))), (0, .ref (ad 0))]) G 1 dX4_nextExponent_20 rfl (by decide) rfl ?_
  refine q_aload_n G 1 0 dX4_nextExponent_21 rfl rfl ?_
  refine q_gt (v := .int (qI (mI M (ad 0) 5))) G dX4_nextExponent_22 fl_X4_38 o0 (by decide) rfl rfl ?_
  refine q_if_le (tgt := 47) G dX4_nextExponent_25 (by decide) (by first | assumption | omega) (fun c1 => ?_) (fun c1 => ?_)
  · refine q_iload_n G 0 1 dX4_nextExponent_47 rfl rfl ?_
    refine q_ldc (z := 65535) G dX4_nextExponent_48 tw_333 (by decide +kernel) ?_
    refine q_iand G dX4_nextExponent_50 ?_
    refine q_iconst G dX4_nextExponent_51 ?_
    refine q_iadd G dX4_nextExponent_52 ?_
    exact q_iret G dX4_nextExponent_53 hret (by omega) (by omega) (⟨by unfold a_1 h_1; rw [if_neg (by omega), hd, h5]; rw [Int.add_comm], rfl⟩)
  · refine q_iload_n G 0 1 dX4_nextExponent_28 rfl rfl ?_
    refine q_aload_n G 1 0 dX4_nextExponent_29 rfl rfl ?_
    refine q_gt (v := .ref (ad 11)) G dX4_nextExponent_30 fl_X4_18 o0 (by decide) rfl (congrArg va_rf s1) ?_
    refine q_aload_n G 1 0 dX4_nextExponent_33 rfl rfl ?_
    refine q_gt (v := .int (qI (mI M (ad 0) 5))) G dX4_nextExponent_34 fl_X4_38 o0 (by decide) rfl rfl ?_
    refine q_iconst G dX4_nextExponent_37 ?_
    refine q_isub G dX4_nextExponent_38 ?_
    refine q_aaloadR G dX4_nextExponent_39 a11.1 a11.2.1 (by first | assumption | omega) (show ((mI M (ad 0) 5) - 1) < ((mN M (ad 11) : Nat) : Int) by rw [a11.2.2]; omega) (show mN M (ad 11) < 2147483648 by rw [a11.2.2]; decide) ?_
    refine q_st (st2 := [.ref (ad (14 + (mI M (ad 0) 5 - 1).toNat)), .int (qI (mixN (mixN (1) (mI M (ad 1) 0)) (mI M (ad 0) 5)))]) (congrArg (fun z => va_rf z :: _) (hC.2.2.2.2.2.1 (mI M (ad 0) 5 - 1).toNat (by omega))) ?_
    refine q_gt (v := .ref (ad (30 + 3 * (14 + (mI M (ad 0) 5 - 1).toNat - 14) + 1))) G dX4_nextExponent_40 fl_X4_104 (CS_rd hC (show 14 ≤ 14 + (mI M (ad 0) 5 - 1).toNat by omega) (by omega)) (by decide) rfl (congrArg va_rf (CS_rr hC (show 14 ≤ 14 + (mI M (ad 0) 5 - 1).toNat by omega) (by omega) 1 (by decide))) ?_
    refine q_callS (As := [.int (qI (mixN (mixN (1) (mI M (ad 1) 0)) (mI M (ad 0) 5))), .ref (ad (30 + 3 * (14 + (mI M (ad 0) 5 - 1).toNat - 14) + 1))]) (rest := []) G dX4_nextExponent_43 cw_X4_234 (c_X4_mixedForm l D cy M (mixN (mixN (1) (mI M (ad 1) 0)) (mI M (ad 0) 5)) (ad (30 + 3 * (14 + (mI M (ad 0) 5 - 1).toNat - 14) + 1)) (CS_fm hC (show 30 ≤ 30 + 3 * (14 + (mI M (ad 0) 5 - 1).toNat - 14) + 1 by omega) (by omega))) rfl rfl (Nat.le_of_ble_eq_true rfl) rfl rfl ⟨Nat.le_of_ble_eq_true rfl, Nat.le_of_ble_eq_true rfl⟩ ⟨by decide, by decide⟩ (fun v9 M9 hq9 => ?_)
    obtain ⟨rfl, e9⟩ := hq9
    refine q_mem e9 ?_
    refine q_st (st2 := [.int (qI (mixF (mixN (mixN (1) (mI M (ad 1) 0)) (mI M (ad 0) 5)) (gT (mL M) (ad (30 + 3 * (14 + (mI M (ad 0) 5 - 1).toNat - 14) + 1)))))]) rfl ?_
    refine q_istore_n (lv' := [(1, .int (qI (mixF (mixN (mixN (1) (mI M (ad 1) 0)) (mI M (ad 0) 5)) (gT (mL M) (ad (30 + 3 * (14 + (mI M (ad 0) 5 - 1).toNat - 14) + 1)))))), (0, .ref (ad 0))]) G 1 dX4_nextExponent_46 rfl (by decide) rfl ?_
    refine q_iload_n G 0 1 dX4_nextExponent_47 rfl rfl ?_
    refine q_ldc (z := 65535) G dX4_nextExponent_48 tw_333 (by decide +kernel) ?_
    refine q_iand G dX4_nextExponent_50 ?_
    refine q_iconst G dX4_nextExponent_51 ?_
    refine q_iadd G dX4_nextExponent_52 ?_
    exact q_iret G dX4_nextExponent_53 hret (by omega) (by omega) (⟨by unfold a_1 h_1; rw [if_pos (by omega), hd, h5, show 14 + (sB σ - 1).toNat - 14 = (sB σ).toNat - 1 by omega, hy2 (by omega)]; rw [Int.add_comm], rfl⟩)
set_option maxRecDepth 100000 in
set_option maxHeartbeats 4000000 in
theorem j_X4_begin2 {p : Program} {e : Env} {s : State} {m : MethodId} {args : Array Value} {below : List Frame} {meth : Method} {c : Code} (l : Launch) (D : va_G) (cy : Nat → ClassId) (M : qM) (ad : Nat → Nat) (hC : CSt M ad) (σ : qS) (hY : CDy σ ad (mI M) (mL M) (mR M)) (hW : WF σ) (t : Int) (ht : 1 ≤ t ∧ t ≤ 500) (hD0 : sD σ ≠ 0) (hB6 : sB σ < 16) (he : e_1 σ t = 0) (I1 : Nat → Nat → Int) (hI : ∀ b, b ≠ ad (rnN σ) → I1 b = mI M b) (i0 : I1 (ad (rnN σ)) 0 = t) (i1 : I1 (ad (rnN σ)) 1 = t) (i2 : I1 (ad (rnN σ)) 2 = t) (i4 : I1 (ad (rnN σ)) 4 = 0) (i5 : I1 (ad (rnN σ)) 5 = 1) (G : qG p s m args meth c cX4_begin 3 yX4_begin.cls D cy (qA (mP M) s.heap.size)) (hret : meth.sig.returnType = (some .int)) : qK p l e { frames := 7, cells := 3, slots := 18, locals := 127 } s m args below meth c (MQ below (qQ D cy (mP M) (fun v M' => e_1 σ t = 0 ∧ poC M ad (n_1 σ t) (fun v => v = some (.int (qI (a_1 σ)))) v M')) args s 3 18 (qA (mP M) s.heap.size)) 3 D cy (qA (mP M) s.heap.size) 2 12 69 [(2, .ref (ad (rnN σ))), (1, .int (qI (t))), (0, .ref (ad 0))] [] (wI M I1 (mL M)) := by
  obtain ⟨⟨y4, y5, y6⟩, yD, yV, yF, yB, yR, -⟩ := id hY
  obtain ⟨w1, w2, w3⟩ := WF_n hW
  have o0 := CS_x hC
  have o1 := CS_fo hC
  obtain ⟨s0, s1, s2, s3⟩ := hC.2.2.2.1
  have hd : dOk (sD σ) := by rcases hW.1 with h9 | h9; exact absurd h9 hD0; exact h9
  obtain ⟨d1, d2, d3⟩ := yD hD0
  have hd7 := hd.1
  have hd9 := hd.2.1
  have hrn : 14 ≤ rnN σ ∧ rnN σ < 30 := by unfold rnN; omega
  have oR := CS_rd hC hrn.1 hrn.2
  have m1 : I1 (ad 1) 0 = sD σ := by rw [hI _ (CS_ne hC (by decide) (by omega) (by omega))]; exact d1
  have m5 : I1 (ad 0) 5 = sB σ := by rw [hI _ (CS_ne hC (by decide) (by omega) (by omega))]; exact y5
  have hy : 0 < sB σ → gT (mL M) (ad (30 + 3 * ((sB σ).toNat - 1) + 1)) = sF σ (3 * sB σ + 4).toNat := fun h9 => by have h8 := yF (3 * sB σ + 4).toNat (Or.inr (Or.inr ⟨by omega, by omega⟩)); rw [show frN σ (3 * sB σ + 4).toNat = 30 + 3 * ((sB σ).toNat - 1) + 1 by unfold frN; rw [if_neg (by omega), if_neg (by omega)]; omega] at h8; exact h8
  refine q_aload_n G 0 2 dX4_begin_69 rfl rfl ?_
  refine q_aload_n G 2 0 dX4_begin_70 rfl rfl ?_
  refine q_callV (As := []) (rest := [.ref (ad (rnN σ))]) G dX4_begin_71 cw_X4_86 (c_X4_nextExponent l D cy (wI M I1 (mL M)) ad hC σ (by omega) m1 m5 hy) o0.1 o0.2 (by decide) rfl rfl rfl (Nat.le_of_ble_eq_true rfl) rfl rfl ⟨Nat.le_of_ble_eq_true rfl, Nat.le_of_ble_eq_true rfl⟩ ⟨by decide, by decide⟩ (fun v9 M9 hq9 => ?_)
  obtain ⟨rfl, e9⟩ := hq9
  refine q_mem e9 ?_
  refine q_st (st2 := [.int (qI (a_1 σ)), .ref (ad (rnN σ))]) rfl ?_
  clear hy
  refine q_pI (z := a_1 σ) G dX4_begin_74 (pl_X4_90 _) nf_3_3 oR (by decide) (Nat.le_of_ble_eq_true rfl) (fs_3_3 _ _ _) ?_
  refine q_mem (M2 := wI M (up2 I1 (ad (rnN σ)) 3 (a_1 σ)) (mL M)) rfl ?_
  have m1b : mI (wI M (up2 I1 (ad (rnN σ)) 3 (a_1 σ)) (mL M)) (ad 1) 0 = sD σ := (up2_a _ _ (CS_ne hC (by decide) (by omega) (by omega))).trans m1
  have hFO := CS_FO (M := wI M (up2 I1 (ad (rnN σ)) 3 (a_1 σ)) (mL M)) hC (by rw [m1b]; omega)
  refine q_aload_n G 2 0 dX4_begin_77 rfl rfl ?_
  refine q_gt (v := .ref (ad 1)) G dX4_begin_78 fl_X4_10 o0 (by decide) rfl (congrArg va_rf s0) ?_
  refine q_aload_n G 2 0 dX4_begin_81 rfl rfl ?_
  refine q_gt (v := .ref (ad 1)) G dX4_begin_82 fl_X4_10 o0 (by decide) rfl (congrArg va_rf s0) ?_
  refine q_gt (v := .ref (ad 3)) G dX4_begin_85 fl_X4_93 o1 (by decide) rfl (congrArg va_rf (hC.2.2.2.2.1 2 (by decide) (by decide))) ?_
  refine q_aload_n G 0 2 dX4_begin_88 rfl rfl ?_
  refine q_gt (v := .int (qI (a_1 σ))) G dX4_begin_89 fl_X4_90 oR (by decide) rfl (by simp [mI, mL, mR, sL, sI, sR, wL, wD, stF, up2, wI]) ?_
  refine q_aload_n G 0 2 dX4_begin_92 rfl rfl ?_
  refine q_gt (v := .ref (ad (30 + 3 * (sB σ).toNat + 0))) G dX4_begin_93 fl_X4_97 oR (by decide) rfl (congrArg va_rf (hC.2.2.2.2.2.2.2 (sB σ).toNat 0 (by omega) (by decide))) ?_
  refine q_callV (As := [.ref (ad 3), .int (qI (a_1 σ)), .ref (ad (30 + 3 * (sB σ).toNat + 0))]) (rest := []) G dX4_begin_96 cw_X4_100 (c_X2_power l D cy (wI M (up2 I1 (ad (rnN σ)) 3 (a_1 σ)) (mL M)) (ad 1) (ad 2) (ad 3) (ad 4) (ad 5) (ad 6) (ad 7) (ad 8) (ad 9) (ad 10) hFO (by rw [m1b]; exact hd) (by rw [m1b]; exact d2) (ad 3) (ad (30 + 3 * (sB σ).toNat + 0)) (a_1 σ) (hC.1 3 (by decide)) (CS_fm hC (show 30 ≤ 30 + 3 * (sB σ).toNat + 0 by omega) (by omega)) (by unfold a_1; have := qand_65535 (h_1 σ); omega) (by rw [m1b]; show gd (sD σ) (gT (mL M) (ad 3)); rw [d3]; exact (geT_gd hd).1)) o1.1 o1.2 (by decide) rfl rfl rfl (Nat.le_of_ble_eq_true rfl) rfl rfl ⟨Nat.le_of_ble_eq_true rfl, Nat.le_of_ble_eq_true rfl⟩ ⟨by decide, by decide⟩ (fun v9 M9 hq9 => ?_)
  obtain ⟨rfl, L1, e9, fr1, v1, g1⟩ := hq9
  refine q_st (st2 := []) rfl ?_
  refine q_mem (M2 := wI M (up2 I1 (ad (rnN σ)) 3 (a_1 σ)) L1) e9 ?_
  rw [m1b] at v1
  replace v1 : gT L1 (ad (30 + 3 * (sB σ).toNat + 0)) = p_1 σ := by unfold p_1; rw [← d3]; exact v1
  have fa : frA ad (mL M) L1 [5, 6, 4, 7, 8, 30 + 3 * (sB σ).toNat + 0] := frA_6 fr1
  refine q_aload_n G 0 2 dX4_begin_99 rfl rfl ?_
  refine q_gt (v := .ref (ad (30 + 3 * (sB σ).toNat + 1))) G dX4_begin_100 fl_X4_104 oR (by decide) rfl (congrArg va_rf (hC.2.2.2.2.2.2.2 (sB σ).toNat 1 (by omega) (by decide))) ?_
  refine q_aload_n G 0 2 dX4_begin_103 rfl rfl ?_
  refine q_gt (v := .ref (ad (30 + 3 * (sB σ).toNat + 0))) G dX4_begin_104 fl_X4_97 oR (by decide) rfl (congrArg va_rf (hC.2.2.2.2.2.2.2 (sB σ).toNat 0 (by omega) (by decide))) ?_
  refine q_callV (As := [.ref (ad (30 + 3 * (sB σ).toNat + 0))]) (rest := []) G dX4_begin_107 cw_X4_107 (c_X1_become l D cy (wI M (up2 I1 (ad (rnN σ)) 3 (a_1 σ)) (L1)) (ad (30 + 3 * (sB σ).toNat + 1)) (ad (30 + 3 * (sB σ).toNat + 0)) (CS_fm hC (show 30 ≤ 30 + 3 * (sB σ).toNat + 1 by omega) (by omega)) (CS_fm hC (show 30 ≤ 30 + 3 * (sB σ).toNat + 0 by omega) (by omega))) (CS_fm hC (show 30 ≤ 30 + 3 * (sB σ).toNat + 1 by omega) (by omega)).1 (CS_fm hC (show 30 ≤ 30 + 3 * (sB σ).toNat + 1 by omega) (by omega)).2 (by decide) rfl rfl rfl (Nat.le_of_ble_eq_true rfl) rfl rfl ⟨Nat.le_of_ble_eq_true rfl, Nat.le_of_ble_eq_true rfl⟩ ⟨by decide, by decide⟩ (fun v9 M9 hq9 => ?_)
  obtain ⟨rfl, e9⟩ := hq9
  refine q_mem e9 ?_
  refine q_st (st2 := []) rfl ?_
  refine q_mem (M2 := wI M (up2 I1 (ad (rnN σ)) 3 (a_1 σ)) (stF L1 (ad (30 + 3 * (sB σ).toNat + 1)) (L1 (ad (30 + 3 * (sB σ).toNat + 0)) 0) (L1 (ad (30 + 3 * (sB σ).toNat + 0)) 1) (L1 (ad (30 + 3 * (sB σ).toNat + 0)) 2))) rfl ?_
  refine q_aload_n G 0 2 dX4_begin_110 rfl rfl ?_
  refine q_gt (v := .ref (ad (30 + 3 * (sB σ).toNat + 2))) G dX4_begin_111 fl_X4_111 oR (by decide) rfl (congrArg va_rf (hC.2.2.2.2.2.2.2 (sB σ).toNat 2 (by omega) (by decide))) ?_
  refine q_aload_n G 2 0 dX4_begin_114 rfl rfl ?_
  refine q_gt (v := .ref (ad 1)) G dX4_begin_115 fl_X4_10 o0 (by decide) rfl (congrArg va_rf s0) ?_
  refine q_gt (v := .ref (ad 2)) G dX4_begin_118 fl_X4_114 o1 (by decide) rfl (congrArg va_rf (hC.2.2.2.2.1 1 (by decide) (by decide))) ?_
  refine q_callV (As := [.ref (ad 2)]) (rest := []) G dX4_begin_121 cw_X4_107 (c_X1_become l D cy (wI M (up2 I1 (ad (rnN σ)) 3 (a_1 σ)) (stF L1 (ad (30 + 3 * (sB σ).toNat + 1)) (L1 (ad (30 + 3 * (sB σ).toNat + 0)) 0) (L1 (ad (30 + 3 * (sB σ).toNat + 0)) 1) (L1 (ad (30 + 3 * (sB σ).toNat + 0)) 2))) (ad (30 + 3 * (sB σ).toNat + 2)) (ad 2) (CS_fm hC (show 30 ≤ 30 + 3 * (sB σ).toNat + 2 by omega) (by omega)) (hC.1 2 (by decide))) (CS_fm hC (show 30 ≤ 30 + 3 * (sB σ).toNat + 2 by omega) (by omega)).1 (CS_fm hC (show 30 ≤ 30 + 3 * (sB σ).toNat + 2 by omega) (by omega)).2 (by decide) rfl rfl rfl (Nat.le_of_ble_eq_true rfl) rfl rfl ⟨Nat.le_of_ble_eq_true rfl, Nat.le_of_ble_eq_true rfl⟩ ⟨by decide, by decide⟩ (fun v9 M9 hq9 => ?_)
  obtain ⟨rfl, e9⟩ := hq9
  refine q_mem e9 ?_
  refine q_st (st2 := []) rfl ?_
  refine q_mem (M2 := wI M (up2 I1 (ad (rnN σ)) 3 (a_1 σ)) (stF (stF L1 (ad (30 + 3 * (sB σ).toNat + 1)) (L1 (ad (30 + 3 * (sB σ).toNat + 0)) 0) (L1 (ad (30 + 3 * (sB σ).toNat + 0)) 1) (L1 (ad (30 + 3 * (sB σ).toNat + 0)) 2)) (ad (30 + 3 * (sB σ).toNat + 2)) ((stF L1 (ad (30 + 3 * (sB σ).toNat + 1)) (L1 (ad (30 + 3 * (sB σ).toNat + 0)) 0) (L1 (ad (30 + 3 * (sB σ).toNat + 0)) 1) (L1 (ad (30 + 3 * (sB σ).toNat + 0)) 2)) (ad 2) 0) ((stF L1 (ad (30 + 3 * (sB σ).toNat + 1)) (L1 (ad (30 + 3 * (sB σ).toNat + 0)) 0) (L1 (ad (30 + 3 * (sB σ).toNat + 0)) 1) (L1 (ad (30 + 3 * (sB σ).toNat + 0)) 2)) (ad 2) 1) ((stF L1 (ad (30 + 3 * (sB σ).toNat + 1)) (L1 (ad (30 + 3 * (sB σ).toNat + 0)) 0) (L1 (ad (30 + 3 * (sB σ).toNat + 0)) 1) (L1 (ad (30 + 3 * (sB σ).toNat + 0)) 2)) (ad 2) 2))) rfl ?_
  have fx : frA ad (mL M) (stF (stF L1 (ad (30 + 3 * (sB σ).toNat + 1)) (L1 (ad (30 + 3 * (sB σ).toNat + 0)) 0) (L1 (ad (30 + 3 * (sB σ).toNat + 0)) 1) (L1 (ad (30 + 3 * (sB σ).toNat + 0)) 2)) (ad (30 + 3 * (sB σ).toNat + 2)) ((stF L1 (ad (30 + 3 * (sB σ).toNat + 1)) (L1 (ad (30 + 3 * (sB σ).toNat + 0)) 0) (L1 (ad (30 + 3 * (sB σ).toNat + 0)) 1) (L1 (ad (30 + 3 * (sB σ).toNat + 0)) 2)) (ad 2) 0) ((stF L1 (ad (30 + 3 * (sB σ).toNat + 1)) (L1 (ad (30 + 3 * (sB σ).toNat + 0)) 0) (L1 (ad (30 + 3 * (sB σ).toNat + 0)) 1) (L1 (ad (30 + 3 * (sB σ).toNat + 0)) 2)) (ad 2) 1) ((stF L1 (ad (30 + 3 * (sB σ).toNat + 1)) (L1 (ad (30 + 3 * (sB σ).toNat + 0)) 0) (L1 (ad (30 + 3 * (sB σ).toNat + 0)) 1) (L1 (ad (30 + 3 * (sB σ).toNat + 0)) 2)) (ad 2) 2)) [5, 6, 4, 7, 8, 30 + 3 * (sB σ).toNat + 0, 30 + 3 * (sB σ).toNat + 1, 30 + 3 * (sB σ).toNat + 2] := frA_tr (frA_tr (frA_w fa (by intro s hs; simp at hs ⊢; omega)) (frA_st (30 + 3 * (sB σ).toNat + 1) (by simp) _ _ _)) (frA_st (30 + 3 * (sB σ).toNat + 2) (by simp) _ _ _)
  have j01 := CS_ne hC (r := 30 + 3 * (sB σ).toNat + 0) (s := 30 + 3 * (sB σ).toNat + 1) (by omega) (by omega) (by omega)
  have j02 := CS_ne hC (r := 30 + 3 * (sB σ).toNat + 0) (s := 30 + 3 * (sB σ).toNat + 2) (by omega) (by omega) (by omega)
  have j12 := CS_ne hC (r := 30 + 3 * (sB σ).toNat + 1) (s := 30 + 3 * (sB σ).toNat + 2) (by omega) (by omega) (by omega)
  have ju1 := CS_ne hC (r := 2) (s := 30 + 3 * (sB σ).toNat + 1) (by omega) (by omega) (by omega)
  have hg0 : gT (stF (stF L1 (ad (30 + 3 * (sB σ).toNat + 1)) (L1 (ad (30 + 3 * (sB σ).toNat + 0)) 0) (L1 (ad (30 + 3 * (sB σ).toNat + 0)) 1) (L1 (ad (30 + 3 * (sB σ).toNat + 0)) 2)) (ad (30 + 3 * (sB σ).toNat + 2)) ((stF L1 (ad (30 + 3 * (sB σ).toNat + 1)) (L1 (ad (30 + 3 * (sB σ).toNat + 0)) 0) (L1 (ad (30 + 3 * (sB σ).toNat + 0)) 1) (L1 (ad (30 + 3 * (sB σ).toNat + 0)) 2)) (ad 2) 0) ((stF L1 (ad (30 + 3 * (sB σ).toNat + 1)) (L1 (ad (30 + 3 * (sB σ).toNat + 0)) 0) (L1 (ad (30 + 3 * (sB σ).toNat + 0)) 1) (L1 (ad (30 + 3 * (sB σ).toNat + 0)) 2)) (ad 2) 1) ((stF L1 (ad (30 + 3 * (sB σ).toNat + 1)) (L1 (ad (30 + 3 * (sB σ).toNat + 0)) 0) (L1 (ad (30 + 3 * (sB σ).toNat + 0)) 1) (L1 (ad (30 + 3 * (sB σ).toNat + 0)) 2)) (ad 2) 2)) (ad (30 + 3 * (sB σ).toNat + 0)) = p_1 σ := by rw [gT_stF_n _ _ _ _ j02, gT_stF_n _ _ _ _ j01]; exact v1
  have hg1 : gT (stF (stF L1 (ad (30 + 3 * (sB σ).toNat + 1)) (L1 (ad (30 + 3 * (sB σ).toNat + 0)) 0) (L1 (ad (30 + 3 * (sB σ).toNat + 0)) 1) (L1 (ad (30 + 3 * (sB σ).toNat + 0)) 2)) (ad (30 + 3 * (sB σ).toNat + 2)) ((stF L1 (ad (30 + 3 * (sB σ).toNat + 1)) (L1 (ad (30 + 3 * (sB σ).toNat + 0)) 0) (L1 (ad (30 + 3 * (sB σ).toNat + 0)) 1) (L1 (ad (30 + 3 * (sB σ).toNat + 0)) 2)) (ad 2) 0) ((stF L1 (ad (30 + 3 * (sB σ).toNat + 1)) (L1 (ad (30 + 3 * (sB σ).toNat + 0)) 0) (L1 (ad (30 + 3 * (sB σ).toNat + 0)) 1) (L1 (ad (30 + 3 * (sB σ).toNat + 0)) 2)) (ad 2) 1) ((stF L1 (ad (30 + 3 * (sB σ).toNat + 1)) (L1 (ad (30 + 3 * (sB σ).toNat + 0)) 0) (L1 (ad (30 + 3 * (sB σ).toNat + 0)) 1) (L1 (ad (30 + 3 * (sB σ).toNat + 0)) 2)) (ad 2) 2)) (ad (30 + 3 * (sB σ).toNat + 1)) = p_1 σ := by rw [gT_stF_n _ _ _ _ j12, gT_stF]; exact v1
  have hg2 : gT (stF (stF L1 (ad (30 + 3 * (sB σ).toNat + 1)) (L1 (ad (30 + 3 * (sB σ).toNat + 0)) 0) (L1 (ad (30 + 3 * (sB σ).toNat + 0)) 1) (L1 (ad (30 + 3 * (sB σ).toNat + 0)) 2)) (ad (30 + 3 * (sB σ).toNat + 2)) ((stF L1 (ad (30 + 3 * (sB σ).toNat + 1)) (L1 (ad (30 + 3 * (sB σ).toNat + 0)) 0) (L1 (ad (30 + 3 * (sB σ).toNat + 0)) 1) (L1 (ad (30 + 3 * (sB σ).toNat + 0)) 2)) (ad 2) 0) ((stF L1 (ad (30 + 3 * (sB σ).toNat + 1)) (L1 (ad (30 + 3 * (sB σ).toNat + 0)) 0) (L1 (ad (30 + 3 * (sB σ).toNat + 0)) 1) (L1 (ad (30 + 3 * (sB σ).toNat + 0)) 2)) (ad 2) 1) ((stF L1 (ad (30 + 3 * (sB σ).toNat + 1)) (L1 (ad (30 + 3 * (sB σ).toNat + 0)) 0) (L1 (ad (30 + 3 * (sB σ).toNat + 0)) 1) (L1 (ad (30 + 3 * (sB σ).toNat + 0)) 2)) (ad 2) 2)) (ad (30 + 3 * (sB σ).toNat + 2)) = unT (sD σ) := by rw [gT_stF]; show gT (stF L1 (ad (30 + 3 * (sB σ).toNat + 1)) (L1 (ad (30 + 3 * (sB σ).toNat + 0)) 0) (L1 (ad (30 + 3 * (sB σ).toNat + 0)) 1) (L1 (ad (30 + 3 * (sB σ).toNat + 0)) 2)) (ad 2) = _; rw [gT_stF_n _ _ _ _ ju1, frA_T fa (CS_nin hC (by decide) (by intro s hs; simp at hs; omega))]; exact d2
  have hg3 : ∀ k, k < 3 → gT (stF (stF L1 (ad (30 + 3 * (sB σ).toNat + 1)) (L1 (ad (30 + 3 * (sB σ).toNat + 0)) 0) (L1 (ad (30 + 3 * (sB σ).toNat + 0)) 1) (L1 (ad (30 + 3 * (sB σ).toNat + 0)) 2)) (ad (30 + 3 * (sB σ).toNat + 2)) ((stF L1 (ad (30 + 3 * (sB σ).toNat + 1)) (L1 (ad (30 + 3 * (sB σ).toNat + 0)) 0) (L1 (ad (30 + 3 * (sB σ).toNat + 0)) 1) (L1 (ad (30 + 3 * (sB σ).toNat + 0)) 2)) (ad 2) 0) ((stF L1 (ad (30 + 3 * (sB σ).toNat + 1)) (L1 (ad (30 + 3 * (sB σ).toNat + 0)) 0) (L1 (ad (30 + 3 * (sB σ).toNat + 0)) 1) (L1 (ad (30 + 3 * (sB σ).toNat + 0)) 2)) (ad 2) 1) ((stF L1 (ad (30 + 3 * (sB σ).toNat + 1)) (L1 (ad (30 + 3 * (sB σ).toNat + 0)) 0) (L1 (ad (30 + 3 * (sB σ).toNat + 0)) 1) (L1 (ad (30 + 3 * (sB σ).toNat + 0)) 2)) (ad 2) 2)) (ad (30 + 3 * (sB σ).toNat + k)) = sF (n_1 σ t) (3 + k) := fun k hk => by rcases (show k = 0 ∨ k = 1 ∨ k = 2 by omega) with rfl | rfl | rfl; exact hg0; exact hg1; exact hg2
  refine q_aload_n G 2 0 dX4_begin_124 rfl rfl ?_
  refine q_aload_n G 0 2 dX4_begin_125 rfl rfl ?_
  refine q_pR (z := some (ad (rnN σ))) G dX4_begin_126 (pl_X4_42 _) nf_4_6 o0 (by decide) (Nat.le_of_ble_eq_true rfl) (fs_4_6 _ _ _) ?_
  refine q_aload_n G 0 2 dX4_begin_129 rfl rfl ?_
  refine q_gt (v := .int (qI (a_1 σ))) G dX4_begin_130 fl_X4_90 oR (by decide) rfl (by simp [mI, mL, mR, sL, sI, sR, wL, wD, stF, up2, wI]) ?_
  exact q_iret G dX4_begin_133 hret (by omega) (by omega) (⟨he, ⟨up2 I1 (ad (rnN σ)) 3 (a_1 σ), stF (stF L1 (ad (30 + 3 * (sB σ).toNat + 1)) (L1 (ad (30 + 3 * (sB σ).toNat + 0)) 0) (L1 (ad (30 + 3 * (sB σ).toNat + 0)) 1) (L1 (ad (30 + 3 * (sB σ).toNat + 0)) 2)) (ad (30 + 3 * (sB σ).toNat + 2)) ((stF L1 (ad (30 + 3 * (sB σ).toNat + 1)) (L1 (ad (30 + 3 * (sB σ).toNat + 0)) 0) (L1 (ad (30 + 3 * (sB σ).toNat + 0)) 1) (L1 (ad (30 + 3 * (sB σ).toNat + 0)) 2)) (ad 2) 0) ((stF L1 (ad (30 + 3 * (sB σ).toNat + 1)) (L1 (ad (30 + 3 * (sB σ).toNat + 0)) 0) (L1 (ad (30 + 3 * (sB σ).toNat + 0)) 1) (L1 (ad (30 + 3 * (sB σ).toNat + 0)) 2)) (ad 2) 1) ((stF L1 (ad (30 + 3 * (sB σ).toNat + 1)) (L1 (ad (30 + 3 * (sB σ).toNat + 0)) 0) (L1 (ad (30 + 3 * (sB σ).toNat + 0)) 1) (L1 (ad (30 + 3 * (sB σ).toNat + 0)) 2)) (ad 2) 2), up2 (mR M) (ad 0) 6 (some (ad (rnN σ))), rfl, fun b hb => ⟨by rw [up2_row _ _ (hb _ (by omega)), hI _ (hb _ (by omega))], frA_o fx (by intro s hs; simp at hs; omega) hb, up2_row _ _ (hb 0 (by decide))⟩, CS_w (M := M) hC (fun a k h9 => up2_n _ _ h9), CD_R hC hW hY hB6 rfl rfl rfl (fun _ _ => rfl) (fun k hk => by show up1 (up1 (up1 (sF σ) 3 _) 4 _) 5 _ k = sF σ k; rw [up1_n _ _ (by omega), up1_n _ _ (by omega), up1_n _ _ (by omega)]) (fun k hk => by show up1 (up1 (up1 (sC σ) 48 _) 49 _) 50 _ k = sC σ k; rw [up1_n _ _ (by omega), up1_n _ _ (by omega), up1_n _ _ (by omega)]) fx (by intro s hs; simp at hs; omega) hg3 (fun b hb => by rw [up2_row _ _ hb]; exact hI b hb) ⟨⟨(up2_k _ _ (by decide)).trans i0, up2_s _ _ _ _, (up2_k _ _ (by decide)).trans i4⟩, (up2_k _ _ (by decide)).trans i1, (up2_k _ _ (by decide)).trans i2, (up2_k _ _ (by decide)).trans i5⟩ (up2_s _ _ _ _), rfl⟩⟩)
set_option maxRecDepth 100000 in
set_option maxHeartbeats 4000000 in
theorem c_X4_begin (l : Launch) (hl : l.stackTraces = false) (D : va_G) (cy : Nat → ClassId) (M : qM) (ad : Nat → Nat) (hC : CSt M ad) (σ : qS) (hY : CDy σ ad (mI M) (mL M) (mR M)) (hW : WF σ) (t : Int) (ht9 : r32 t) : qCx l D cy yX4_begin cX4_begin 3 (some .int) { frames := 7, cells := 3, slots := 18, locals := 127 } 3 18 [.ref (ad 0), .int (qI (t))] M (fun v M' => e_1 σ t = 0 ∧ poC M ad (n_1 σ t) (fun v => v = some (.int (qI (a_1 σ)))) v M') (fun E => (E = sIS ∧ e_1 σ t = 1) ∨ (E = sIA ∧ e_1 σ t = 2)) := by
  refine qCx_of (lv0 := [(0, .ref (ad 0)), (1, .int (qI (t)))]) (by decide) rfl (Nat.le_of_ble_eq_true rfl) ?_
  intro p e s m args below meth c G ht hret
  obtain ⟨⟨y4, y5, y6⟩, yD, yV, yF, yB, yR, -⟩ := id hY
  obtain ⟨w1, w2, w3⟩ := WF_n hW
  have o0 := CS_x hC
  have o1 := CS_fo hC
  have a11 := CS_a1 hC
  have a12 := CS_a2 hC
  have a13 := CS_a3 hC
  obtain ⟨s0, s1, s2, s3⟩ := hC.2.2.2.1
  have z4 : mI M (ad 0) 4 = 0 ∨ mI M (ad 0) 4 = 1 := by omega
  rcases w3 with hU | hU
  · have r6 : mR M (ad 0) 6 = none := by rw [y6, if_neg (by omega)]
    refine q_aload_n G 0 0 dX4_begin_0 rfl rfl ?_
    refine q_callVX (As := []) (rest := []) G dX4_begin_1 cw_X4_63 (c_X4_needDiscriminant l hl D cy M (ad 0) o0 z4) o0.1 o0.2 (by decide) rfl rfl rfl (Nat.le_of_ble_eq_true rfl) rfl rfl ⟨Nat.le_of_ble_eq_true rfl, Nat.le_of_ble_eq_true rfl⟩ ⟨by decide, by decide⟩ (fun E9 ce9 q9 H9 lc9 ls9 hx9 h91 h92 h93 h94 h95 h96 h97 => q_outX G ht (Or.inl (⟨hx9.1, by have h9 := hx9.2; unfold e_1; omega⟩)) h91 h93 h95 h96 h97 (by omega) (by omega)) (fun v9 M9 hq9 => ?_)
    obtain ⟨⟨rfl, e9⟩, zD⟩ := hq9
    refine q_st (st2 := []) rfl ?_
    refine q_mem e9 ?_
    refine q_iload_n G 1 1 dX4_begin_4 rfl rfl ?_
    refine q_callSX (As := [.int (qI (t))]) (rest := []) G dX4_begin_5 cw_X4_66 (c_X4_needTurns l hl D cy M t (by omega)) rfl rfl (Nat.le_of_ble_eq_true rfl) rfl rfl ⟨Nat.le_of_ble_eq_true rfl, Nat.le_of_ble_eq_true rfl⟩ ⟨by decide, by decide⟩ (fun E9 ce9 q9 H9 lc9 ls9 hx9 h91 h92 h93 h94 h95 h96 h97 => q_outX G ht (Or.inr (⟨hx9.1, by have h9 := hx9.2; unfold e_1; omega⟩)) h91 h93 h95 h96 h97 (by omega) (by omega)) (fun v9 M9 hq9 => ?_)
    obtain ⟨⟨rfl, e9⟩, zT⟩ := hq9
    refine q_st (st2 := []) rfl ?_
    refine q_mem e9 ?_
    refine q_aload_n G 0 0 dX4_begin_8 rfl rfl ?_
    refine q_gt (v := .null) G dX4_begin_9 fl_X4_42 o0 (by decide) rfl (congrArg va_rf r6) ?_
    refine q_ifnonnull (x := none) (tgt := 24) G dX4_begin_12 (by decide) (fun _ h9 => nomatch h9) (fun _ => ?_)
    refine q_aload_n G 0 0 dX4_begin_15 rfl rfl ?_
    refine q_gt (v := .int (qI (mI M (ad 0) 5))) G dX4_begin_16 fl_X4_38 o0 (by decide) rfl rfl ?_
    refine q_bipush G dX4_begin_19 (by decide +kernel) ?_
    refine q_icmp_lt (tgt := 34) G dX4_begin_21 (by decide) (by first | assumption | omega) (by first | assumption | omega) (fun c1 => ?_) (fun c1 => ?_)
    · have hrn : 14 ≤ rnN σ ∧ rnN σ < 30 := by unfold rnN; omega
      have oR := CS_rd hC hrn.1 hrn.2
      refine q_aload_n G 0 0 dX4_begin_34 rfl rfl ?_
      refine q_gt (v := .ref (ad 11)) G dX4_begin_35 fl_X4_18 o0 (by decide) rfl (congrArg va_rf s1) ?_
      refine q_aload_n G 0 0 dX4_begin_38 rfl rfl ?_
      refine q_gt (v := .int (qI (mI M (ad 0) 5))) G dX4_begin_39 fl_X4_38 o0 (by decide) rfl rfl ?_
      refine q_aaloadR G dX4_begin_42 a11.1 a11.2.1 (by first | assumption | omega) (show (mI M (ad 0) 5) < ((mN M (ad 11) : Nat) : Int) by rw [a11.2.2]; omega) (show mN M (ad 11) < 2147483648 by rw [a11.2.2]; decide) ?_
      refine q_st (st2 := [.ref (ad (rnN σ))]) (congrArg (fun z => va_rf z :: _) ((show mR M (ad 11) (Int.toNat (mI M (ad 0) 5)) = some (ad (rnN σ)) by rw [y5]; exact hC.2.2.2.2.2.1 (sB σ).toNat (by omega)))) ?_
      refine q_astore_n (lv' := [(2, .ref (ad (rnN σ))), (0, .ref (ad 0)), (1, .int (qI (t)))]) G 2 dX4_begin_43 rfl (by decide) rfl ?_
      refine q_aload_n G 0 2 dX4_begin_44 rfl rfl ?_
      refine q_iload_n G 2 1 dX4_begin_45 rfl rfl ?_
      refine q_pI (z := t) G dX4_begin_46 (pl_X4_71 _) nf_3_0 oR (by decide) (Nat.le_of_ble_eq_true rfl) (fs_3_0 _ _ _) ?_
      refine q_aload_n G 0 2 dX4_begin_49 rfl rfl ?_
      refine q_iload_n G 2 1 dX4_begin_50 rfl rfl ?_
      refine q_pI (z := t) G dX4_begin_51 (pl_X4_74 _) nf_3_1 oR (by decide) (Nat.le_of_ble_eq_true rfl) (fs_3_1 _ _ _) ?_
      refine q_aload_n G 0 2 dX4_begin_54 rfl rfl ?_
      refine q_iload_n G 2 1 dX4_begin_55 rfl rfl ?_
      refine q_pI (z := t) G dX4_begin_56 (pl_X4_77 _) nf_3_2 oR (by decide) (Nat.le_of_ble_eq_true rfl) (fs_3_2 _ _ _) ?_
      refine q_aload_n G 0 2 dX4_begin_59 rfl rfl ?_
      refine q_iconst G dX4_begin_60 ?_
      refine q_pI (z := 0) G dX4_begin_61 (pl_X4_80 _) nf_3_4 oR (by decide) (Nat.le_of_ble_eq_true rfl) (fs_3_4 _ _ _) ?_
      refine q_aload_n G 0 2 dX4_begin_64 rfl rfl ?_
      refine q_iconst G dX4_begin_65 ?_
      refine q_pI (z := 1) G dX4_begin_66 (pl_X4_83 _) nf_3_5 oR (by decide) (Nat.le_of_ble_eq_true rfl) (fs_3_5 _ _ _) ?_
      refine q_retX ?_
      refine q_lvs [0, 2, 1] rfl ?_
      exact j_X4_begin2 l D cy M ad hC σ hY hW t (by omega) (by omega) (by omega) (by unfold e_1; omega) (up2 (up2 (up2 (up2 (up2 (mI M) (ad (rnN σ)) 0 t) (ad (rnN σ)) 1 t) (ad (rnN σ)) 2 t) (ad (rnN σ)) 4 0) (ad (rnN σ)) 5 1) (fun b hb => by rw [up2_row _ _ hb, up2_row _ _ hb, up2_row _ _ hb, up2_row _ _ hb, up2_row _ _ hb]) (by simp [up2]) (by simp [up2]) (by simp [up2]) (by simp [up2]) (by simp [up2]) G hret
    · exact q_throw (P0 := []) G hl qt_54_69 (Or.inl (⟨rfl, by unfold e_1; omega⟩)) dX4_begin_24 dX4_begin_27 dX4_begin_28 dX4_begin_30 dX4_begin_33 ht (by decide) (by decide) (by decide) (by decide) (by omega) (by omega)
  · have r6 : mR M (ad 0) 6 = some (ad (rnN σ)) := by rw [y6, if_pos hU]
    have hB6 := hW.2.1.2.2 hU
    have hrn : 14 ≤ rnN σ ∧ rnN σ < 30 := by unfold rnN; omega
    have oR := CS_rd hC hrn.1 hrn.2
    refine q_aload_n G 0 0 dX4_begin_0 rfl rfl ?_
    refine q_callVX (As := []) (rest := []) G dX4_begin_1 cw_X4_63 (c_X4_needDiscriminant l hl D cy M (ad 0) o0 z4) o0.1 o0.2 (by decide) rfl rfl rfl (Nat.le_of_ble_eq_true rfl) rfl rfl ⟨Nat.le_of_ble_eq_true rfl, Nat.le_of_ble_eq_true rfl⟩ ⟨by decide, by decide⟩ (fun E9 ce9 q9 H9 lc9 ls9 hx9 h91 h92 h93 h94 h95 h96 h97 => q_outX G ht (Or.inl (⟨hx9.1, by have h9 := hx9.2; unfold e_1; omega⟩)) h91 h93 h95 h96 h97 (by omega) (by omega)) (fun v9 M9 hq9 => ?_)
    obtain ⟨⟨rfl, e9⟩, zD⟩ := hq9
    refine q_st (st2 := []) rfl ?_
    refine q_mem e9 ?_
    refine q_iload_n G 1 1 dX4_begin_4 rfl rfl ?_
    refine q_callSX (As := [.int (qI (t))]) (rest := []) G dX4_begin_5 cw_X4_66 (c_X4_needTurns l hl D cy M t (by omega)) rfl rfl (Nat.le_of_ble_eq_true rfl) rfl rfl ⟨Nat.le_of_ble_eq_true rfl, Nat.le_of_ble_eq_true rfl⟩ ⟨by decide, by decide⟩ (fun E9 ce9 q9 H9 lc9 ls9 hx9 h91 h92 h93 h94 h95 h96 h97 => q_outX G ht (Or.inr (⟨hx9.1, by have h9 := hx9.2; unfold e_1; omega⟩)) h91 h93 h95 h96 h97 (by omega) (by omega)) (fun v9 M9 hq9 => ?_)
    obtain ⟨⟨rfl, e9⟩, zT⟩ := hq9
    refine q_st (st2 := []) rfl ?_
    refine q_mem e9 ?_
    refine q_aload_n G 0 0 dX4_begin_8 rfl rfl ?_
    refine q_gt (v := .ref (ad (rnN σ))) G dX4_begin_9 fl_X4_42 o0 (by decide) rfl (congrArg va_rf r6) ?_
    refine q_ifnonnull (x := some (ad (rnN σ))) (tgt := 24) G dX4_begin_12 (by decide) (fun _ _ => ?_) (fun h9 => nomatch h9)
    exact q_throw (P0 := []) G hl qt_54_69 (Or.inl (⟨rfl, by unfold e_1; omega⟩)) dX4_begin_24 dX4_begin_27 dX4_begin_28 dX4_begin_30 dX4_begin_33 ht (by decide) (by decide) (by decide) (by decide) (by omega) (by omega)
