set_option maxRecDepth 100000 in
set_option maxHeartbeats 4000000 in
theorem c_X4_multiply (l : Launch) (hl : l.stackTraces = false) (D : va_G) (cy : Nat → ClassId) (M : qM) (ad : Nat → Nat) (hC : CSt M ad) (σ : qS) (hY : CDy σ ad (mI M) (mL M) (mR M)) (hW : WF σ) (i j k : Int) (hi : r32 i) (hj : r32 j) (hk : r32 k) : qCx l D cy yX4_multiply cX4_multiply 4 none { frames := 7, cells := 6, slots := 36, locals := 111 } 6 36 [.ref (ad 0), .int (qI (i)), .int (qI (j)), .int (qI (k))] M (fun v M' => e_13 σ i j k = 0 ∧ poC M ad (n_13 σ i j k) (fun v => v = none) v M') (fun E => (E = sIS ∧ e_13 σ i j k = 1) ∨ (E = sIO ∧ e_13 σ i j k = 2) ∨ (E = sNS ∧ e_13 σ i j k = 3)) := by
  refine qCx_of (lv0 := [(0, .ref (ad 0)), (1, .int (qI (i))), (2, .int (qI (j))), (3, .int (qI (k)))]) (by decide) rfl (Nat.le_of_ble_eq_true rfl) ?_
  intro p e s m args below meth c G ht hret
  obtain ⟨⟨y4, y5, y6⟩, yD, yV, yF, yB, yR, -⟩ := id hY
  obtain ⟨w1, w2, w3⟩ := WF_n hW
  have o0 := CS_x hC
  have o1 := CS_fo hC
  have a11 := CS_a1 hC
  have a12 := CS_a2 hC
  have a13 := CS_a3 hC
  obtain ⟨s0, s1, s2, s3⟩ := hC.2.2.2.1
  have z4 : mI M (ad 0) 4 = 0 ∨ mI M (ad 0) 4 = 1 := by omega
  refine q_aload_n G 0 0 dX4_multiply_0 rfl rfl ?_
  refine q_callVX (As := []) (rest := []) G dX4_multiply_1 cw_X4_63 (c_X4_needDiscriminant l hl D cy M (ad 0) o0 z4) o0.1 o0.2 (by decide) rfl rfl rfl (Nat.le_of_ble_eq_true rfl) rfl rfl ⟨Nat.le_of_ble_eq_true rfl, Nat.le_of_ble_eq_true rfl⟩ ⟨by decide, by decide⟩ (fun E9 ce9 q9 H9 lc9 ls9 hx9 h91 h92 h93 h94 h95 h96 h97 => q_outX G ht (Or.inl (⟨hx9.1, by have h9 := hx9.2; unfold e_13; omega⟩)) h91 h93 h95 h96 h97 (by omega) (by omega)) (fun v9 M9 hq9 => ?_)
  obtain ⟨⟨rfl, e9⟩, zD⟩ := hq9
  refine q_st (st2 := []) rfl ?_
  refine q_mem e9 ?_
  refine q_iload_n G 1 1 dX4_multiply_4 rfl rfl ?_
  refine q_callSX (As := [.int (qI (i))]) (rest := []) G dX4_multiply_5 cw_X4_170 (c_X4_needSlot l hl D cy M i (by omega)) rfl rfl (Nat.le_of_ble_eq_true rfl) rfl rfl ⟨Nat.le_of_ble_eq_true rfl, Nat.le_of_ble_eq_true rfl⟩ ⟨by decide, by decide⟩ (fun E9 ce9 q9 H9 lc9 ls9 hx9 h91 h92 h93 h94 h95 h96 h97 => q_outX G ht (Or.inr (Or.inl (⟨hx9.1, by have h9 := hx9.2; unfold e_13; omega⟩))) h91 h93 h95 h96 h97 (by omega) (by omega)) (fun v9 M9 hq9 => ?_)
  obtain ⟨⟨rfl, e9⟩, zI⟩ := hq9
  refine q_st (st2 := []) rfl ?_
  refine q_mem e9 ?_
  refine q_iload_n G 2 2 dX4_multiply_8 rfl rfl ?_
  refine q_callSX (As := [.int (qI (j))]) (rest := []) G dX4_multiply_9 cw_X4_170 (c_X4_needSlot l hl D cy M j (by omega)) rfl rfl (Nat.le_of_ble_eq_true rfl) rfl rfl ⟨Nat.le_of_ble_eq_true rfl, Nat.le_of_ble_eq_true rfl⟩ ⟨by decide, by decide⟩ (fun E9 ce9 q9 H9 lc9 ls9 hx9 h91 h92 h93 h94 h95 h96 h97 => q_outX G ht (Or.inr (Or.inl (⟨hx9.1, by have h9 := hx9.2; unfold e_13; omega⟩))) h91 h93 h95 h96 h97 (by omega) (by omega)) (fun v9 M9 hq9 => ?_)
  obtain ⟨⟨rfl, e9⟩, zJ⟩ := hq9
  refine q_st (st2 := []) rfl ?_
  refine q_mem e9 ?_
  refine q_iload_n G 3 3 dX4_multiply_12 rfl rfl ?_
  refine q_callSX (As := [.int (qI (k))]) (rest := []) G dX4_multiply_13 cw_X4_170 (c_X4_needSlot l hl D cy M k (by omega)) rfl rfl (Nat.le_of_ble_eq_true rfl) rfl rfl ⟨Nat.le_of_ble_eq_true rfl, Nat.le_of_ble_eq_true rfl⟩ ⟨by decide, by decide⟩ (fun E9 ce9 q9 H9 lc9 ls9 hx9 h91 h92 h93 h94 h95 h96 h97 => q_outX G ht (Or.inr (Or.inl (⟨hx9.1, by have h9 := hx9.2; unfold e_13; omega⟩))) h91 h93 h95 h96 h97 (by omega) (by omega)) (fun v9 M9 hq9 => ?_)
  obtain ⟨⟨rfl, e9⟩, zK⟩ := hq9
  refine q_st (st2 := []) rfl ?_
  refine q_mem e9 ?_
  refine q_aload_n G 0 0 dX4_multiply_16 rfl rfl ?_
  refine q_iload_n G 1 1 dX4_multiply_17 rfl rfl ?_
  refine q_callVX (As := [.int (qI (i))]) (rest := []) G dX4_multiply_18 cw_X4_185 (c_X4_needFilled l hl D cy M (ad 0) (ad 13) i o0 s3 a13 (by omega) (by have h9 := yV (Int.toNat i) (by omega); have h8 := hW.2.2.2.1 (Int.toNat i) (by omega); omega)) o0.1 o0.2 (by decide) rfl rfl rfl (Nat.le_of_ble_eq_true rfl) rfl rfl ⟨Nat.le_of_ble_eq_true rfl, Nat.le_of_ble_eq_true rfl⟩ ⟨by decide, by decide⟩ (fun E9 ce9 q9 H9 lc9 ls9 hx9 h91 h92 h93 h94 h95 h96 h97 => q_outX G ht (Or.inr (Or.inr (⟨hx9.1, by have h9 := hx9.2; have h8 := yV (Int.toNat i) (by omega); unfold e_13; omega⟩))) h91 h93 h95 h96 h97 (by omega) (by omega)) (fun v9 M9 hq9 => ?_)
  obtain ⟨⟨rfl, e9⟩, zF⟩ := hq9
  refine q_st (st2 := []) rfl ?_
  refine q_mem e9 ?_
  have zFv := yV (Int.toNat i) (by omega)
  have zFw := hW.2.2.2.1 (Int.toNat i) (by omega)
  refine q_aload_n G 0 0 dX4_multiply_21 rfl rfl ?_
  refine q_iload_n G 2 2 dX4_multiply_22 rfl rfl ?_
  refine q_callVX (As := [.int (qI (j))]) (rest := []) G dX4_multiply_23 cw_X4_185 (c_X4_needFilled l hl D cy M (ad 0) (ad 13) j o0 s3 a13 (by omega) (by have h9 := yV (Int.toNat j) (by omega); have h8 := hW.2.2.2.1 (Int.toNat j) (by omega); omega)) o0.1 o0.2 (by decide) rfl rfl rfl (Nat.le_of_ble_eq_true rfl) rfl rfl ⟨Nat.le_of_ble_eq_true rfl, Nat.le_of_ble_eq_true rfl⟩ ⟨by decide, by decide⟩ (fun E9 ce9 q9 H9 lc9 ls9 hx9 h91 h92 h93 h94 h95 h96 h97 => q_outX G ht (Or.inr (Or.inr (⟨hx9.1, by have h9 := hx9.2; have h8 := yV (Int.toNat j) (by omega); unfold e_13; omega⟩))) h91 h93 h95 h96 h97 (by omega) (by omega)) (fun v9 M9 hq9 => ?_)
  obtain ⟨⟨rfl, e9⟩, zG⟩ := hq9
  refine q_st (st2 := []) rfl ?_
  refine q_mem e9 ?_
  have zGv := yV (Int.toNat j) (by omega)
  have zGw := hW.2.2.2.1 (Int.toNat j) (by omega)
  have hD0 : sD σ ≠ 0 := by omega
  have hd : dOk (sD σ) := by rcases hW.1 with h9 | h9; exact absurd h9 hD0; exact h9
  obtain ⟨d1, d2, d3⟩ := yD hD0
  have hd7 := hd.1
  have hd9 := hd.2.1
  have hdm : dOk (mI M (ad 1) 0) := by rw [d1]; exact hd
  have hFO := CS_FO hC (by omega)
  have hun : gT (mL M) (ad 2) = unT (mI M (ad 1) 0) := by rw [d1]; exact d2
  have hge : gd (mI M (ad 1) 0) (gT (mL M) (ad 3)) := by rw [d1, d3]; exact (geT_gd hd).1
  have gie : gT (mL M) (ad (78 + Int.toNat i)) = sF σ (Int.toNat i) := by rw [← (show frN σ (Int.toNat i) = 78 + Int.toNat i by unfold frN; rw [if_pos (by omega)])]; exact yF (Int.toNat i) (Or.inl ⟨by omega, by omega⟩)
  have gig : gd (mI M (ad 1) 0) (gT (mL M) (ad (78 + Int.toNat i))) := by rw [d1, gie]; exact hW.2.2.2.2.1 _ (Or.inl ⟨by omega, by omega⟩)
  have gje : gT (mL M) (ad (78 + Int.toNat j)) = sF σ (Int.toNat j) := by rw [← (show frN σ (Int.toNat j) = 78 + Int.toNat j by unfold frN; rw [if_pos (by omega)])]; exact yF (Int.toNat j) (Or.inl ⟨by omega, by omega⟩)
  have gjg : gd (mI M (ad 1) 0) (gT (mL M) (ad (78 + Int.toNat j))) := by rw [d1, gje]; exact hW.2.2.2.2.1 _ (Or.inl ⟨by omega, by omega⟩)
  refine q_aload_n G 0 0 dX4_multiply_26 rfl rfl ?_
  refine q_gt (v := .ref (ad 1)) G dX4_multiply_27 fl_X4_10 o0 (by decide) rfl (congrArg va_rf s0) ?_
  refine q_aload_n G 0 0 dX4_multiply_30 rfl rfl ?_
  refine q_gt (v := .ref (ad 12)) G dX4_multiply_31 fl_X4_25 o0 (by decide) rfl (congrArg va_rf s2) ?_
  refine q_iload_n G 1 1 dX4_multiply_34 rfl rfl ?_
  refine q_aaloadF G dX4_multiply_35 a12.1 a12.2.1 (by first | assumption | omega) (show (i) < ((mN M (ad 12) : Nat) : Int) by rw [a12.2.2]; omega) (show mN M (ad 12) < 2147483648 by rw [a12.2.2]; decide) ?_
  refine q_st (st2 := [.ref (ad (78 + (Int.toNat i))), .ref (ad 1)]) (congrArg (fun z => va_rf z :: _) (hC.2.2.2.2.2.2.1 (Int.toNat i) (by omega))) ?_
  refine q_aload_n G 0 0 dX4_multiply_36 rfl rfl ?_
  refine q_gt (v := .ref (ad 12)) G dX4_multiply_37 fl_X4_25 o0 (by decide) rfl (congrArg va_rf s2) ?_
  refine q_iload_n G 2 2 dX4_multiply_40 rfl rfl ?_
  refine q_aaloadF G dX4_multiply_41 a12.1 a12.2.1 (by first | assumption | omega) (show (j) < ((mN M (ad 12) : Nat) : Int) by rw [a12.2.2]; omega) (show mN M (ad 12) < 2147483648 by rw [a12.2.2]; decide) ?_
  refine q_st (st2 := [.ref (ad (78 + (Int.toNat j))), .ref (ad (78 + (Int.toNat i))), .ref (ad 1)]) (congrArg (fun z => va_rf z :: _) (hC.2.2.2.2.2.2.1 (Int.toNat j) (by omega))) ?_
  refine q_aload_n G 0 0 dX4_multiply_42 rfl rfl ?_
  refine q_gt (v := .ref (ad 12)) G dX4_multiply_43 fl_X4_25 o0 (by decide) rfl (congrArg va_rf s2) ?_
  refine q_iload_n G 3 3 dX4_multiply_46 rfl rfl ?_
  refine q_aaloadF G dX4_multiply_47 a12.1 a12.2.1 (by first | assumption | omega) (show (k) < ((mN M (ad 12) : Nat) : Int) by rw [a12.2.2]; omega) (show mN M (ad 12) < 2147483648 by rw [a12.2.2]; decide) ?_
  refine q_st (st2 := [.ref (ad (78 + (Int.toNat k))), .ref (ad (78 + (Int.toNat j))), .ref (ad (78 + (Int.toNat i))), .ref (ad 1)]) (congrArg (fun z => va_rf z :: _) (hC.2.2.2.2.2.2.1 (Int.toNat k) (by omega))) ?_
  refine q_callV (As := [.ref (ad (78 + (Int.toNat i))), .ref (ad (78 + (Int.toNat j))), .ref (ad (78 + (Int.toNat k)))]) (rest := []) G dX4_multiply_48 cw_X4_125 (c_prodT l D cy M (ad 1) (ad 2) (ad 3) (ad 4) (ad 5) (ad 6) (ad 7) (ad 8) (ad 9) (ad 10) hFO hdm (ad (78 + (Int.toNat i))) (ad (78 + (Int.toNat j))) (ad (78 + (Int.toNat k))) (CS_fm hC (show 30 ≤ 78 + Int.toNat i by omega) (by omega)) (CS_fm hC (show 30 ≤ 78 + Int.toNat j by omega) (by omega)) (CS_fm hC (show 30 ≤ 78 + Int.toNat k by omega) (by omega)) (CS_ne hC (by omega) (by decide) (by omega)) gig gjg) o1.1 o1.2 (by decide) rfl rfl rfl (Nat.le_of_ble_eq_true rfl) rfl rfl ⟨Nat.le_of_ble_eq_true rfl, Nat.le_of_ble_eq_true rfl⟩ ⟨by decide, by decide⟩ (fun v9 M9 hq9 => ?_)
  obtain ⟨rfl, L1, e9, fr1, v1, g1, r1⟩ := hq9
  refine q_st (st2 := []) rfl ?_
  refine q_mem (M2 := wL M L1) e9 ?_
  rw [gie, gje] at v1
  refine q_aload_n G 0 0 dX4_multiply_51 rfl rfl ?_
  refine q_gt (v := .ref (ad 13)) G dX4_multiply_52 fl_X4_30 o0 (by decide) rfl (congrArg va_rf s3) ?_
  refine q_iload_n G 3 3 dX4_multiply_55 rfl rfl ?_
  refine q_iconst G dX4_multiply_56 ?_
  refine q_bastore G dX4_multiply_57 a13.1 a13.2.1 (by first | assumption | omega) (show (k) < ((mN M (ad 13) : Nat) : Int) by rw [a13.2.2]; omega) (show mN M (ad 13) < 2147483648 by rw [a13.2.2]; decide) (by decide +kernel) ?_
  refine q_retX ?_
  exact q_vret G dX4_multiply_58 hret (by omega) (by omega) (⟨(by unfold e_13; omega), ⟨up2 (mI M) (ad 13) (Int.toNat k) 1, L1, mR M, rfl, fun b hb => ⟨up2_row _ _ (hb 13 (by decide)), frA_o (frA_4 fr1) (by intro s hs; simp at hs; omega) hb, rfl⟩, hC, CD_S (j := Int.toNat k) (t := mulT (sF σ (Int.toNat i)) (sF σ (Int.toNat j))) hC hW hY (by omega) (frA_4 fr1) (by intro s hs; simp at hs; omega) (v1), rfl⟩⟩)
set_option maxRecDepth 100000 in
set_option maxHeartbeats 4000000 in
theorem c_X4_raise (l : Launch) (hl : l.stackTraces = false) (D : va_G) (cy : Nat → ClassId) (M : qM) (ad : Nat → Nat) (hC : CSt M ad) (σ : qS) (hY : CDy σ ad (mI M) (mL M) (mR M)) (hW : WF σ) (i n k : Int) (hi : r32 i) (hn : r32 n) (hk : r32 k) : qCx l D cy yX4_raise cX4_raise 4 none { frames := 7, cells := 5, slots := 30, locals := 127 } 5 30 [.ref (ad 0), .int (qI (i)), .int (qI (n)), .int (qI (k))] M (fun v M' => e_14 σ i n k = 0 ∧ poC M ad (n_14 σ i n k) (fun v => v = none) v M') (fun E => (E = sIS ∧ e_14 σ i n k = 1) ∨ (E = sIO ∧ e_14 σ i n k = 2) ∨ (E = sIA ∧ e_14 σ i n k = 3) ∨ (E = sNS ∧ e_14 σ i n k = 4)) := by
  refine qCx_of (lv0 := [(0, .ref (ad 0)), (1, .int (qI (i))), (2, .int (qI (n))), (3, .int (qI (k)))]) (by decide) rfl (Nat.le_of_ble_eq_true rfl) ?_
  intro p e s m args below meth c G ht hret
  obtain ⟨⟨y4, y5, y6⟩, yD, yV, yF, yB, yR, -⟩ := id hY
  obtain ⟨w1, w2, w3⟩ := WF_n hW
  have o0 := CS_x hC
  have o1 := CS_fo hC
  have a11 := CS_a1 hC
  have a12 := CS_a2 hC
  have a13 := CS_a3 hC
  obtain ⟨s0, s1, s2, s3⟩ := hC.2.2.2.1
  have z4 : mI M (ad 0) 4 = 0 ∨ mI M (ad 0) 4 = 1 := by omega
  refine q_aload_n G 0 0 dX4_raise_0 rfl rfl ?_
  refine q_callVX (As := []) (rest := []) G dX4_raise_1 cw_X4_63 (c_X4_needDiscriminant l hl D cy M (ad 0) o0 z4) o0.1 o0.2 (by decide) rfl rfl rfl (Nat.le_of_ble_eq_true rfl) rfl rfl ⟨Nat.le_of_ble_eq_true rfl, Nat.le_of_ble_eq_true rfl⟩ ⟨by decide, by decide⟩ (fun E9 ce9 q9 H9 lc9 ls9 hx9 h91 h92 h93 h94 h95 h96 h97 => q_outX G ht (Or.inl (⟨hx9.1, by have h9 := hx9.2; unfold e_14; omega⟩)) h91 h93 h95 h96 h97 (by omega) (by omega)) (fun v9 M9 hq9 => ?_)
  obtain ⟨⟨rfl, e9⟩, zD⟩ := hq9
  refine q_st (st2 := []) rfl ?_
  refine q_mem e9 ?_
  refine q_iload_n G 1 1 dX4_raise_4 rfl rfl ?_
  refine q_callSX (As := [.int (qI (i))]) (rest := []) G dX4_raise_5 cw_X4_170 (c_X4_needSlot l hl D cy M i (by omega)) rfl rfl (Nat.le_of_ble_eq_true rfl) rfl rfl ⟨Nat.le_of_ble_eq_true rfl, Nat.le_of_ble_eq_true rfl⟩ ⟨by decide, by decide⟩ (fun E9 ce9 q9 H9 lc9 ls9 hx9 h91 h92 h93 h94 h95 h96 h97 => q_outX G ht (Or.inr (Or.inl (⟨hx9.1, by have h9 := hx9.2; unfold e_14; omega⟩))) h91 h93 h95 h96 h97 (by omega) (by omega)) (fun v9 M9 hq9 => ?_)
  obtain ⟨⟨rfl, e9⟩, zI⟩ := hq9
  refine q_st (st2 := []) rfl ?_
  refine q_mem e9 ?_
  refine q_iload_n G 3 3 dX4_raise_8 rfl rfl ?_
  refine q_callSX (As := [.int (qI (k))]) (rest := []) G dX4_raise_9 cw_X4_170 (c_X4_needSlot l hl D cy M k (by omega)) rfl rfl (Nat.le_of_ble_eq_true rfl) rfl rfl ⟨Nat.le_of_ble_eq_true rfl, Nat.le_of_ble_eq_true rfl⟩ ⟨by decide, by decide⟩ (fun E9 ce9 q9 H9 lc9 ls9 hx9 h91 h92 h93 h94 h95 h96 h97 => q_outX G ht (Or.inr (Or.inl (⟨hx9.1, by have h9 := hx9.2; unfold e_14; omega⟩))) h91 h93 h95 h96 h97 (by omega) (by omega)) (fun v9 M9 hq9 => ?_)
  obtain ⟨⟨rfl, e9⟩, zK⟩ := hq9
  refine q_st (st2 := []) rfl ?_
  refine q_mem e9 ?_
  refine q_iload_n G 2 2 dX4_raise_12 rfl rfl ?_
  refine q_if_ge (tgt := 26) G dX4_raise_13 (by decide) (by first | assumption | omega) (fun c1 => ?_) (fun c1 => ?_)
  · refine q_aload_n G 0 0 dX4_raise_26 rfl rfl ?_
    refine q_iload_n G 1 1 dX4_raise_27 rfl rfl ?_
    refine q_callVX (As := [.int (qI (i))]) (rest := []) G dX4_raise_28 cw_X4_185 (c_X4_needFilled l hl D cy M (ad 0) (ad 13) i o0 s3 a13 (by omega) (by have h9 := yV (Int.toNat i) (by omega); have h8 := hW.2.2.2.1 (Int.toNat i) (by omega); omega)) o0.1 o0.2 (by decide) rfl rfl rfl (Nat.le_of_ble_eq_true rfl) rfl rfl ⟨Nat.le_of_ble_eq_true rfl, Nat.le_of_ble_eq_true rfl⟩ ⟨by decide, by decide⟩ (fun E9 ce9 q9 H9 lc9 ls9 hx9 h91 h92 h93 h94 h95 h96 h97 => q_outX G ht (Or.inr (Or.inr (Or.inr (⟨hx9.1, by have h9 := hx9.2; have h8 := yV (Int.toNat i) (by omega); unfold e_14; omega⟩)))) h91 h93 h95 h96 h97 (by omega) (by omega)) (fun v9 M9 hq9 => ?_)
    obtain ⟨⟨rfl, e9⟩, zF⟩ := hq9
    refine q_st (st2 := []) rfl ?_
    refine q_mem e9 ?_
    have zFv := yV (Int.toNat i) (by omega)
    have zFw := hW.2.2.2.1 (Int.toNat i) (by omega)
    have hD0 : sD σ ≠ 0 := by omega
    have hd : dOk (sD σ) := by rcases hW.1 with h9 | h9; exact absurd h9 hD0; exact h9
    obtain ⟨d1, d2, d3⟩ := yD hD0
    have hd7 := hd.1
    have hd9 := hd.2.1
    have hdm : dOk (mI M (ad 1) 0) := by rw [d1]; exact hd
    have hFO := CS_FO hC (by omega)
    have hun : gT (mL M) (ad 2) = unT (mI M (ad 1) 0) := by rw [d1]; exact d2
    have hge : gd (mI M (ad 1) 0) (gT (mL M) (ad 3)) := by rw [d1, d3]; exact (geT_gd hd).1
    have gie : gT (mL M) (ad (78 + Int.toNat i)) = sF σ (Int.toNat i) := by rw [← (show frN σ (Int.toNat i) = 78 + Int.toNat i by unfold frN; rw [if_pos (by omega)])]; exact yF (Int.toNat i) (Or.inl ⟨by omega, by omega⟩)
    have gig : gd (mI M (ad 1) 0) (gT (mL M) (ad (78 + Int.toNat i))) := by rw [d1, gie]; exact hW.2.2.2.2.1 _ (Or.inl ⟨by omega, by omega⟩)
    refine q_aload_n G 0 0 dX4_raise_31 rfl rfl ?_
    refine q_gt (v := .ref (ad 1)) G dX4_raise_32 fl_X4_10 o0 (by decide) rfl (congrArg va_rf s0) ?_
    refine q_aload_n G 0 0 dX4_raise_35 rfl rfl ?_
    refine q_gt (v := .ref (ad 12)) G dX4_raise_36 fl_X4_25 o0 (by decide) rfl (congrArg va_rf s2) ?_
    refine q_iload_n G 1 1 dX4_raise_39 rfl rfl ?_
    refine q_aaloadF G dX4_raise_40 a12.1 a12.2.1 (by first | assumption | omega) (show (i) < ((mN M (ad 12) : Nat) : Int) by rw [a12.2.2]; omega) (show mN M (ad 12) < 2147483648 by rw [a12.2.2]; decide) ?_
    refine q_st (st2 := [.ref (ad (78 + (Int.toNat i))), .ref (ad 1)]) (congrArg (fun z => va_rf z :: _) (hC.2.2.2.2.2.2.1 (Int.toNat i) (by omega))) ?_
    refine q_iload_n G 2 2 dX4_raise_41 rfl rfl ?_
    refine q_aload_n G 0 0 dX4_raise_42 rfl rfl ?_
    refine q_gt (v := .ref (ad 12)) G dX4_raise_43 fl_X4_25 o0 (by decide) rfl (congrArg va_rf s2) ?_
    refine q_iload_n G 3 3 dX4_raise_46 rfl rfl ?_
    refine q_aaloadF G dX4_raise_47 a12.1 a12.2.1 (by first | assumption | omega) (show (k) < ((mN M (ad 12) : Nat) : Int) by rw [a12.2.2]; omega) (show mN M (ad 12) < 2147483648 by rw [a12.2.2]; decide) ?_
    refine q_st (st2 := [.ref (ad (78 + (Int.toNat k))), .int (qI (n)), .ref (ad (78 + (Int.toNat i))), .ref (ad 1)]) (congrArg (fun z => va_rf z :: _) (hC.2.2.2.2.2.2.1 (Int.toNat k) (by omega))) ?_
    refine q_callV (As := [.ref (ad (78 + (Int.toNat i))), .int (qI (n)), .ref (ad (78 + (Int.toNat k)))]) (rest := []) G dX4_raise_48 cw_X4_100 (c_X2_power l D cy M (ad 1) (ad 2) (ad 3) (ad 4) (ad 5) (ad 6) (ad 7) (ad 8) (ad 9) (ad 10) hFO hdm hun (ad (78 + (Int.toNat i))) (ad (78 + (Int.toNat k))) n (CS_fm hC (show 30 ≤ 78 + Int.toNat i by omega) (by omega)) (CS_fm hC (show 30 ≤ 78 + Int.toNat k by omega) (by omega)) (by omega) gig) o1.1 o1.2 (by decide) rfl rfl rfl (Nat.le_of_ble_eq_true rfl) rfl rfl ⟨Nat.le_of_ble_eq_true rfl, Nat.le_of_ble_eq_true rfl⟩ ⟨by decide, by decide⟩ (fun v9 M9 hq9 => ?_)
    obtain ⟨rfl, L1, e9, fr1, v1, g1⟩ := hq9
    refine q_st (st2 := []) rfl ?_
    refine q_mem (M2 := wL M L1) e9 ?_
    rw [gie, d1] at v1
    refine q_aload_n G 0 0 dX4_raise_51 rfl rfl ?_
    refine q_gt (v := .ref (ad 13)) G dX4_raise_52 fl_X4_30 o0 (by decide) rfl (congrArg va_rf s3) ?_
    refine q_iload_n G 3 3 dX4_raise_55 rfl rfl ?_
    refine q_iconst G dX4_raise_56 ?_
    refine q_bastore G dX4_raise_57 a13.1 a13.2.1 (by first | assumption | omega) (show (k) < ((mN M (ad 13) : Nat) : Int) by rw [a13.2.2]; omega) (show mN M (ad 13) < 2147483648 by rw [a13.2.2]; decide) (by decide +kernel) ?_
    refine q_retX ?_
    exact q_vret G dX4_raise_58 hret (by omega) (by omega) (⟨(by unfold e_14; omega), ⟨up2 (mI M) (ad 13) (Int.toNat k) 1, L1, mR M, rfl, fun b hb => ⟨up2_row _ _ (hb 13 (by decide)), frA_o (frA_6 fr1) (by intro s hs; simp at hs; omega) hb, rfl⟩, hC, CD_S (j := Int.toNat k) (t := powT (unT (sD σ)) (sF σ (Int.toNat i)) n) hC hW hY (by omega) (frA_6 fr1) (by intro s hs; simp at hs; omega) (v1), rfl⟩⟩)
  · exact q_throw (P0 := []) G hl qt_47_191 (Or.inr (Or.inr (Or.inl (⟨rfl, by unfold e_14; omega⟩)))) dX4_raise_16 dX4_raise_19 dX4_raise_20 dX4_raise_22 dX4_raise_25 ht (by decide) (by decide) (by decide) (by decide) (by omega) (by omega)
set_option maxRecDepth 100000 in
set_option maxHeartbeats 4000000 in
theorem c_X4_reduce (l : Launch) (hl : l.stackTraces = false) (D : va_G) (cy : Nat → ClassId) (M : qM) (ad : Nat → Nat) (hC : CSt M ad) (σ : qS) (hY : CDy σ ad (mI M) (mL M) (mR M)) (hW : WF σ) (i k : Int) (hi : r32 i) (hk : r32 k) : qCx l D cy yX4_reduce cX4_reduce 3 none { frames := 7, cells := 4, slots := 24, locals := 111 } 4 24 [.ref (ad 0), .int (qI (i)), .int (qI (k))] M (fun v M' => e_11 σ i k = 0 ∧ poC M ad (n_12 σ i k) (fun v => v = none) v M') (fun E => (E = sIS ∧ e_11 σ i k = 1) ∨ (E = sIO ∧ e_11 σ i k = 2) ∨ (E = sNS ∧ e_11 σ i k = 3)) := by
  refine qCx_of (lv0 := [(0, .ref (ad 0)), (1, .int (qI (i))), (2, .int (qI (k)))]) (by decide) rfl (Nat.le_of_ble_eq_true rfl) ?_
  intro p e s m args below meth c G ht hret
  obtain ⟨⟨y4, y5, y6⟩, yD, yV, yF, yB, yR, -⟩ := id hY
  obtain ⟨w1, w2, w3⟩ := WF_n hW
  have o0 := CS_x hC
  have o1 := CS_fo hC
  have a11 := CS_a1 hC
  have a12 := CS_a2 hC
  have a13 := CS_a3 hC
  obtain ⟨s0, s1, s2, s3⟩ := hC.2.2.2.1
  have z4 : mI M (ad 0) 4 = 0 ∨ mI M (ad 0) 4 = 1 := by omega
  refine q_aload_n G 0 0 dX4_reduce_0 rfl rfl ?_
  refine q_callVX (As := []) (rest := []) G dX4_reduce_1 cw_X4_63 (c_X4_needDiscriminant l hl D cy M (ad 0) o0 z4) o0.1 o0.2 (by decide) rfl rfl rfl (Nat.le_of_ble_eq_true rfl) rfl rfl ⟨Nat.le_of_ble_eq_true rfl, Nat.le_of_ble_eq_true rfl⟩ ⟨by decide, by decide⟩ (fun E9 ce9 q9 H9 lc9 ls9 hx9 h91 h92 h93 h94 h95 h96 h97 => q_outX G ht (Or.inl (⟨hx9.1, by have h9 := hx9.2; unfold e_11; omega⟩)) h91 h93 h95 h96 h97 (by omega) (by omega)) (fun v9 M9 hq9 => ?_)
  obtain ⟨⟨rfl, e9⟩, zD⟩ := hq9
  refine q_st (st2 := []) rfl ?_
  refine q_mem e9 ?_
  refine q_iload_n G 1 1 dX4_reduce_4 rfl rfl ?_
  refine q_callSX (As := [.int (qI (i))]) (rest := []) G dX4_reduce_5 cw_X4_170 (c_X4_needSlot l hl D cy M i (by omega)) rfl rfl (Nat.le_of_ble_eq_true rfl) rfl rfl ⟨Nat.le_of_ble_eq_true rfl, Nat.le_of_ble_eq_true rfl⟩ ⟨by decide, by decide⟩ (fun E9 ce9 q9 H9 lc9 ls9 hx9 h91 h92 h93 h94 h95 h96 h97 => q_outX G ht (Or.inr (Or.inl (⟨hx9.1, by have h9 := hx9.2; unfold e_11; omega⟩))) h91 h93 h95 h96 h97 (by omega) (by omega)) (fun v9 M9 hq9 => ?_)
  obtain ⟨⟨rfl, e9⟩, zI⟩ := hq9
  refine q_st (st2 := []) rfl ?_
  refine q_mem e9 ?_
  refine q_iload_n G 2 2 dX4_reduce_8 rfl rfl ?_
  refine q_callSX (As := [.int (qI (k))]) (rest := []) G dX4_reduce_9 cw_X4_170 (c_X4_needSlot l hl D cy M k (by omega)) rfl rfl (Nat.le_of_ble_eq_true rfl) rfl rfl ⟨Nat.le_of_ble_eq_true rfl, Nat.le_of_ble_eq_true rfl⟩ ⟨by decide, by decide⟩ (fun E9 ce9 q9 H9 lc9 ls9 hx9 h91 h92 h93 h94 h95 h96 h97 => q_outX G ht (Or.inr (Or.inl (⟨hx9.1, by have h9 := hx9.2; unfold e_11; omega⟩))) h91 h93 h95 h96 h97 (by omega) (by omega)) (fun v9 M9 hq9 => ?_)
  obtain ⟨⟨rfl, e9⟩, zK⟩ := hq9
  refine q_st (st2 := []) rfl ?_
  refine q_mem e9 ?_
  refine q_aload_n G 0 0 dX4_reduce_12 rfl rfl ?_
  refine q_iload_n G 1 1 dX4_reduce_13 rfl rfl ?_
  refine q_callVX (As := [.int (qI (i))]) (rest := []) G dX4_reduce_14 cw_X4_185 (c_X4_needFilled l hl D cy M (ad 0) (ad 13) i o0 s3 a13 (by omega) (by have h9 := yV (Int.toNat i) (by omega); have h8 := hW.2.2.2.1 (Int.toNat i) (by omega); omega)) o0.1 o0.2 (by decide) rfl rfl rfl (Nat.le_of_ble_eq_true rfl) rfl rfl ⟨Nat.le_of_ble_eq_true rfl, Nat.le_of_ble_eq_true rfl⟩ ⟨by decide, by decide⟩ (fun E9 ce9 q9 H9 lc9 ls9 hx9 h91 h92 h93 h94 h95 h96 h97 => q_outX G ht (Or.inr (Or.inr (⟨hx9.1, by have h9 := hx9.2; have h8 := yV (Int.toNat i) (by omega); unfold e_11; omega⟩))) h91 h93 h95 h96 h97 (by omega) (by omega)) (fun v9 M9 hq9 => ?_)
  obtain ⟨⟨rfl, e9⟩, zF⟩ := hq9
  refine q_st (st2 := []) rfl ?_
  refine q_mem e9 ?_
  have zFv := yV (Int.toNat i) (by omega)
  have zFw := hW.2.2.2.1 (Int.toNat i) (by omega)
  have hD0 : sD σ ≠ 0 := by omega
  have hd : dOk (sD σ) := by rcases hW.1 with h9 | h9; exact absurd h9 hD0; exact h9
  obtain ⟨d1, d2, d3⟩ := yD hD0
  have hd7 := hd.1
  have hd9 := hd.2.1
  have hdm : dOk (mI M (ad 1) 0) := by rw [d1]; exact hd
  have hFO := CS_FO hC (by omega)
  have hun : gT (mL M) (ad 2) = unT (mI M (ad 1) 0) := by rw [d1]; exact d2
  have hge : gd (mI M (ad 1) 0) (gT (mL M) (ad 3)) := by rw [d1, d3]; exact (geT_gd hd).1
  have gie : gT (mL M) (ad (78 + Int.toNat i)) = sF σ (Int.toNat i) := by rw [← (show frN σ (Int.toNat i) = 78 + Int.toNat i by unfold frN; rw [if_pos (by omega)])]; exact yF (Int.toNat i) (Or.inl ⟨by omega, by omega⟩)
  have gig : gd (mI M (ad 1) 0) (gT (mL M) (ad (78 + Int.toNat i))) := by rw [d1, gie]; exact hW.2.2.2.2.1 _ (Or.inl ⟨by omega, by omega⟩)
  refine q_aload_n G 0 0 dX4_reduce_17 rfl rfl ?_
  refine q_gt (v := .ref (ad 12)) G dX4_reduce_18 fl_X4_25 o0 (by decide) rfl (congrArg va_rf s2) ?_
  refine q_iload_n G 2 2 dX4_reduce_21 rfl rfl ?_
  refine q_aaloadF G dX4_reduce_22 a12.1 a12.2.1 (by first | assumption | omega) (show (k) < ((mN M (ad 12) : Nat) : Int) by rw [a12.2.2]; omega) (show mN M (ad 12) < 2147483648 by rw [a12.2.2]; decide) ?_
  refine q_st (st2 := [.ref (ad (78 + (Int.toNat k)))]) (congrArg (fun z => va_rf z :: _) (hC.2.2.2.2.2.2.1 (Int.toNat k) (by omega))) ?_
  refine q_aload_n G 0 0 dX4_reduce_23 rfl rfl ?_
  refine q_gt (v := .ref (ad 12)) G dX4_reduce_24 fl_X4_25 o0 (by decide) rfl (congrArg va_rf s2) ?_
  refine q_iload_n G 1 1 dX4_reduce_27 rfl rfl ?_
  refine q_aaloadF G dX4_reduce_28 a12.1 a12.2.1 (by first | assumption | omega) (show (i) < ((mN M (ad 12) : Nat) : Int) by rw [a12.2.2]; omega) (show mN M (ad 12) < 2147483648 by rw [a12.2.2]; decide) ?_
  refine q_st (st2 := [.ref (ad (78 + (Int.toNat i))), .ref (ad (78 + (Int.toNat k)))]) (congrArg (fun z => va_rf z :: _) (hC.2.2.2.2.2.2.1 (Int.toNat i) (by omega))) ?_
  refine q_callV (As := [.ref (ad (78 + (Int.toNat i)))]) (rest := []) G dX4_reduce_29 cw_X4_107 (c_X1_become l D cy M (ad (78 + (Int.toNat k))) (ad (78 + (Int.toNat i))) (CS_fm hC (show 30 ≤ 78 + Int.toNat k by omega) (by omega)) (CS_fm hC (show 30 ≤ 78 + Int.toNat i by omega) (by omega))) (CS_fm hC (show 30 ≤ 78 + Int.toNat k by omega) (by omega)).1 (CS_fm hC (show 30 ≤ 78 + Int.toNat k by omega) (by omega)).2 (by decide) rfl rfl rfl (Nat.le_of_ble_eq_true rfl) rfl rfl ⟨Nat.le_of_ble_eq_true rfl, Nat.le_of_ble_eq_true rfl⟩ ⟨by decide, by decide⟩ (fun v9 M9 hq9 => ?_)
  obtain ⟨rfl, e9⟩ := hq9
  refine q_mem e9 ?_
  refine q_st (st2 := []) rfl ?_
  refine q_aload_n G 0 0 dX4_reduce_32 rfl rfl ?_
  refine q_gt (v := .ref (ad 1)) G dX4_reduce_33 fl_X4_10 o0 (by decide) rfl (congrArg va_rf s0) ?_
  refine q_aload_n G 0 0 dX4_reduce_36 rfl rfl ?_
  refine q_gt (v := .ref (ad 12)) G dX4_reduce_37 fl_X4_25 o0 (by decide) rfl (congrArg va_rf s2) ?_
  refine q_iload_n G 2 2 dX4_reduce_40 rfl rfl ?_
  refine q_aaloadF G dX4_reduce_41 a12.1 a12.2.1 (by first | assumption | omega) (show (k) < ((mN M (ad 12) : Nat) : Int) by rw [a12.2.2]; omega) (show mN M (ad 12) < 2147483648 by rw [a12.2.2]; decide) ?_
  refine q_st (st2 := [.ref (ad (78 + (Int.toNat k))), .ref (ad 1)]) (congrArg (fun z => va_rf z :: _) (hC.2.2.2.2.2.2.1 (Int.toNat k) (by omega))) ?_
  refine q_callV (As := [.ref (ad (78 + (Int.toNat k)))]) (rest := []) G dX4_reduce_42 cw_X4_188 (c_X2_settle l D cy (wL M (stF (mL M) (ad (78 + Int.toNat k)) (mL M (ad (78 + Int.toNat i)) 0) (mL M (ad (78 + Int.toNat i)) 1) (mL M (ad (78 + Int.toNat i)) 2))) (ad 1) (ad (78 + (Int.toNat k))) o1 (CS_fm hC (show 30 ≤ 78 + Int.toNat k by omega) (by omega)) (show 0 < mI M (ad 1) 0 by omega) (show mI M (ad 1) 0 ≤ 1000000000 by omega) (by show sOk (mI M (ad 1) 0) (stF (mL M) (ad (78 + Int.toNat k)) (mL M (ad (78 + Int.toNat i)) 0) (mL M (ad (78 + Int.toNat i)) 1) (mL M (ad (78 + Int.toNat i)) 2) (ad (78 + Int.toNat k)) 0) (stF (mL M) (ad (78 + Int.toNat k)) (mL M (ad (78 + Int.toNat i)) 0) (mL M (ad (78 + Int.toNat i)) 1) (mL M (ad (78 + Int.toNat i)) 2) (ad (78 + Int.toNat k)) 1) (stF (mL M) (ad (78 + Int.toNat k)) (mL M (ad (78 + Int.toNat i)) 0) (mL M (ad (78 + Int.toNat i)) 1) (mL M (ad (78 + Int.toNat i)) 2) (ad (78 + Int.toNat k)) 2); rw [stF_0, stF_1, stF_2]; exact gig.1)) o1.1 o1.2 (by decide) rfl rfl rfl (Nat.le_of_ble_eq_true rfl) rfl rfl ⟨Nat.le_of_ble_eq_true rfl, Nat.le_of_ble_eq_true rfl⟩ ⟨by decide, by decide⟩ (fun v9 M9 hq9 => ?_)
  obtain ⟨rfl, la, lb, lc, e9, rd1, ps1, eq1⟩ := hq9
  refine q_st (st2 := []) rfl ?_
  refine q_mem (M2 := wL M (stF (stF (mL M) (ad (78 + Int.toNat k)) (mL M (ad (78 + Int.toNat i)) 0) (mL M (ad (78 + Int.toNat i)) 1) (mL M (ad (78 + Int.toNat i)) 2)) (ad (78 + Int.toNat k)) la lb lc)) e9 ?_
  replace eq1 : fEq (stF (mL M) (ad (78 + Int.toNat k)) (mL M (ad (78 + Int.toNat i)) 0) (mL M (ad (78 + Int.toNat i)) 1) (mL M (ad (78 + Int.toNat i)) 2) (ad (78 + Int.toNat k)) 0) (stF (mL M) (ad (78 + Int.toNat k)) (mL M (ad (78 + Int.toNat i)) 0) (mL M (ad (78 + Int.toNat i)) 1) (mL M (ad (78 + Int.toNat i)) 2) (ad (78 + Int.toNat k)) 1) (stF (mL M) (ad (78 + Int.toNat k)) (mL M (ad (78 + Int.toNat i)) 0) (mL M (ad (78 + Int.toNat i)) 1) (mL M (ad (78 + Int.toNat i)) 2) (ad (78 + Int.toNat k)) 2) la lb lc := eq1
  rw [stF_0, stF_1, stF_2] at eq1
  have hrd : rdOf (sF σ (Int.toNat i)) (la, lb, lc) := by rw [← gie]; exact ⟨rd1, ps1, eq1⟩
  refine q_aload_n G 0 0 dX4_reduce_45 rfl rfl ?_
  refine q_gt (v := .ref (ad 13)) G dX4_reduce_46 fl_X4_30 o0 (by decide) rfl (congrArg va_rf s3) ?_
  refine q_iload_n G 2 2 dX4_reduce_49 rfl rfl ?_
  refine q_iconst G dX4_reduce_50 ?_
  refine q_bastore G dX4_reduce_51 a13.1 a13.2.1 (by first | assumption | omega) (show (k) < ((mN M (ad 13) : Nat) : Int) by rw [a13.2.2]; omega) (show mN M (ad 13) < 2147483648 by rw [a13.2.2]; decide) (by decide +kernel) ?_
  refine q_retX ?_
  exact q_vret G dX4_reduce_52 hret (by omega) (by omega) (⟨(by unfold e_11; omega), ⟨up2 (mI M) (ad 13) (Int.toNat k) 1, stF (stF (mL M) (ad (78 + Int.toNat k)) (mL M (ad (78 + Int.toNat i)) 0) (mL M (ad (78 + Int.toNat i)) 1) (mL M (ad (78 + Int.toNat i)) 2)) (ad (78 + Int.toNat k)) la lb lc, mR M, rfl, fun b hb => ⟨up2_row _ _ (hb 13 (by decide)), frA_o (frA_tr (frA_st (S := [78 + Int.toNat k]) (78 + Int.toNat k) (by simp) _ _ _) (frA_st (78 + Int.toNat k) (by simp) _ _ _)) (by intro s hs; simp at hs; omega) hb, rfl⟩, hC, CD_S (j := Int.toNat k) (t := redT (sF σ (Int.toNat i))) hC hW hY (by omega) (frA_tr (frA_st (S := [78 + Int.toNat k]) (78 + Int.toNat k) (by simp) _ _ _) (frA_st (78 + Int.toNat k) (by simp) _ _ _)) (by intro s hs; simp at hs; omega) ((gT_stF _ _ _ _ _).trans (redT_eq hrd).symm), rfl⟩⟩)
set_option maxRecDepth 100000 in
set_option maxHeartbeats 4000000 in
theorem c_X4_order (l : Launch) (hl : l.stackTraces = false) (D : va_G) (cy : Nat → ClassId) (M : qM) (ad : Nat → Nat) (hC : CSt M ad) (σ : qS) (hY : CDy σ ad (mI M) (mL M) (mR M)) (hW : WF σ) (n : Int) (hn : r32 n) : qCx l D cy yX4_order cX4_order 2 (some .int) { frames := 7, cells := 2, slots := 12, locals := 125 } 2 12 [.ref (ad 0), .int (qI (n))] M (fun v M' => e_16 σ n = 0 ∧ poC M ad (σ) (fun v => v = some (.int (qI (a_16 σ n)))) v M') (fun E => (E = sIS ∧ e_16 σ n = 1) ∨ (E = sIA ∧ e_16 σ n = 2)) := by
  refine qCx_of (lv0 := [(0, .ref (ad 0)), (1, .int (qI (n)))]) (by decide) rfl (Nat.le_of_ble_eq_true rfl) ?_
  intro p e s m args below meth c G ht hret
  obtain ⟨⟨y4, y5, y6⟩, yD, yV, yF, yB, yR, -⟩ := id hY
  obtain ⟨w1, w2, w3⟩ := WF_n hW
  have o0 := CS_x hC
  have o1 := CS_fo hC
  have a11 := CS_a1 hC
  have a12 := CS_a2 hC
  have a13 := CS_a3 hC
  obtain ⟨s0, s1, s2, s3⟩ := hC.2.2.2.1
  have z4 : mI M (ad 0) 4 = 0 ∨ mI M (ad 0) 4 = 1 := by omega
  refine q_aload_n G 0 0 dX4_order_0 rfl rfl ?_
  refine q_callVX (As := []) (rest := []) G dX4_order_1 cw_X4_63 (c_X4_needDiscriminant l hl D cy M (ad 0) o0 z4) o0.1 o0.2 (by decide) rfl rfl rfl (Nat.le_of_ble_eq_true rfl) rfl rfl ⟨Nat.le_of_ble_eq_true rfl, Nat.le_of_ble_eq_true rfl⟩ ⟨by decide, by decide⟩ (fun E9 ce9 q9 H9 lc9 ls9 hx9 h91 h92 h93 h94 h95 h96 h97 => q_outX G ht (Or.inl (⟨hx9.1, by have h9 := hx9.2; unfold e_16; omega⟩)) h91 h93 h95 h96 h97 (by omega) (by omega)) (fun v9 M9 hq9 => ?_)
  obtain ⟨⟨rfl, e9⟩, zD⟩ := hq9
  refine q_st (st2 := []) rfl ?_
  refine q_mem e9 ?_
  refine q_iload_n G 1 1 dX4_order_4 rfl rfl ?_
  refine q_iconst G dX4_order_5 ?_
  refine q_icmp_lt (tgt := 16) G dX4_order_6 (by decide) (by first | assumption | omega) (by first | assumption | omega) (fun c1 => ?_) (fun c1 => ?_)
  · exact q_throw (P0 := []) G hl qt_47_201 (Or.inr (⟨rfl, by unfold e_16; omega⟩)) dX4_order_16 dX4_order_19 dX4_order_20 dX4_order_22 dX4_order_25 ht (by decide) (by decide) (by decide) (by decide) (by omega) (by omega)
  · refine q_iload_n G 1 1 dX4_order_9 rfl rfl ?_
    refine q_sipush G dX4_order_10 (by decide +kernel) ?_
    refine q_icmp_le (tgt := 26) G dX4_order_13 (by decide) (by first | assumption | omega) (by first | assumption | omega) (fun c2 => ?_) (fun c2 => ?_)
    · have hD0 : sD σ ≠ 0 := by omega
      have hd : dOk (sD σ) := by rcases hW.1 with h9 | h9; exact absurd h9 hD0; exact h9
      obtain ⟨d1, d2, d3⟩ := yD hD0
      have hd7 := hd.1
      have hd9 := hd.2.1
      have hdm : dOk (mI M (ad 1) 0) := by rw [d1]; exact hd
      have hFO := CS_FO hC (by omega)
      have hun : gT (mL M) (ad 2) = unT (mI M (ad 1) 0) := by rw [d1]; exact d2
      have hge : gd (mI M (ad 1) 0) (gT (mL M) (ad 3)) := by rw [d1, d3]; exact (geT_gd hd).1
      refine q_aload_n G 0 0 dX4_order_26 rfl rfl ?_
      refine q_gt (v := .ref (ad 1)) G dX4_order_27 fl_X4_10 o0 (by decide) rfl (congrArg va_rf s0) ?_
      refine q_iload_n G 1 1 dX4_order_30 rfl rfl ?_
      refine q_callV (As := [.int (qI (n))]) (rest := []) G dX4_order_31 cw_X4_203 (c_X2_generatorsOrder l D cy M (ad 1) (ad 2) (ad 3) (ad 4) (ad 5) (ad 6) (ad 7) (ad 8) (ad 9) (ad 10) hFO hdm hun hge n (by omega)) o1.1 o1.2 (by decide) rfl rfl rfl (Nat.le_of_ble_eq_true rfl) rfl rfl ⟨Nat.le_of_ble_eq_true rfl, Nat.le_of_ble_eq_true rfl⟩ ⟨by decide, by decide⟩ (fun v9 M9 hq9 => ?_)
      obtain ⟨rfl, L1, e9, fr1⟩ := hq9
      refine q_st (st2 := [.int (qI (ordN (Int.toNat n) 1 (gT (mL M) (ad 3)) (unT (mI M (ad 1) 0)) (gT (mL M) (ad 3))))]) rfl ?_
      refine q_mem (M2 := wL M L1) e9 ?_
      have fa := frA_m (S := [5, 6, 4, 7, 8, 9, 10]) fr1
      refine q_retX ?_
      exact q_iret G dX4_order_34 hret (by omega) (by omega) (⟨(by unfold e_16; omega), ⟨mI M, L1, mR M, rfl, fun b hb => ⟨rfl, frA_o fa (by intro s hs; simp at hs; omega) hb, rfl⟩, hC, CD_G hC hW hY fa (by intro s hs; simp at hs; omega), by rw [d1, d3]; rfl⟩⟩)
    · exact q_throw (P0 := []) G hl qt_47_201 (Or.inr (⟨rfl, by unfold e_16; omega⟩)) dX4_order_16 dX4_order_19 dX4_order_20 dX4_order_22 dX4_order_25 ht (by decide) (by decide) (by decide) (by decide) (by omega) (by omega)
