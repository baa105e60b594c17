theorem gd_rT {d : Int} (hd0 : 0 < d) {L : Nat → Nat → Int} {a : Nat} (g : gd d (gT L a)) : r63 (L a 0) ∧ r63 (L a 1) ∧ r63 (L a 2) := gd_r (L := fun q _ => L a q) (qa := 0) (qb := 1) (qc := 2) (i := 0) hd0 g
theorem gT_iff {L : Nat → Nat → Int} {a b : Nat} : (L a 0 = L b 0 ∧ L a 1 = L b 1 ∧ L a 2 = L b 2) ↔ gT L a = gT L b := by
  unfold gT; constructor
  · intro h; rw [h.1, h.2.1, h.2.2]
  · intro h; exact ⟨congrArg (fun t => t.1) h, congrArg (fun t => t.2.1) h, congrArg (fun t => t.2.2) h⟩
theorem CS_nl {M : qM} {ad : Nat → Nat} (h : CSt M ad) {r : Nat} (h1 : 30 ≤ r) (h2 : r < 81) : ad r ∉ [ad 5, ad 6, ad 4, ad 7, ad 8, ad 9, ad 10] := CS_nin h h2 (S := [5, 6, 4, 7, 8, 9, 10]) (by intro s hs; simp at hs; omega)
set_option maxRecDepth 100000 in
set_option maxHeartbeats 4000000 in
theorem c_X4_verify (l : Launch) (hl : l.stackTraces = false) (D : va_G) (cy : Nat → ClassId) (M : qM) (ad : Nat → Nat) (hC : CSt M ad) (σ : qS) (hY : CDy σ ad (mI M) (mL M) (mR M)) (hW : WF σ) (r : Int) (hr : r32 r) : qCx l D cy yX4_verify cX4_verify 3 (some .boolean) { frames := 7, cells := 2, slots := 12, locals := 152 } 2 12 [.ref (ad 0), .int (qI (r))] M (fun v M' => e_9 σ r = 0 ∧ poC M ad (σ) (fun v => v = some (.int (qI (a_9 σ r)))) v M') (fun E => (E = sIS ∧ e_9 σ r = 1) ∨ (E = sIO ∧ e_9 σ r = 2)) := by
  refine qCx_of (lv0 := [(0, .ref (ad 0)), (1, .int (qI (r)))]) (by decide) rfl (Nat.le_of_ble_eq_true rfl) ?_
  intro p e s m args below meth c G ht hret
  obtain ⟨⟨y4, y5, y6⟩, yD, yV, yF, yB, yR, -⟩ := id hY
  obtain ⟨w1, w2, w3⟩ := WF_n hW
  have o0 := CS_x hC
  have o1 := CS_fo hC
  have a11 := CS_a1 hC
  have a12 := CS_a2 hC
  have a13 := CS_a3 hC
  obtain ⟨s0, s1, s2, s3⟩ := hC.2.2.2.1
  have z4 : mI M (ad 0) 4 = 0 ∨ mI M (ad 0) 4 = 1 := by omega
  refine q_aload_n G 0 0 dX4_verify_0 rfl rfl ?_
  refine q_callVX (As := []) (rest := []) G dX4_verify_1 cw_X4_63 (c_X4_needDiscriminant l hl D cy M (ad 0) o0 z4) o0.1 o0.2 (by decide) rfl rfl rfl (Nat.le_of_ble_eq_true rfl) rfl rfl ⟨Nat.le_of_ble_eq_true rfl, Nat.le_of_ble_eq_true rfl⟩ ⟨by decide, by decide⟩ (fun E9 ce9 q9 H9 lc9 ls9 hx9 h91 h92 h93 h94 h95 h96 h97 => q_outX G ht (Or.inl (⟨hx9.1, by have h9 := hx9.2; unfold e_9; omega⟩)) h91 h93 h95 h96 h97 (by omega) (by omega)) (fun v9 M9 hq9 => ?_)
  obtain ⟨⟨rfl, e9⟩, zD⟩ := hq9
  refine q_st (st2 := []) rfl ?_
  refine q_mem e9 ?_
  refine q_aload_n G 0 0 dX4_verify_4 rfl rfl ?_
  refine q_iload_n G 1 1 dX4_verify_5 rfl rfl ?_
  refine q_callVX (As := [.int (qI (r))]) (rest := []) G dX4_verify_6 cw_X4_159 (c_X4_bookedRound l hl D cy M ad hC σ hY hW r (by omega)) o0.1 o0.2 (by decide) rfl rfl rfl (Nat.le_of_ble_eq_true rfl) rfl rfl ⟨Nat.le_of_ble_eq_true rfl, Nat.le_of_ble_eq_true rfl⟩ ⟨by decide, by decide⟩ (fun E9 ce9 q9 H9 lc9 ls9 hx9 h91 h92 h93 h94 h95 h96 h97 => q_outX G ht (Or.inr (⟨hx9.1, by have h9 := hx9.2; unfold e_9; omega⟩)) h91 h93 h95 h96 h97 (by omega) (by omega)) (fun v9 M9 hq9 => ?_)
  obtain ⟨⟨rfl, e9⟩, zB⟩ := hq9
  refine q_st (st2 := [.ref (ad (14 + r.toNat))]) rfl ?_
  refine q_mem e9 ?_
  have hp : isPl σ r := Or.inr zB
  have hN := rr_lt hW hp
  have oA := CS_rd hC hN.1 hN.2
  have hrr : rrN σ r = 14 + r.toNat := by unfold rrN; rw [if_neg (by omega)]
  refine q_st (st2 := [.ref (ad (rrN σ r))]) (by rw [hrr]) ?_
  refine q_astore_n (lv' := [(2, .ref (ad (rrN σ r))), (0, .ref (ad 0)), (1, .int (qI (r)))]) G 2 dX4_verify_9 rfl (by decide) rfl ?_
  have hD0 : sD σ ≠ 0 := by omega
  have hd : dOk (sD σ) := by rcases hW.1 with h9 | h9; exact absurd h9 hD0; exact h9
  obtain ⟨d1, d2, d3⟩ := yD hD0
  have hd7 := hd.1
  have hd9 := hd.2.1
  have hdm : dOk (mI M (ad 1) 0) := by rw [d1]; exact hd
  have hFO := CS_FO hC (by omega)
  have hun : gT (mL M) (ad 2) = unT (mI M (ad 1) 0) := by rw [d1]; exact d2
  have hge : gd (mI M (ad 1) 0) (gT (mL M) (ad 3)) := by rw [d1, d3]; exact (geT_gd hd).1
  obtain ⟨t0, t1, t2⟩ := CD_t hY hp
  unfold a_7 at t0 t1 t2
  rw [if_neg (by omega), show 3 * r + 0 = 3 * r by omega] at t0
  rw [if_neg (by omega)] at t1 t2
  have f0 := (CD_f hY hp 0 (by decide)).2
  have f1 := (CD_f hY hp 1 (by decide)).2
  have f2 := (CD_f hY hp 2 (by decide)).2
  rw [show (plN r + ((0 : Nat) : Int)) = 6 + 3 * r by unfold plN; rw [if_neg (by omega)]; omega] at f0
  rw [show (plN r + ((1 : Nat) : Int)) = 6 + 3 * r + 1 by unfold plN; rw [if_neg (by omega)]; omega] at f1
  rw [show (plN r + ((2 : Nat) : Int)) = 6 + 3 * r + 2 by unfold plN; rw [if_neg (by omega)]; omega] at f2
  have lf0 : gd (sD σ) (sF σ (6 + 3 * r).toNat) := hW.2.2.2.2.1 _ (Or.inr (Or.inr ⟨by omega, by omega⟩))
  have lf1 : gd (sD σ) (sF σ (6 + 3 * r + 1).toNat) := hW.2.2.2.2.1 _ (Or.inr (Or.inr ⟨by omega, by omega⟩))
  have lf2 : gd (sD σ) (sF σ (6 + 3 * r + 2).toNat) := hW.2.2.2.2.1 _ (Or.inr (Or.inr ⟨by omega, by omega⟩))
  obtain ⟨c0, c1, c2⟩ := hW.2.2.2.2.2.1 r.toNat (by omega)
  rw [show 3 * r.toNat = (3 * r).toNat by omega] at c0
  rw [show 3 * r.toNat + 1 = (3 * r + 1).toNat by omega] at c1
  rw [show 3 * r.toNat + 2 = (3 * r + 2).toNat by omega] at c2
  refine q_aload_n G 1 0 dX4_verify_10 rfl rfl ?_
  refine q_gt (v := .ref (ad 1)) G dX4_verify_11 fl_X4_10 o0 (by decide) rfl (congrArg va_rf s0) ?_
  refine q_aload_n G 0 2 dX4_verify_14 rfl rfl ?_
  refine q_gt (v := .ref (ad (30 + 3 * (rrN σ r - 14) + 0))) G dX4_verify_15 fl_X4_97 oA (by decide) rfl (congrArg va_rf (CS_rr hC hN.1 hN.2 0 (by decide))) ?_
  refine q_aload_n G 0 2 dX4_verify_18 rfl rfl ?_
  refine q_gt (v := .int (qI (mI M (ad (rrN σ r)) 3))) G dX4_verify_19 fl_X4_90 oA (by decide) rfl rfl ?_
  refine q_callV (As := [.ref (ad (30 + 3 * (rrN σ r - 14) + 0)), .int (qI (mI M (ad (rrN σ r)) 3))]) (rest := []) G dX4_verify_22 cw_X4_162 (c_X2_isGeneratorsPower l D cy M (ad 1) (ad 2) (ad 3) (ad 4) (ad 5) (ad 6) (ad 7) (ad 8) (ad 9) (ad 10) hFO hdm hun (ad (30 + 3 * (rrN σ r - 14) + 0)) (mI M (ad (rrN σ r)) 3) (CS_fm hC (show 30 ≤ 30 + 3 * (rrN σ r - 14) + 0 by omega) (by omega)) (by omega) hge (by rw [d1, f0]; exact lf0) (CS_nl hC (show 30 ≤ 30 + 3 * (rrN σ r - 14) + 0 by omega) (by omega))) o1.1 o1.2 (by decide) rfl rfl rfl (Nat.le_of_ble_eq_true rfl) rfl rfl ⟨Nat.le_of_ble_eq_true rfl, Nat.le_of_ble_eq_true rfl⟩ ⟨by decide, by decide⟩ (fun v9 M9 hq9 => ?_)
  obtain ⟨z9, rfl, hz, L1, e9, fr1⟩ := hq9
  refine q_st (st2 := [.int (qI (z9))]) rfl ?_
  refine q_mem (M2 := wL M L1) e9 ?_
  rw [d1, d3, t1, f0] at hz
  have fa := frA_m (S := [5, 6, 4, 7, 8, 9, 10]) fr1
  have un1 : gT L1 (ad 2) = unT (mI M (ad 1) 0) := by rw [frA_T fa (CS_nin hC (by decide) (by decide))]; exact hun
  have k0 : gT L1 (ad (30 + 3 * (rrN σ r - 14) + 0)) = sF σ (6 + 3 * r).toNat := (frA_T fa (CS_nl hC (show 30 ≤ 30 + 3 * (rrN σ r - 14) + 0 by omega) (by omega))).trans f0
  have k1 : gT L1 (ad (30 + 3 * (rrN σ r - 14) + 1)) = sF σ (6 + 3 * r + 1).toNat := (frA_T fa (CS_nl hC (show 30 ≤ 30 + 3 * (rrN σ r - 14) + 1 by omega) (by omega))).trans f1
  have k2 : gT L1 (ad (30 + 3 * (rrN σ r - 14) + 2)) = sF σ (6 + 3 * r + 2).toNat := (frA_T fa (CS_nl hC (show 30 ≤ 30 + 3 * (rrN σ r - 14) + 2 by omega) (by omega))).trans f2
  refine q_if_eq (tgt := 62) G dX4_verify_25 (by decide) (by omega) (fun c1 => ?_) (fun c1 => ?_)
  · refine q_iconst G dX4_verify_62 ?_
    refine q_retX ?_
    exact q_zret G dX4_verify_63 hret (by decide +kernel) (by omega) (by omega) (⟨(by unfold e_9; omega), ⟨mI M, L1, mR M, rfl, fun b hb => ⟨rfl, frA_o fa (by intro s hs; simp at hs; omega) hb, rfl⟩, hC, CD_G hC hW hY fa (by intro s hs; simp at hs; omega), by rw [show a_9 σ r = 0 from bI_0 (fun h9 => by rcases hz with h8 | h8; omega; exact h8.2 h9.1)]⟩⟩)
  · refine q_aload_n G 1 0 dX4_verify_28 rfl rfl ?_
    refine q_gt (v := .ref (ad 1)) G dX4_verify_29 fl_X4_10 o0 (by decide) rfl (congrArg va_rf s0) ?_
    refine q_aload_n G 0 2 dX4_verify_32 rfl rfl ?_
    refine q_gt (v := .ref (ad (30 + 3 * (rrN σ r - 14) + 0))) G dX4_verify_33 fl_X4_97 oA (by decide) rfl (congrArg va_rf (CS_rr hC hN.1 hN.2 0 (by decide))) ?_
    refine q_aload_n G 0 2 dX4_verify_36 rfl rfl ?_
    refine q_gt (v := .ref (ad (30 + 3 * (rrN σ r - 14) + 1))) G dX4_verify_37 fl_X4_104 oA (by decide) rfl (congrArg va_rf (CS_rr hC hN.1 hN.2 1 (by decide))) ?_
    refine q_aload_n G 0 2 dX4_verify_40 rfl rfl ?_
    refine q_gt (v := .ref (ad (30 + 3 * (rrN σ r - 14) + 2))) G dX4_verify_41 fl_X4_111 oA (by decide) rfl (congrArg va_rf (CS_rr hC hN.1 hN.2 2 (by decide))) ?_
    refine q_aload_n G 0 2 dX4_verify_44 rfl rfl ?_
    refine q_gt (v := .int (qI (mI M (ad (rrN σ r)) 4))) G dX4_verify_45 fl_X4_80 oA (by decide) rfl rfl ?_
    refine q_aload_n G 0 2 dX4_verify_48 rfl rfl ?_
    refine q_gt (v := .int (qI (mI M (ad (rrN σ r)) 0))) G dX4_verify_49 fl_X4_71 oA (by decide) rfl rfl ?_
    refine q_callV (As := [.ref (ad (30 + 3 * (rrN σ r - 14) + 0)), .ref (ad (30 + 3 * (rrN σ r - 14) + 1)), .ref (ad (30 + 3 * (rrN σ r - 14) + 2)), .int (qI (mI M (ad (rrN σ r)) 4)), .int (qI (mI M (ad (rrN σ r)) 0))]) (rest := []) G dX4_verify_52 cw_X4_166 (c_X2_holds l D cy (wL M L1) (ad 1) (ad 2) (ad 3) (ad 4) (ad 5) (ad 6) (ad 7) (ad 8) (ad 9) (ad 10) hFO hdm un1 (ad (30 + 3 * (rrN σ r - 14) + 0)) (ad (30 + 3 * (rrN σ r - 14) + 1)) (ad (30 + 3 * (rrN σ r - 14) + 2)) (mI M (ad (rrN σ r)) 4) (mI M (ad (rrN σ r)) 0) (CS_fm hC (show 30 ≤ 30 + 3 * (rrN σ r - 14) + 0 by omega) (by omega)) (CS_fm hC (show 30 ≤ 30 + 3 * (rrN σ r - 14) + 1 by omega) (by omega)) (CS_fm hC (show 30 ≤ 30 + 3 * (rrN σ r - 14) + 2 by omega) (by omega)) (by omega) (by omega) (show gd (mI M (ad 1) 0) (gT L1 (ad (30 + 3 * (rrN σ r - 14) + 0))) by rw [d1, k0]; exact lf0) (show gd (mI M (ad 1) 0) (gT L1 (ad (30 + 3 * (rrN σ r - 14) + 1))) by rw [d1, k1]; exact lf1) (show gd (mI M (ad 1) 0) (gT L1 (ad (30 + 3 * (rrN σ r - 14) + 2))) by rw [d1, k2]; exact lf2) (CS_nl hC (show 30 ≤ 30 + 3 * (rrN σ r - 14) + 0 by omega) (by omega)) (CS_nl hC (show 30 ≤ 30 + 3 * (rrN σ r - 14) + 1 by omega) (by omega))) o1.1 o1.2 (by decide) rfl rfl rfl (Nat.le_of_ble_eq_true rfl) rfl rfl ⟨Nat.le_of_ble_eq_true rfl, Nat.le_of_ble_eq_true rfl⟩ ⟨by decide, by decide⟩ (fun v9 M9 hq9 => ?_)
    obtain ⟨z8, rfl, hz2, L2, e9, fr2⟩ := hq9
    refine q_st (st2 := [.int (qI (z8))]) rfl ?_
    refine q_mem (M2 := wL M L2) e9 ?_
    replace hz2 : (z8 = 1 ∧ hdT (sD σ) (sF σ (6 + 3 * r).toNat) (sF σ (6 + 3 * r + 1).toNat) (sF σ (6 + 3 * r + 2).toNat) (sC σ (3 * r).toNat) (sC σ (3 * r + 2).toNat)) ∨ (z8 = 0 ∧ ¬ hdT (sD σ) (sF σ (6 + 3 * r).toNat) (sF σ (6 + 3 * r + 1).toNat) (sF σ (6 + 3 * r + 2).toNat) (sC σ (3 * r).toNat) (sC σ (3 * r + 2).toNat)) := by rw [← k0, ← k1, ← k2, ← t0, ← t2, ← d1]; exact hz2
    have fb := frA_tr fa (frA_m (M := wL M L1) (S := [5, 6, 4, 7, 8, 9, 10]) fr2)
    refine q_if_eq (tgt := 62) G dX4_verify_55 (by decide) (by omega) (fun c2 => ?_) (fun c2 => ?_)
    · refine q_iconst G dX4_verify_62 ?_
      refine q_retX ?_
      exact q_zret G dX4_verify_63 hret (by decide +kernel) (by omega) (by omega) (⟨(by unfold e_9; omega), ⟨mI M, L2, mR M, rfl, fun b hb => ⟨rfl, frA_o fb (by intro s hs; simp at hs; omega) hb, rfl⟩, hC, CD_G hC hW hY fb (by intro s hs; simp at hs; omega), by rw [show a_9 σ r = 0 from bI_0 (fun h9 => by rcases hz2 with h8 | h8; omega; exact h8.2 h9.2)]⟩⟩)
    · refine q_iconst G dX4_verify_58 ?_
      refine q_goto (tgt := 63) G dX4_verify_59 (by decide) ?_
      refine q_retX ?_
      exact q_zret G dX4_verify_63 hret (by decide +kernel) (by omega) (by omega) (⟨(by unfold e_9; omega), ⟨mI M, L2, mR M, rfl, fun b hb => ⟨rfl, frA_o fb (by intro s hs; simp at hs; omega) hb, rfl⟩, hC, CD_G hC hW hY fb (by intro s hs; simp at hs; omega), by rw [show a_9 σ r = 1 from bI_1 ⟨by rcases hz with h8 | h8; exact h8.2; omega, by rcases hz2 with h8 | h8; exact h8.2; omega⟩]⟩⟩)
set_option maxRecDepth 100000 in
set_option maxHeartbeats 4000000 in
theorem c_X4_test (l : Launch) (hl : l.stackTraces = false) (D : va_G) (cy : Nat → ClassId) (M : qM) (ad : Nat → Nat) (hC : CSt M ad) (σ : qS) (hY : CDy σ ad (mI M) (mL M) (mR M)) (hW : WF σ) (r : Int) (hr : r32 r) : qCx l D cy yX4_test cX4_test 7 (some .int) { frames := 7, cells := 5, slots := 30, locals := 152 } 5 30 [.ref (ad 0), .int (qI (r))] M (fun v M' => e_15 σ r = 0 ∧ poC M ad (σ) (fun v => v = some (.int (qI (a_15 σ r)))) v M') (fun E => (E = sIS ∧ e_15 σ r = 1) ∨ (E = sIO ∧ e_15 σ r = 2) ∨ (E = sNS ∧ e_15 σ r = 3)) := by
  refine qCx_of (lv0 := [(0, .ref (ad 0)), (1, .int (qI (r)))]) (by decide) rfl (Nat.le_of_ble_eq_true rfl) ?_
  intro p e s m args below meth c G ht hret
  obtain ⟨⟨y4, y5, y6⟩, yD, yV, yF, yB, yR, -⟩ := id hY
  obtain ⟨w1, w2, w3⟩ := WF_n hW
  have o0 := CS_x hC
  have o1 := CS_fo hC
  have a11 := CS_a1 hC
  have a12 := CS_a2 hC
  have a13 := CS_a3 hC
  obtain ⟨s0, s1, s2, s3⟩ := hC.2.2.2.1
  have z4 : mI M (ad 0) 4 = 0 ∨ mI M (ad 0) 4 = 1 := by omega
  refine q_aload_n G 0 0 dX4_test_0 rfl rfl ?_
  refine q_callVX (As := []) (rest := []) G dX4_test_1 cw_X4_63 (c_X4_needDiscriminant l hl D cy M (ad 0) o0 z4) o0.1 o0.2 (by decide) rfl rfl rfl (Nat.le_of_ble_eq_true rfl) rfl rfl ⟨Nat.le_of_ble_eq_true rfl, Nat.le_of_ble_eq_true rfl⟩ ⟨by decide, by decide⟩ (fun E9 ce9 q9 H9 lc9 ls9 hx9 h91 h92 h93 h94 h95 h96 h97 => q_outX G ht (Or.inl (⟨hx9.1, by have h9 := hx9.2; unfold e_15; omega⟩)) h91 h93 h95 h96 h97 (by omega) (by omega)) (fun v9 M9 hq9 => ?_)
  obtain ⟨⟨rfl, e9⟩, zD⟩ := hq9
  refine q_st (st2 := []) rfl ?_
  refine q_mem e9 ?_
  refine q_aload_n G 0 0 dX4_test_4 rfl rfl ?_
  refine q_iload_n G 1 1 dX4_test_5 rfl rfl ?_
  refine q_callVX (As := [.int (qI (r))]) (rest := []) G dX4_test_6 cw_X4_159 (c_X4_bookedRound l hl D cy M ad hC σ hY hW r (by omega)) o0.1 o0.2 (by decide) rfl rfl rfl (Nat.le_of_ble_eq_true rfl) rfl rfl ⟨Nat.le_of_ble_eq_true rfl, Nat.le_of_ble_eq_true rfl⟩ ⟨by decide, by decide⟩ (fun E9 ce9 q9 H9 lc9 ls9 hx9 h91 h92 h93 h94 h95 h96 h97 => q_outX G ht (Or.inr (Or.inl (⟨hx9.1, by have h9 := hx9.2; unfold e_15; omega⟩))) h91 h93 h95 h96 h97 (by omega) (by omega)) (fun v9 M9 hq9 => ?_)
  obtain ⟨⟨rfl, e9⟩, zB⟩ := hq9
  refine q_st (st2 := [.ref (ad (14 + r.toNat))]) rfl ?_
  refine q_mem e9 ?_
  have hp : isPl σ r := Or.inr zB
  have hN := rr_lt hW hp
  have oA := CS_rd hC hN.1 hN.2
  have hrr : rrN σ r = 14 + r.toNat := by unfold rrN; rw [if_neg (by omega)]
  refine q_st (st2 := [.ref (ad (rrN σ r))]) (by rw [hrr]) ?_
  refine q_astore_n (lv' := [(2, .ref (ad (rrN σ r))), (0, .ref (ad 0)), (1, .int (qI (r)))]) G 2 dX4_test_9 rfl (by decide) rfl ?_
  refine q_iconst G dX4_test_10 ?_
  refine q_istore_n (lv' := [(3, .int (qI (0))), (2, .ref (ad (rrN σ r))), (0, .ref (ad 0)), (1, .int (qI (r)))]) G 3 dX4_test_11 rfl (by decide) rfl ?_
  refine q_iload_n G 0 3 dX4_test_12 rfl rfl ?_
  refine q_iconst G dX4_test_13 ?_
  refine q_icmp_ge (tgt := 28) G dX4_test_14 (by decide) (by first | assumption | omega) (by first | assumption | omega) (fun c1 => ?_) (fun c1 => ?_)
  · exact absurd c1 (by omega)
  · refine q_aload_n G 2 0 dX4_test_17 rfl rfl ?_
    refine q_iload_n G 0 3 dX4_test_18 rfl rfl ?_
    refine q_callVX (As := [.int (qI (0))]) (rest := []) G dX4_test_19 cw_X4_185 (c_X4_needFilled l hl D cy M (ad 0) (ad 13) (0) o0 s3 a13 (by decide) (by have h8 : mI M (ad 13) (Int.toNat (0)) = sV σ 0 := yV 0 (by decide); have h7 := hW.2.2.2.1 0 (by decide); omega)) o0.1 o0.2 (by decide) rfl rfl rfl (Nat.le_of_ble_eq_true rfl) rfl rfl ⟨Nat.le_of_ble_eq_true rfl, Nat.le_of_ble_eq_true rfl⟩ ⟨by decide, by decide⟩ (fun E9 ce9 q9 H9 lc9 ls9 hx9 h91 h92 h93 h94 h95 h96 h97 => q_outX G ht (Or.inr (Or.inr (⟨hx9.1, by have h9 := hx9.2; have h8 : mI M (ad 13) (Int.toNat (0)) = sV σ 0 := yV 0 (by decide); unfold e_15; omega⟩))) h91 h93 h95 h96 h97 (by omega) (by omega)) (fun v9 M9 hq9 => ?_)
    obtain ⟨⟨rfl, e9⟩, zF0⟩ := hq9
    refine q_st (st2 := []) rfl ?_
    refine q_mem e9 ?_
    have zv0 : mI M (ad 13) (Int.toNat (0)) = sV σ 0 := yV 0 (by decide)
    have zw0 := hW.2.2.2.1 0 (by decide)
    refine q_iinc (lv' := [(3, .int (qI (0 + 1))), (2, .ref (ad (rrN σ r))), (0, .ref (ad 0)), (1, .int (qI (r)))]) G 0 dX4_test_22 rfl (by decide) rfl ?_
    refine q_goto (tgt := 12) G dX4_test_25 (by decide) ?_
    refine q_iload_n G 0 3 dX4_test_12 rfl rfl ?_
    refine q_iconst G dX4_test_13 ?_
    refine q_icmp_ge (tgt := 28) G dX4_test_14 (by decide) (by first | assumption | omega) (by first | assumption | omega) (fun c2 => ?_) (fun c2 => ?_)
    · exact absurd c2 (by omega)
    · refine q_aload_n G 2 0 dX4_test_17 rfl rfl ?_
      refine q_iload_n G 0 3 dX4_test_18 rfl rfl ?_
      refine q_callVX (As := [.int (qI (0 + 1))]) (rest := []) G dX4_test_19 cw_X4_185 (c_X4_needFilled l hl D cy M (ad 0) (ad 13) (0 + 1) o0 s3 a13 (by decide) (by have h8 : mI M (ad 13) (Int.toNat (0 + 1)) = sV σ 1 := yV 1 (by decide); have h7 := hW.2.2.2.1 1 (by decide); omega)) o0.1 o0.2 (by decide) rfl rfl rfl (Nat.le_of_ble_eq_true rfl) rfl rfl ⟨Nat.le_of_ble_eq_true rfl, Nat.le_of_ble_eq_true rfl⟩ ⟨by decide, by decide⟩ (fun E9 ce9 q9 H9 lc9 ls9 hx9 h91 h92 h93 h94 h95 h96 h97 => q_outX G ht (Or.inr (Or.inr (⟨hx9.1, by have h9 := hx9.2; have h8 : mI M (ad 13) (Int.toNat (0 + 1)) = sV σ 1 := yV 1 (by decide); unfold e_15; omega⟩))) h91 h93 h95 h96 h97 (by omega) (by omega)) (fun v9 M9 hq9 => ?_)
      obtain ⟨⟨rfl, e9⟩, zF1⟩ := hq9
      refine q_st (st2 := []) rfl ?_
      refine q_mem e9 ?_
      have zv1 : mI M (ad 13) (Int.toNat (0 + 1)) = sV σ 1 := yV 1 (by decide)
      have zw1 := hW.2.2.2.1 1 (by decide)
      refine q_iinc (lv' := [(3, .int (qI ((0 + 1) + 1))), (2, .ref (ad (rrN σ r))), (0, .ref (ad 0)), (1, .int (qI (r)))]) G 0 dX4_test_22 rfl (by decide) rfl ?_
      refine q_goto (tgt := 12) G dX4_test_25 (by decide) ?_
      refine q_iload_n G 0 3 dX4_test_12 rfl rfl ?_
      refine q_iconst G dX4_test_13 ?_
      refine q_icmp_ge (tgt := 28) G dX4_test_14 (by decide) (by first | assumption | omega) (by first | assumption | omega) (fun c3 => ?_) (fun c3 => ?_)
      · exact absurd c3 (by omega)
      · refine q_aload_n G 2 0 dX4_test_17 rfl rfl ?_
        refine q_iload_n G 0 3 dX4_test_18 rfl rfl ?_
        refine q_callVX (As := [.int (qI ((0 + 1) + 1))]) (rest := []) G dX4_test_19 cw_X4_185 (c_X4_needFilled l hl D cy M (ad 0) (ad 13) ((0 + 1) + 1) o0 s3 a13 (by decide) (by have h8 : mI M (ad 13) (Int.toNat ((0 + 1) + 1)) = sV σ 2 := yV 2 (by decide); have h7 := hW.2.2.2.1 2 (by decide); omega)) o0.1 o0.2 (by decide) rfl rfl rfl (Nat.le_of_ble_eq_true rfl) rfl rfl ⟨Nat.le_of_ble_eq_true rfl, Nat.le_of_ble_eq_true rfl⟩ ⟨by decide, by decide⟩ (fun E9 ce9 q9 H9 lc9 ls9 hx9 h91 h92 h93 h94 h95 h96 h97 => q_outX G ht (Or.inr (Or.inr (⟨hx9.1, by have h9 := hx9.2; have h8 : mI M (ad 13) (Int.toNat ((0 + 1) + 1)) = sV σ 2 := yV 2 (by decide); unfold e_15; omega⟩))) h91 h93 h95 h96 h97 (by omega) (by omega)) (fun v9 M9 hq9 => ?_)
        obtain ⟨⟨rfl, e9⟩, zF2⟩ := hq9
        refine q_st (st2 := []) rfl ?_
        refine q_mem e9 ?_
        have zv2 : mI M (ad 13) (Int.toNat ((0 + 1) + 1)) = sV σ 2 := yV 2 (by decide)
        have zw2 := hW.2.2.2.1 2 (by decide)
        refine q_iinc (lv' := [(3, .int (qI (((0 + 1) + 1) + 1))), (2, .ref (ad (rrN σ r))), (0, .ref (ad 0)), (1, .int (qI (r)))]) G 0 dX4_test_22 rfl (by decide) rfl ?_
        refine q_goto (tgt := 12) G dX4_test_25 (by decide) ?_
        refine q_iload_n G 0 3 dX4_test_12 rfl rfl ?_
        refine q_iconst G dX4_test_13 ?_
        refine q_icmp_ge (tgt := 28) G dX4_test_14 (by decide) (by first | assumption | omega) (by first | assumption | omega) (fun c4 => ?_) (fun c4 => ?_)
        · have hD0 : sD σ ≠ 0 := by omega
          have hd : dOk (sD σ) := by rcases hW.1 with h9 | h9; exact absurd h9 hD0; exact h9
          obtain ⟨d1, d2, d3⟩ := yD hD0
          have hd7 := hd.1
          have hd9 := hd.2.1
          have hdm : dOk (mI M (ad 1) 0) := by rw [d1]; exact hd
          have hFO := CS_FO hC (by omega)
          have hun : gT (mL M) (ad 2) = unT (mI M (ad 1) 0) := by rw [d1]; exact d2
          have hge : gd (mI M (ad 1) 0) (gT (mL M) (ad 3)) := by rw [d1, d3]; exact (geT_gd hd).1
          obtain ⟨t0, t1, t2⟩ := CD_t hY hp
          unfold a_7 at t0 t1 t2
          rw [if_neg (by omega), show 3 * r + 0 = 3 * r by omega] at t0
          rw [if_neg (by omega)] at t1 t2
          have f0 := (CD_f hY hp 0 (by decide)).2
          have f1 := (CD_f hY hp 1 (by decide)).2
          have f2 := (CD_f hY hp 2 (by decide)).2
          rw [show (plN r + ((0 : Nat) : Int)) = 6 + 3 * r by unfold plN; rw [if_neg (by omega)]; omega] at f0
          rw [show (plN r + ((1 : Nat) : Int)) = 6 + 3 * r + 1 by unfold plN; rw [if_neg (by omega)]; omega] at f1
          rw [show (plN r + ((2 : Nat) : Int)) = 6 + 3 * r + 2 by unfold plN; rw [if_neg (by omega)]; omega] at f2
          have lf0 : gd (sD σ) (sF σ (6 + 3 * r).toNat) := hW.2.2.2.2.1 _ (Or.inr (Or.inr ⟨by omega, by omega⟩))
          have lf1 : gd (sD σ) (sF σ (6 + 3 * r + 1).toNat) := hW.2.2.2.2.1 _ (Or.inr (Or.inr ⟨by omega, by omega⟩))
          have lf2 : gd (sD σ) (sF σ (6 + 3 * r + 2).toNat) := hW.2.2.2.2.1 _ (Or.inr (Or.inr ⟨by omega, by omega⟩))
          obtain ⟨c0, c1, c2⟩ := hW.2.2.2.2.2.1 r.toNat (by omega)
          rw [show 3 * r.toNat = (3 * r).toNat by omega] at c0
          rw [show 3 * r.toNat + 1 = (3 * r + 1).toNat by omega] at c1
          rw [show 3 * r.toNat + 2 = (3 * r + 2).toNat by omega] at c2
          have x0 : gT (mL M) (ad 78) = sF σ 0 := yF 0 (Or.inl ⟨by decide, by omega⟩)
          have x1 : gT (mL M) (ad 79) = sF σ 1 := yF 1 (Or.inl ⟨by decide, by omega⟩)
          have x2 : gT (mL M) (ad 80) = sF σ 2 := yF 2 (Or.inl ⟨by decide, by omega⟩)
          have lx0 : gd (sD σ) (sF σ 0) := hW.2.2.2.2.1 0 (Or.inl ⟨by decide, by omega⟩)
          have lx1 : gd (sD σ) (sF σ 1) := hW.2.2.2.2.1 1 (Or.inl ⟨by decide, by omega⟩)
          have lx2 : gd (sD σ) (sF σ 2) := hW.2.2.2.2.1 2 (Or.inl ⟨by decide, by omega⟩)
          have rx0 := gd_rT (L := mL M) (a := ad 78) (show 0 < sD σ by omega) (by rw [x0]; exact lx0)
          have rx1 := gd_rT (L := mL M) (a := ad 79) (show 0 < sD σ by omega) (by rw [x1]; exact lx1)
          have rx2 := gd_rT (L := mL M) (a := ad 80) (show 0 < sD σ by omega) (by rw [x2]; exact lx2)
          have ra := gd_rT (L := mL M) (a := ad (30 + 3 * (rrN σ r - 14) + 0)) (show 0 < sD σ by omega) (by rw [f0]; exact lf0)
          refine q_aload_n G 2 0 dX4_test_28 rfl rfl ?_
          refine q_gt (v := .ref (ad 12)) G dX4_test_29 fl_X4_25 o0 (by decide) rfl (congrArg va_rf s2) ?_
          refine q_iconst G dX4_test_32 ?_
          refine q_aaloadF G dX4_test_33 a12.1 a12.2.1 (by first | assumption | omega) (show (0 : Int) < ((mN M (ad 12) : Nat) : Int) by rw [a12.2.2]; decide) (show mN M (ad 12) < 2147483648 by rw [a12.2.2]; decide) ?_
          refine q_st (st2 := [.ref (ad 78)]) (congrArg (fun z => va_rf z :: _) (hC.2.2.2.2.2.2.1 0 (by decide))) ?_
          refine q_astore_n (lv' := [(3, .ref (ad 78)), (2, .ref (ad (rrN σ r))), (0, .ref (ad 0)), (1, .int (qI (r)))]) G 3 dX4_test_34 rfl (by decide) rfl ?_
          refine q_aload_n G 2 0 dX4_test_35 rfl rfl ?_
          refine q_gt (v := .ref (ad 12)) G dX4_test_36 fl_X4_25 o0 (by decide) rfl (congrArg va_rf s2) ?_
          refine q_iconst G dX4_test_39 ?_
          refine q_aaloadF G dX4_test_40 a12.1 a12.2.1 (by first | assumption | omega) (show (1 : Int) < ((mN M (ad 12) : Nat) : Int) by rw [a12.2.2]; decide) (show mN M (ad 12) < 2147483648 by rw [a12.2.2]; decide) ?_
          refine q_st (st2 := [.ref (ad 79)]) (congrArg (fun z => va_rf z :: _) (hC.2.2.2.2.2.2.1 1 (by decide))) ?_
          refine q_astore (lv' := [(4, .ref (ad 79)), (3, .ref (ad 78)), (2, .ref (ad (rrN σ r))), (0, .ref (ad 0)), (1, .int (qI (r)))]) G dX4_test_41 (by decide) rfl ?_
          refine q_aload_n G 3 0 dX4_test_43 rfl rfl ?_
          refine q_gt (v := .ref (ad 12)) G dX4_test_44 fl_X4_25 o0 (by decide) rfl (congrArg va_rf s2) ?_
          refine q_iconst G dX4_test_47 ?_
          refine q_aaloadF G dX4_test_48 a12.1 a12.2.1 (by first | assumption | omega) (show (2 : Int) < ((mN M (ad 12) : Nat) : Int) by rw [a12.2.2]; decide) (show mN M (ad 12) < 2147483648 by rw [a12.2.2]; decide) ?_
          refine q_st (st2 := [.ref (ad 80)]) (congrArg (fun z => va_rf z :: _) (hC.2.2.2.2.2.2.1 2 (by decide))) ?_
          refine q_astore (lv' := [(5, .ref (ad 80)), (4, .ref (ad 79)), (3, .ref (ad 78)), (2, .ref (ad (rrN σ r))), (0, .ref (ad 0)), (1, .int (qI (r)))]) G dX4_test_49 (by decide) rfl ?_
          refine q_aload_n G 2 3 dX4_test_51 rfl rfl ?_
          refine q_aload_n G 3 2 dX4_test_52 rfl rfl ?_
          refine q_gt (v := .ref (ad (30 + 3 * (rrN σ r - 14) + 0))) G dX4_test_53 fl_X4_97 oA (by decide) rfl (congrArg va_rf (CS_rr hC hN.1 hN.2 0 (by decide))) ?_
          refine q_callV (As := [.ref (ad (30 + 3 * (rrN σ r - 14) + 0))]) (rest := []) G dX4_test_56 cw_X4_193 (c_X1_isSame l D cy M (ad 78) (ad (30 + 3 * (rrN σ r - 14) + 0)) (CS_fm hC (r := 78) (by decide) (by decide)) (CS_fm hC (show 30 ≤ 30 + 3 * (rrN σ r - 14) + 0 by omega) (by omega)) (by omega) (by omega) (by omega) (by omega) (by omega) (by omega)) (CS_fm hC (r := 78) (by decide) (by decide)).1 (CS_fm hC (r := 78) (by decide) (by decide)).2 (by decide) rfl rfl rfl (Nat.le_of_ble_eq_true rfl) rfl rfl ⟨Nat.le_of_ble_eq_true rfl, Nat.le_of_ble_eq_true rfl⟩ ⟨by decide, by decide⟩ (fun v9 M9 hq9 => ?_)
          obtain ⟨rfl, e9⟩ := hq9
          refine q_mem e9 ?_
          refine q_st (st2 := [.int (qI (if mL M (ad 78) 0 = mL M (ad (30 + 3 * (rrN σ r - 14) + 0)) 0 ∧ mL M (ad 78) 1 = mL M (ad (30 + 3 * (rrN σ r - 14) + 0)) 1 ∧ mL M (ad 78) 2 = mL M (ad (30 + 3 * (rrN σ r - 14) + 0)) 2 then 1 else 0))]) rfl ?_
          have hq : (mL M (ad 78) 0 = mL M (ad (30 + 3 * (rrN σ r - 14) + 0)) 0 ∧ mL M (ad 78) 1 = mL M (ad (30 + 3 * (rrN σ r - 14) + 0)) 1 ∧ mL M (ad 78) 2 = mL M (ad (30 + 3 * (rrN σ r - 14) + 0)) 2) ↔ sF σ 0 = sF σ (6 + 3 * r).toNat := by rw [gT_iff, x0, f0]
          clear ra
          refine q_if_ne (tgt := 64) G dX4_test_59 (by decide) (by split <;> omega) (fun c5 => ?_) (fun c5 => ?_)
          · refine q_aload G 1 dX4_test_64 rfl ?_
            refine q_callV (As := []) (rest := []) G dX4_test_66 cw_X4_197 (c_X1_isReduced l D cy M (ad 79) (CS_fm hC (r := 79) (by decide) (by decide)) rx1.1 rx1.2.1 rx1.2.2) (CS_fm hC (r := 79) (by decide) (by decide)).1 (CS_fm hC (r := 79) (by decide) (by decide)).2 (by decide) rfl rfl rfl (Nat.le_of_ble_eq_true rfl) rfl rfl ⟨Nat.le_of_ble_eq_true rfl, Nat.le_of_ble_eq_true rfl⟩ ⟨by decide, by decide⟩ (fun v9 M9 hq9 => ?_)
            obtain ⟨rfl, e9⟩ := hq9
            refine q_mem e9 ?_
            refine q_st (st2 := [.int (qI (if isRd (mL M (ad 79) 0) (mL M (ad 79) 1) (mL M (ad 79) 2) then 1 else 0))]) rfl ?_
            have hr1 : isRd (mL M (ad 79) 0) (mL M (ad 79) 1) (mL M (ad 79) 2) ↔ rdT (sF σ 1) := by rw [← x1]; exact Iff.rfl
            refine q_if_eq (tgt := 80) G dX4_test_69 (by decide) (by split <;> omega) (fun c6 => ?_) (fun c6 => ?_)
            · refine q_iconst G dX4_test_80 ?_
              refine q_retX ?_
              exact q_iret G dX4_test_81 hret (by omega) (by omega) (⟨(by clear hq; unfold e_15; omega), ⟨mI M, mL M, mR M, rfl, fun _ _ => ⟨rfl, rfl, rfl⟩, hC, hY, by unfold a_15; rw [if_neg (show ¬ bI (sF σ 0 = sF σ (6 + 3 * r).toNat) = 0 by rw [bI_1 (hq.mp (ite1 (by assumption)))]; decide), if_pos (show bI (rdT (sF σ 1) ∧ rdT (sF σ 2)) = 0 from bI_0 (fun h9 => by first | exact ite0 (by assumption) (hr1.mpr h9.1) | exact ite0 (by assumption) (hr2.mpr h9.2)))]⟩⟩)
            · refine q_aload G 0 dX4_test_72 rfl ?_
              refine q_callV (As := []) (rest := []) G dX4_test_74 cw_X4_197 (c_X1_isReduced l D cy M (ad 80) (CS_fm hC (r := 80) (by decide) (by decide)) rx2.1 rx2.2.1 rx2.2.2) (CS_fm hC (r := 80) (by decide) (by decide)).1 (CS_fm hC (r := 80) (by decide) (by decide)).2 (by decide) rfl rfl rfl (Nat.le_of_ble_eq_true rfl) rfl rfl ⟨Nat.le_of_ble_eq_true rfl, Nat.le_of_ble_eq_true rfl⟩ ⟨by decide, by decide⟩ (fun v9 M9 hq9 => ?_)
              obtain ⟨rfl, e9⟩ := hq9
              refine q_mem e9 ?_
              refine q_st (st2 := [.int (qI (if isRd (mL M (ad 80) 0) (mL M (ad 80) 1) (mL M (ad 80) 2) then 1 else 0))]) rfl ?_
              have hr2 : isRd (mL M (ad 80) 0) (mL M (ad 80) 1) (mL M (ad 80) 2) ↔ rdT (sF σ 2) := by rw [← x2]; exact Iff.rfl
              refine q_if_ne (tgt := 82) G dX4_test_77 (by decide) (by split <;> omega) (fun c7 => ?_) (fun c7 => ?_)
              · refine q_aload_n G 2 3 dX4_test_82 rfl rfl ?_
                refine q_aload G 1 dX4_test_83 rfl ?_
                refine q_aload_n G 3 2 dX4_test_85 rfl rfl ?_
                refine q_gt (v := .int (qI (mI M (ad (rrN σ r)) 0))) G dX4_test_86 fl_X4_71 oA (by decide) rfl rfl ?_
                refine q_callS (As := [.ref (ad 78), .ref (ad 79), .int (qI (mI M (ad (rrN σ r)) 0))]) (rest := []) G dX4_test_89 cw_X4_129 (c_X4_primeOf l D cy M (ad 78) (ad 79) (mI M (ad (rrN σ r)) 0) (CS_fm hC (r := 78) (by decide) (by decide)) (CS_fm hC (r := 79) (by decide) (by decide))) rfl rfl (Nat.le_of_ble_eq_true rfl) rfl rfl ⟨Nat.le_of_ble_eq_true rfl, Nat.le_of_ble_eq_true rfl⟩ ⟨by decide, by decide⟩ (fun v9 M9 hq9 => ?_)
                obtain ⟨rfl, e9⟩ := hq9
                refine q_mem e9 ?_
                refine q_st (st2 := [.int (qI (prmT (gT (mL M) (ad 78)) (gT (mL M) (ad 79)) (mI M (ad (rrN σ r)) 0)))]) rfl ?_
                have hpp := prmT_r (gT (mL M) (ad 78)) (gT (mL M) (ad 79)) (mI M (ad (rrN σ r)) 0)
                refine q_istore (lv' := [(6, .int (qI (prmT (gT (mL M) (ad 78)) (gT (mL M) (ad 79)) (mI M (ad (rrN σ r)) 0)))), (5, .ref (ad 80)), (4, .ref (ad 79)), (3, .ref (ad 78)), (2, .ref (ad (rrN σ r))), (0, .ref (ad 0)), (1, .int (qI (r)))]) G dX4_test_92 (by decide) rfl ?_
                refine q_aload_n G 5 0 dX4_test_94 rfl rfl ?_
                refine q_gt (v := .ref (ad 1)) G dX4_test_95 fl_X4_10 o0 (by decide) rfl (congrArg va_rf s0) ?_
                refine q_aload_n G 3 3 dX4_test_98 rfl rfl ?_
                refine q_aload G 2 dX4_test_99 rfl ?_
                refine q_aload G 1 dX4_test_101 rfl ?_
                refine q_iload G 0 dX4_test_103 rfl ?_
                refine q_aload_n G 4 2 dX4_test_105 rfl rfl ?_
                refine q_gt (v := .int (qI (mI M (ad (rrN σ r)) 0))) G dX4_test_106 fl_X4_71 oA (by decide) rfl rfl ?_
                refine q_callV (As := [.ref (ad 78), .ref (ad 79), .ref (ad 80), .int (qI (prmT (gT (mL M) (ad 78)) (gT (mL M) (ad 79)) (mI M (ad (rrN σ r)) 0))), .int (qI (mI M (ad (rrN σ r)) 0))]) (rest := []) G dX4_test_109 cw_X4_166 (c_X2_holds l D cy M (ad 1) (ad 2) (ad 3) (ad 4) (ad 5) (ad 6) (ad 7) (ad 8) (ad 9) (ad 10) hFO hdm hun (ad 78) (ad 79) (ad 80) (prmT (gT (mL M) (ad 78)) (gT (mL M) (ad 79)) (mI M (ad (rrN σ r)) 0)) (mI M (ad (rrN σ r)) 0) (CS_fm hC (r := 78) (by decide) (by decide)) (CS_fm hC (r := 79) (by decide) (by decide)) (CS_fm hC (r := 80) (by decide) (by decide)) (by clear hq; omega) (by clear hq; omega) (by rw [d1, x0]; exact lx0) (by rw [d1, x1]; exact lx1) (by rw [d1, x2]; exact lx2) (CS_nl hC (r := 78) (by decide) (by decide)) (CS_nl hC (r := 79) (by decide) (by decide))) o1.1 o1.2 (by decide) rfl rfl rfl (Nat.le_of_ble_eq_true rfl) rfl rfl ⟨Nat.le_of_ble_eq_true rfl, Nat.le_of_ble_eq_true rfl⟩ ⟨by decide, by decide⟩ (fun v9 M9 hq9 => ?_)
                obtain ⟨z8, rfl, hz2, L2, e9, fr2⟩ := hq9
                refine q_st (st2 := [.int (qI (z8))]) rfl ?_
                refine q_mem (M2 := wL M L2) e9 ?_
                replace hz2 : (z8 = 1 ∧ hdT (sD σ) (sF σ 0) (sF σ 1) (sF σ 2) (sC σ (3 * r).toNat) (prmT (sF σ 0) (sF σ 1) (sC σ (3 * r).toNat))) ∨ (z8 = 0 ∧ ¬ hdT (sD σ) (sF σ 0) (sF σ 1) (sF σ 2) (sC σ (3 * r).toNat) (prmT (sF σ 0) (sF σ 1) (sC σ (3 * r).toNat))) := by rw [← x0, ← x1, ← x2, ← t0, ← d1]; exact hz2
                have fa := frA_m (S := [5, 6, 4, 7, 8, 9, 10]) fr2
                refine q_if_eq (tgt := 119) G dX4_test_112 (by decide) (by clear hq hr1 hr2; omega) (fun c8 => ?_) (fun c8 => ?_)
                · refine q_iconst G dX4_test_119 ?_
                  refine q_retX ?_
                  exact q_iret G dX4_test_120 hret (by omega) (by omega) (⟨(by clear hq hr1 hr2; unfold e_15; omega), ⟨mI M, L2, mR M, rfl, fun b hb => ⟨rfl, frA_o fa (by intro s hs; simp at hs; omega) hb, rfl⟩, hC, CD_G hC hW hY fa (by intro s hs; simp at hs; omega), by unfold a_15; rw [if_neg (show ¬ bI (sF σ 0 = sF σ (6 + 3 * r).toNat) = 0 by rw [bI_1 (hq.mp (ite1 (by assumption)))]; decide), if_neg (show ¬ bI (rdT (sF σ 1) ∧ rdT (sF σ 2)) = 0 by rw [bI_1 ⟨hr1.mp (ite1 (by assumption)), hr2.mp (ite1 (by assumption))⟩]; decide), if_neg (by rw [bI_0 (by rcases hz2 with h8 | h8; omega; exact h8.2)]; decide)]⟩⟩)
                · refine q_iconst G dX4_test_115 ?_
                  refine q_goto (tgt := 120) G dX4_test_116 (by decide) ?_
                  refine q_retX ?_
                  exact q_iret G dX4_test_120 hret (by omega) (by omega) (⟨(by clear hq hr1 hr2; unfold e_15; omega), ⟨mI M, L2, mR M, rfl, fun b hb => ⟨rfl, frA_o fa (by intro s hs; simp at hs; omega) hb, rfl⟩, hC, CD_G hC hW hY fa (by intro s hs; simp at hs; omega), by unfold a_15; rw [if_neg (show ¬ bI (sF σ 0 = sF σ (6 + 3 * r).toNat) = 0 by rw [bI_1 (hq.mp (ite1 (by assumption)))]; decide), if_neg (show ¬ bI (rdT (sF σ 1) ∧ rdT (sF σ 2)) = 0 by rw [bI_1 ⟨hr1.mp (ite1 (by assumption)), hr2.mp (ite1 (by assumption))⟩]; decide), if_pos (bI_1 (by rcases hz2 with h8 | h8; exact h8.2; omega))]⟩⟩)
              · refine q_iconst G dX4_test_80 ?_
                refine q_retX ?_
                exact q_iret G dX4_test_81 hret (by omega) (by omega) (⟨(by clear hq; unfold e_15; omega), ⟨mI M, mL M, mR M, rfl, fun _ _ => ⟨rfl, rfl, rfl⟩, hC, hY, by unfold a_15; rw [if_neg (show ¬ bI (sF σ 0 = sF σ (6 + 3 * r).toNat) = 0 by rw [bI_1 (hq.mp (ite1 (by assumption)))]; decide), if_pos (show bI (rdT (sF σ 1) ∧ rdT (sF σ 2)) = 0 from bI_0 (fun h9 => by first | exact ite0 (by assumption) (hr1.mpr h9.1) | exact ite0 (by assumption) (hr2.mpr h9.2)))]⟩⟩)
          · refine q_iconst G dX4_test_62 ?_
            refine q_retX ?_
            exact q_iret G dX4_test_63 hret (by omega) (by omega) (⟨(by clear hq; unfold e_15; omega), ⟨mI M, mL M, mR M, rfl, fun _ _ => ⟨rfl, rfl, rfl⟩, hC, hY, by unfold a_15; rw [if_pos (show bI (sF σ 0 = sF σ (6 + 3 * r).toNat) = 0 from bI_0 (fun h9 => ite0 (by assumption) (hq.mpr h9)))]⟩⟩)
        · exact absurd c4 (by omega)
