def rrN (σ : qS) (r : Int) : Nat := if r = -1 then rnN σ else 14 + r.toNat
theorem rr_lt {σ : qS} (hW : WF σ) {r : Int} (hp : isPl σ r) : 14 ≤ rrN σ r ∧ rrN σ r < 30 := by
  have h1 := hW.2.1
  have h3 := h1.2.2
  have h4 := h1.1
  have h5 := h1.2.1
  unfold rrN rnN
  rcases hp with ⟨h6, h7⟩ | h6
  · have := h3 h7; rw [if_pos h6]; omega
  · rw [if_neg (by omega)]; omega
theorem CD_t {σ : qS} {ad : Nat → Nat} {I L : Nat → Nat → Int} {R : Nat → Nat → Option Nat} (h : CDy σ ad I L R) {r : Int} (hp : isPl σ r) : I (ad (rrN σ r)) 0 = a_7 σ r 0 ∧ I (ad (rrN σ r)) 3 = a_7 σ r 1 ∧ I (ad (rrN σ r)) 4 = a_7 σ r 2 := by
  obtain ⟨a, b, c, d, e, f, -⟩ := h
  unfold rrN a_7
  rcases hp with ⟨h6, h7⟩ | h6
  · rw [if_pos h6, if_pos h6, if_pos h6, if_pos h6]; exact (f h7).1
  · have := e r.toNat (by omega)
    rw [if_neg (by omega), if_neg (by omega), if_neg (by omega), if_neg (by omega), show (3 * r + 0).toNat = 3 * r.toNat by omega, show (3 * r + 1).toNat = 3 * r.toNat + 1 by omega, show (3 * r + 2).toNat = 3 * r.toNat + 2 by omega]; exact this
theorem CD_f {σ : qS} {ad : Nat → Nat} {I L : Nat → Nat → Int} {R : Nat → Nat → Option Nat} (h : CDy σ ad I L R) {r : Int} (hp : isPl σ r) (k : Nat) (hk : k < 3) : lvF σ (plN r + k).toNat ∧ gT L (ad (30 + 3 * (rrN σ r - 14) + k)) = sF σ (plN r + k).toNat := by
  obtain ⟨a, b, c, d, e, f, -⟩ := h
  unfold rrN plN
  rcases hp with ⟨h6, h7⟩ | h6
  · have hl : lvF σ (3 + (k : Int)).toNat := Or.inr (Or.inl ⟨by omega, by omega, h7⟩)
    have := d _ hl
    rw [if_pos h6, if_pos h6]
    refine ⟨hl, ?_⟩
    rw [show frN σ (3 + (k : Int)).toNat = 30 + 3 * (rnN σ - 14) + k by unfold frN rnN; rw [if_neg (by omega), if_pos (by omega)]; omega] at this; exact this
  · have hl : lvF σ (6 + 3 * r + (k : Int)).toNat := Or.inr (Or.inr ⟨by omega, by omega⟩)
    have := d _ hl
    rw [if_neg (by omega), if_neg (by omega)]
    refine ⟨hl, ?_⟩
    rw [show frN σ (6 + 3 * r + (k : Int)).toNat = 30 + 3 * (14 + r.toNat - 14) + k by unfold frN; rw [if_neg (by omega), if_neg (by omega)]; omega] at this; exact this
theorem CS_rr {M : qM} {ad : Nat → Nat} (h : CSt M ad) {N : Nat} (h1 : 14 ≤ N) (h2 : N < 30) (k : Nat) (hk : k < 3) : mR M (ad N) (6 + k) = some (ad (30 + 3 * (N - 14) + k)) := by
  have := h.2.2.2.2.2.2.2 (N - 14) k (by omega) hk
  rw [show 14 + (N - 14) = N by omega] at this; exact this
set_option maxRecDepth 100000 in
set_option maxHeartbeats 4000000 in
theorem c_X4_drop (l : Launch) (D : va_G) (cy : Nat → ClassId) (M : qM) (ad : Nat → Nat) (hC : CSt M ad) (σ : qS) (hY : CDy σ ad (mI M) (mL M) (mR M)) (hW : WF σ) : qCt l D cy yX4_drop cX4_drop 2 (some .boolean) { frames := 0, cells := 0, slots := 0, locals := 0 } 0 0 [.ref (ad 0)] M (poC M ad (setU σ 0) (fun v => v = some (.int (qI (sU σ))))) := by
  refine qCt_of (lv0 := [(0, .ref (ad 0))]) (by decide) rfl (Nat.le_of_ble_eq_true rfl) ?_
  intro p e s m args below meth c G hname hret
  obtain ⟨⟨y4, y5, y6⟩, yD, yV, yF, yB, yR, -⟩ := id hY
  obtain ⟨w1, w2, w3⟩ := WF_n hW
  have o0 := CS_x hC
  have o1 := CS_fo hC
  have a11 := CS_a1 hC
  have a12 := CS_a2 hC
  have a13 := CS_a3 hC
  obtain ⟨s0, s1, s2, s3⟩ := hC.2.2.2.1
  have z4 : mI M (ad 0) 4 = 0 ∨ mI M (ad 0) 4 = 1 := by omega
  rcases w3 with hU | hU
  · have r6 : mR M (ad 0) 6 = none := by rw [y6, if_neg (by omega)]
    refine q_aload_n G 0 0 dX4_drop_0 rfl rfl ?_
    refine q_gt (v := .null) G dX4_drop_1 fl_X4_42 o0 (by decide) rfl (congrArg va_rf r6) ?_
    refine q_ifnull (x := none) (tgt := 11) G dX4_drop_4 (by decide) (fun _ => ?_) (fun _ h9 => nomatch h9)
    refine q_iconst G dX4_drop_11 ?_
    refine q_istore_n (lv' := [(1, .int (qI (0))), (0, .ref (ad 0))]) G 1 dX4_drop_12 rfl (by decide) rfl ?_
    refine q_aload_n G 1 0 dX4_drop_13 rfl rfl ?_
    refine q_null G dX4_drop_14 ?_
    refine q_pR (z := none) G dX4_drop_15 pl_X4_42n nf_4_6 o0 (by decide) (Nat.le_of_ble_eq_true rfl) (fs_4_6 _ _ _) ?_
    refine q_iload_n G 0 1 dX4_drop_18 rfl rfl ?_
    exact q_zret G dX4_drop_19 hret (by decide +kernel) (by omega) (by omega) (⟨mI M, mL M, up2 (mR M) (ad 0) 6 none, rfl, fun b hb => ⟨rfl, rfl, up2_row _ _ (hb 0 (by decide))⟩, CS_w hC (fun a k h9 => up2_n _ _ h9), CD_D hW hY (up2_s _ _ _ _), by rw [hU]⟩)
  · have r6 : mR M (ad 0) 6 = some (ad (rnN σ)) := by rw [y6, if_pos hU]
    have hB6 := hW.2.1.2.2 hU
    have hrn : 14 ≤ rnN σ ∧ rnN σ < 30 := by unfold rnN; omega
    have oR := CS_rd hC hrn.1 hrn.2
    refine q_aload_n G 0 0 dX4_drop_0 rfl rfl ?_
    refine q_gt (v := .ref (ad (rnN σ))) G dX4_drop_1 fl_X4_42 o0 (by decide) rfl (congrArg va_rf r6) ?_
    refine q_ifnull (x := some (ad (rnN σ))) (tgt := 11) G dX4_drop_4 (by decide) (fun h9 => nomatch h9) (fun _ _ => ?_)
    refine q_iconst G dX4_drop_7 ?_
    refine q_goto (tgt := 12) G dX4_drop_8 (by decide) ?_
    refine q_istore_n (lv' := [(1, .int (qI (1))), (0, .ref (ad 0))]) G 1 dX4_drop_12 rfl (by decide) rfl ?_
    refine q_aload_n G 1 0 dX4_drop_13 rfl rfl ?_
    refine q_null G dX4_drop_14 ?_
    refine q_pR (z := none) G dX4_drop_15 pl_X4_42n nf_4_6 o0 (by decide) (Nat.le_of_ble_eq_true rfl) (fs_4_6 _ _ _) ?_
    refine q_iload_n G 0 1 dX4_drop_18 rfl rfl ?_
    exact q_zret G dX4_drop_19 hret (by decide +kernel) (by omega) (by omega) (⟨mI M, mL M, up2 (mR M) (ad 0) 6 none, rfl, fun b hb => ⟨rfl, rfl, up2_row _ _ (hb 0 (by decide))⟩, CS_w hC (fun a k h9 => up2_n _ _ h9), CD_D hW hY (up2_s _ _ _ _), by rw [hU]⟩)
set_option maxRecDepth 100000 in
set_option maxHeartbeats 4000000 in
theorem c_X4_rounds (l : Launch) (D : va_G) (cy : Nat → ClassId) (M : qM) (ad : Nat → Nat) (hC : CSt M ad) (σ : qS) (hY : CDy σ ad (mI M) (mL M) (mR M)) (hW : WF σ) : qCt l D cy yX4_rounds cX4_rounds 1 (some .int) { frames := 0, cells := 0, slots := 0, locals := 0 } 0 0 [.ref (ad 0)] M (poC M ad σ (fun v => v = some (.int (qI (sB σ))))) := by
  refine qCt_of (lv0 := [(0, .ref (ad 0))]) (by decide) rfl (Nat.le_of_ble_eq_true rfl) ?_
  intro p e s m args below meth c G hname hret
  obtain ⟨⟨y4, y5, y6⟩, yD, yV, yF, yB, yR, -⟩ := id hY
  obtain ⟨w1, w2, w3⟩ := WF_n hW
  have o0 := CS_x hC
  have o1 := CS_fo hC
  have a11 := CS_a1 hC
  have a12 := CS_a2 hC
  have a13 := CS_a3 hC
  obtain ⟨s0, s1, s2, s3⟩ := hC.2.2.2.1
  have z4 : mI M (ad 0) 4 = 0 ∨ mI M (ad 0) 4 = 1 := by omega
  refine q_aload_n G 0 0 dX4_rounds_0 rfl rfl ?_
  refine q_gt (v := .int (qI (mI M (ad 0) 5))) G dX4_rounds_1 fl_X4_38 o0 (by decide) rfl rfl ?_
  exact q_iret G dX4_rounds_4 hret (by omega) (by omega) (⟨mI M, mL M, mR M, rfl, fun _ _ => ⟨rfl, rfl, rfl⟩, hC, hY, by rw [y5]⟩)
set_option maxRecDepth 100000 in
set_option maxHeartbeats 4000000 in
theorem c_X4_told (l : Launch) (hl : l.stackTraces = false) (D : va_G) (cy : Nat → ClassId) (M : qM) (ad : Nat → Nat) (hC : CSt M ad) (σ : qS) (hY : CDy σ ad (mI M) (mL M) (mR M)) (hW : WF σ) (r k : Int) (hr : r32 r) (hk : r32 k) : qCx l D cy yX4_told cX4_told 4 (some .int) { frames := 8, cells := 3, slots := 18, locals := 132 } 3 18 [.ref (ad 0), .int (qI (r)), .int (qI (k))] M (fun v M' => e_7 σ r k = 0 ∧ poC M ad (σ) (fun v => v = some (.int (qI (a_7 σ r k)))) v M') (fun E => (E = sIS ∧ e_7 σ r k = 1) ∨ (E = sIO ∧ e_7 σ r k = 2)) := by
  refine qCx_of (lv0 := [(0, .ref (ad 0)), (1, .int (qI (r))), (2, .int (qI (k)))]) (by decide) rfl (Nat.le_of_ble_eq_true rfl) ?_
  intro p e s m args below meth c G ht hret
  obtain ⟨⟨y4, y5, y6⟩, yD, yV, yF, yB, yR, -⟩ := id hY
  obtain ⟨w1, w2, w3⟩ := WF_n hW
  have o0 := CS_x hC
  have o1 := CS_fo hC
  have a11 := CS_a1 hC
  have a12 := CS_a2 hC
  have a13 := CS_a3 hC
  obtain ⟨s0, s1, s2, s3⟩ := hC.2.2.2.1
  have z4 : mI M (ad 0) 4 = 0 ∨ mI M (ad 0) 4 = 1 := by omega
  refine q_aload_n G 0 0 dX4_told_0 rfl rfl ?_
  refine q_callVX (As := []) (rest := []) G dX4_told_1 cw_X4_63 (c_X4_needDiscriminant l hl D cy M (ad 0) o0 z4) o0.1 o0.2 (by decide) rfl rfl rfl (Nat.le_of_ble_eq_true rfl) rfl rfl ⟨Nat.le_of_ble_eq_true rfl, Nat.le_of_ble_eq_true rfl⟩ ⟨by decide, by decide⟩ (fun E9 ce9 q9 H9 lc9 ls9 hx9 h91 h92 h93 h94 h95 h96 h97 => q_outX G ht (Or.inl (⟨hx9.1, by have h9 := hx9.2; unfold e_7; omega⟩)) h91 h93 h95 h96 h97 (by omega) (by omega)) (fun v9 M9 hq9 => ?_)
  obtain ⟨⟨rfl, e9⟩, zD⟩ := hq9
  refine q_st (st2 := []) rfl ?_
  refine q_mem e9 ?_
  refine q_aload_n G 0 0 dX4_told_4 rfl rfl ?_
  refine q_iload_n G 1 1 dX4_told_5 rfl rfl ?_
  refine q_callVX (As := [.int (qI (r))]) (rest := []) G dX4_told_6 cw_X4_141 (c_X4_bookedOrRunning l hl D cy M ad hC σ hY hW r (by omega)) o0.1 o0.2 (by decide) rfl rfl rfl (Nat.le_of_ble_eq_true rfl) rfl rfl ⟨Nat.le_of_ble_eq_true rfl, Nat.le_of_ble_eq_true rfl⟩ ⟨by decide, by decide⟩ (fun E9 ce9 q9 H9 lc9 ls9 hx9 h91 h92 h93 h94 h95 h96 h97 => q_outX G ht (Or.inr (⟨hx9.1, by have h9 := hx9.2; unfold e_7; omega⟩)) h91 h93 h95 h96 h97 (by omega) (by omega)) (fun v9 M9 hq9 => ?_)
  obtain ⟨⟨rfl, e9⟩, zB⟩ := hq9
  refine q_st (st2 := [.ref (ad (rrN σ r))]) rfl ?_
  refine q_mem e9 ?_
  have hN := rr_lt hW zB
  have oA := CS_rd hC hN.1 hN.2
  obtain ⟨t0, t1, t2⟩ := CD_t hY zB
  refine q_astore_n (lv' := [(3, .ref (ad (rrN σ r))), (0, .ref (ad 0)), (1, .int (qI (r))), (2, .int (qI (k)))]) G 3 dX4_told_9 rfl (by decide) rfl ?_
  refine q_iload_n G 3 2 dX4_told_10 rfl rfl ?_
  rcases (show k = 0 ∨ k = 1 ∨ k = 2 ∨ (k < 0 ∨ 2 < k) by omega) with tz | tz | tz | tz
  · refine q_tableIn (off := 25) (tgt := 36) G dX4_told_11 (by omega) (by omega) (by omega) (by rw [tz]; rfl) (by decide) ?_
    refine q_aload_n G 0 3 dX4_told_36 rfl rfl ?_
    refine q_gt (v := .int (qI (mI M (ad (rrN σ r)) 0))) G dX4_told_37 fl_X4_71 oA (by decide) rfl rfl ?_
    refine q_retX ?_
    exact q_iret G dX4_told_40 hret (by omega) (by omega) (⟨(by unfold e_7; omega), ⟨mI M, mL M, mR M, rfl, fun _ _ => ⟨rfl, rfl, rfl⟩, hC, hY, by rw [tz, t0]⟩⟩)
  · refine q_tableIn (off := 30) (tgt := 41) G dX4_told_11 (by omega) (by omega) (by omega) (by rw [tz]; rfl) (by decide) ?_
    refine q_aload_n G 0 3 dX4_told_41 rfl rfl ?_
    refine q_gt (v := .int (qI (mI M (ad (rrN σ r)) 3))) G dX4_told_42 fl_X4_90 oA (by decide) rfl rfl ?_
    refine q_retX ?_
    exact q_iret G dX4_told_45 hret (by omega) (by omega) (⟨(by unfold e_7; omega), ⟨mI M, mL M, mR M, rfl, fun _ _ => ⟨rfl, rfl, rfl⟩, hC, hY, by rw [tz, t1]⟩⟩)
  · refine q_tableIn (off := 35) (tgt := 46) G dX4_told_11 (by omega) (by omega) (by omega) (by rw [tz]; rfl) (by decide) ?_
    refine q_aload_n G 0 3 dX4_told_46 rfl rfl ?_
    refine q_gt (v := .int (qI (mI M (ad (rrN σ r)) 4))) G dX4_told_47 fl_X4_80 oA (by decide) rfl rfl ?_
    refine q_retX ?_
    exact q_iret G dX4_told_50 hret (by omega) (by omega) (⟨(by unfold e_7; omega), ⟨mI M, mL M, mR M, rfl, fun _ _ => ⟨rfl, rfl, rfl⟩, hC, hY, by rw [tz, t2]⟩⟩)
  · refine q_tableOut (tgt := 51) G dX4_told_11 (by omega) tz (by decide) ?_
    exact q_throw (P0 := []) G hl qt_145_147 (Or.inr (⟨rfl, by unfold e_7; omega⟩)) dX4_told_51 dX4_told_54 dX4_told_55 dX4_told_57 dX4_told_60 ht (by decide) (by decide) (by decide) (by decide) (by omega) (by omega)
set_option maxRecDepth 100000 in
set_option maxHeartbeats 4000000 in
theorem c_X4_form (l : Launch) (hl : l.stackTraces = false) (D : va_G) (cy : Nat → ClassId) (M : qM) (ad : Nat → Nat) (hC : CSt M ad) (σ : qS) (hY : CDy σ ad (mI M) (mL M) (mR M)) (hW : WF σ) (r k x : Int) (hr : r32 r) (hk : r32 k) (hx : r32 x) : qCx l D cy yX4_form cX4_form 5 (some .int) { frames := 8, cells := 4, slots := 24, locals := 132 } 4 24 [.ref (ad 0), .int (qI (r)), .int (qI (k)), .int (qI (x))] M (fun v M' => e_8 σ r k x = 0 ∧ poC M ad (σ) (fun v => v = some (.int (qI (a_8 σ r k x)))) v M') (fun E => (E = sIS ∧ e_8 σ r k x = 1) ∨ (E = sIO ∧ e_8 σ r k x = 2)) := by
  refine qCx_of (lv0 := [(0, .ref (ad 0)), (1, .int (qI (r))), (2, .int (qI (k))), (3, .int (qI (x)))]) (by decide) rfl (Nat.le_of_ble_eq_true rfl) ?_
  intro p e s m args below meth c G ht hret
  obtain ⟨⟨y4, y5, y6⟩, yD, yV, yF, yB, yR, -⟩ := id hY
  obtain ⟨w1, w2, w3⟩ := WF_n hW
  have o0 := CS_x hC
  have o1 := CS_fo hC
  have a11 := CS_a1 hC
  have a12 := CS_a2 hC
  have a13 := CS_a3 hC
  obtain ⟨s0, s1, s2, s3⟩ := hC.2.2.2.1
  have z4 : mI M (ad 0) 4 = 0 ∨ mI M (ad 0) 4 = 1 := by omega
  refine q_aload_n G 0 0 dX4_form_0 rfl rfl ?_
  refine q_callVX (As := []) (rest := []) G dX4_form_1 cw_X4_63 (c_X4_needDiscriminant l hl D cy M (ad 0) o0 z4) o0.1 o0.2 (by decide) rfl rfl rfl (Nat.le_of_ble_eq_true rfl) rfl rfl ⟨Nat.le_of_ble_eq_true rfl, Nat.le_of_ble_eq_true rfl⟩ ⟨by decide, by decide⟩ (fun E9 ce9 q9 H9 lc9 ls9 hx9 h91 h92 h93 h94 h95 h96 h97 => q_outX G ht (Or.inl (⟨hx9.1, by have h9 := hx9.2; unfold e_8; omega⟩)) h91 h93 h95 h96 h97 (by omega) (by omega)) (fun v9 M9 hq9 => ?_)
  obtain ⟨⟨rfl, e9⟩, zD⟩ := hq9
  refine q_st (st2 := []) rfl ?_
  refine q_mem e9 ?_
  refine q_aload_n G 0 0 dX4_form_4 rfl rfl ?_
  refine q_iload_n G 1 1 dX4_form_5 rfl rfl ?_
  refine q_callVX (As := [.int (qI (r))]) (rest := []) G dX4_form_6 cw_X4_141 (c_X4_bookedOrRunning l hl D cy M ad hC σ hY hW r (by omega)) o0.1 o0.2 (by decide) rfl rfl rfl (Nat.le_of_ble_eq_true rfl) rfl rfl ⟨Nat.le_of_ble_eq_true rfl, Nat.le_of_ble_eq_true rfl⟩ ⟨by decide, by decide⟩ (fun E9 ce9 q9 H9 lc9 ls9 hx9 h91 h92 h93 h94 h95 h96 h97 => q_outX G ht (Or.inr (⟨hx9.1, by have h9 := hx9.2; unfold e_8; omega⟩)) h91 h93 h95 h96 h97 (by omega) (by omega)) (fun v9 M9 hq9 => ?_)
  obtain ⟨⟨rfl, e9⟩, zB⟩ := hq9
  refine q_st (st2 := [.ref (ad (rrN σ r))]) rfl ?_
  refine q_mem e9 ?_
  have hN := rr_lt hW zB
  have oA := CS_rd hC hN.1 hN.2
  obtain ⟨t0, t1, t2⟩ := CD_t hY zB
  refine q_astore (lv' := [(4, .ref (ad (rrN σ r))), (0, .ref (ad 0)), (1, .int (qI (r))), (2, .int (qI (k))), (3, .int (qI (x)))]) G dX4_form_9 (by decide) rfl ?_
  refine q_iload_n G 4 3 dX4_form_11 rfl rfl ?_
  refine q_callSX (As := [.int (qI (x))]) (rest := []) G dX4_form_12 cw_X4_150 (c_X4_needPart l hl D cy M x (by omega)) rfl rfl (Nat.le_of_ble_eq_true rfl) rfl rfl ⟨Nat.le_of_ble_eq_true rfl, Nat.le_of_ble_eq_true rfl⟩ ⟨by decide, by decide⟩ (fun E9 ce9 q9 H9 lc9 ls9 hx9 h91 h92 h93 h94 h95 h96 h97 => q_outX G ht (Or.inr (⟨hx9.1, by have h9 := hx9.2; unfold e_8; omega⟩)) h91 h93 h95 h96 h97 (by omega) (by omega)) (fun v9 M9 hq9 => ?_)
  obtain ⟨⟨rfl, e9⟩, zP⟩ := hq9
  refine q_st (st2 := []) rfl ?_
  refine q_mem e9 ?_
  refine q_iload_n G 3 2 dX4_form_15 rfl rfl ?_
  rcases (show k = 0 ∨ k = 1 ∨ k = 2 ∨ (k < 0 ∨ 2 < k) by omega) with tz | tz | tz | tz
  · refine q_tableIn (off := 28) (tgt := 44) G dX4_form_16 (by omega) (by omega) (by omega) (by rw [tz]; rfl) (by decide) ?_
    refine q_aload G 0 dX4_form_44 rfl ?_
    refine q_gt (v := .ref (ad (30 + 3 * (rrN σ r - 14) + 0))) G dX4_form_46 fl_X4_97 oA (by decide) rfl (congrArg va_rf (CS_rr hC hN.1 hN.2 0 (by decide))) ?_
    refine q_iload_n G 4 3 dX4_form_49 rfl rfl ?_
    refine q_callV (As := [.int (qI (x))]) (rest := []) G dX4_form_50 cw_X4_153 (c_X1_part l D cy M (ad (30 + 3 * (rrN σ r - 14) + 0)) x (CS_fm hC (show 30 ≤ 30 + 3 * (rrN σ r - 14) + 0 by omega) (by omega)) (by omega)) (CS_fm hC (show 30 ≤ 30 + 3 * (rrN σ r - 14) + 0 by omega) (by omega)).1 (CS_fm hC (show 30 ≤ 30 + 3 * (rrN σ r - 14) + 0 by omega) (by omega)).2 (by decide) rfl rfl rfl (Nat.le_of_ble_eq_true rfl) rfl rfl ⟨Nat.le_of_ble_eq_true rfl, Nat.le_of_ble_eq_true rfl⟩ ⟨by decide, by decide⟩ (fun v9 M9 hq9 => ?_)
    obtain ⟨rfl, e9⟩ := hq9
    refine q_mem e9 ?_
    refine q_st (st2 := [.long (qL (ptT (gT (mL M) (ad (30 + 3 * (rrN σ r - 14) + 0))) x))]) rfl ?_
    refine q_l2i G dX4_form_53 ?_
    refine q_retX ?_
    exact q_iret G dX4_form_54 hret (by omega) (by omega) (⟨(by unfold e_8; omega), ⟨mI M, mL M, mR M, rfl, fun _ _ => ⟨rfl, rfl, rfl⟩, hC, hY, by unfold a_8; rw [tz, qw32_e, (CD_f hY zB 0 (by decide)).2]; rfl⟩⟩)
  · refine q_tableIn (off := 39) (tgt := 55) G dX4_form_16 (by omega) (by omega) (by omega) (by rw [tz]; rfl) (by decide) ?_
    refine q_aload G 0 dX4_form_55 rfl ?_
    refine q_gt (v := .ref (ad (30 + 3 * (rrN σ r - 14) + 1))) G dX4_form_57 fl_X4_104 oA (by decide) rfl (congrArg va_rf (CS_rr hC hN.1 hN.2 1 (by decide))) ?_
    refine q_iload_n G 4 3 dX4_form_60 rfl rfl ?_
    refine q_callV (As := [.int (qI (x))]) (rest := []) G dX4_form_61 cw_X4_153 (c_X1_part l D cy M (ad (30 + 3 * (rrN σ r - 14) + 1)) x (CS_fm hC (show 30 ≤ 30 + 3 * (rrN σ r - 14) + 1 by omega) (by omega)) (by omega)) (CS_fm hC (show 30 ≤ 30 + 3 * (rrN σ r - 14) + 1 by omega) (by omega)).1 (CS_fm hC (show 30 ≤ 30 + 3 * (rrN σ r - 14) + 1 by omega) (by omega)).2 (by decide) rfl rfl rfl (Nat.le_of_ble_eq_true rfl) rfl rfl ⟨Nat.le_of_ble_eq_true rfl, Nat.le_of_ble_eq_true rfl⟩ ⟨by decide, by decide⟩ (fun v9 M9 hq9 => ?_)
    obtain ⟨rfl, e9⟩ := hq9
    refine q_mem e9 ?_
    refine q_st (st2 := [.long (qL (ptT (gT (mL M) (ad (30 + 3 * (rrN σ r - 14) + 1))) x))]) rfl ?_
    refine q_l2i G dX4_form_64 ?_
    refine q_retX ?_
    exact q_iret G dX4_form_65 hret (by omega) (by omega) (⟨(by unfold e_8; omega), ⟨mI M, mL M, mR M, rfl, fun _ _ => ⟨rfl, rfl, rfl⟩, hC, hY, by unfold a_8; rw [tz, qw32_e, (CD_f hY zB 1 (by decide)).2]; rfl⟩⟩)
  · refine q_tableIn (off := 50) (tgt := 66) G dX4_form_16 (by omega) (by omega) (by omega) (by rw [tz]; rfl) (by decide) ?_
    refine q_aload G 0 dX4_form_66 rfl ?_
    refine q_gt (v := .ref (ad (30 + 3 * (rrN σ r - 14) + 2))) G dX4_form_68 fl_X4_111 oA (by decide) rfl (congrArg va_rf (CS_rr hC hN.1 hN.2 2 (by decide))) ?_
    refine q_iload_n G 4 3 dX4_form_71 rfl rfl ?_
    refine q_callV (As := [.int (qI (x))]) (rest := []) G dX4_form_72 cw_X4_153 (c_X1_part l D cy M (ad (30 + 3 * (rrN σ r - 14) + 2)) x (CS_fm hC (show 30 ≤ 30 + 3 * (rrN σ r - 14) + 2 by omega) (by omega)) (by omega)) (CS_fm hC (show 30 ≤ 30 + 3 * (rrN σ r - 14) + 2 by omega) (by omega)).1 (CS_fm hC (show 30 ≤ 30 + 3 * (rrN σ r - 14) + 2 by omega) (by omega)).2 (by decide) rfl rfl rfl (Nat.le_of_ble_eq_true rfl) rfl rfl ⟨Nat.le_of_ble_eq_true rfl, Nat.le_of_ble_eq_true rfl⟩ ⟨by decide, by decide⟩ (fun v9 M9 hq9 => ?_)
    obtain ⟨rfl, e9⟩ := hq9
    refine q_mem e9 ?_
    refine q_st (st2 := [.long (qL (ptT (gT (mL M) (ad (30 + 3 * (rrN σ r - 14) + 2))) x))]) rfl ?_
    refine q_l2i G dX4_form_75 ?_
    refine q_retX ?_
    exact q_iret G dX4_form_76 hret (by omega) (by omega) (⟨(by unfold e_8; omega), ⟨mI M, mL M, mR M, rfl, fun _ _ => ⟨rfl, rfl, rfl⟩, hC, hY, by unfold a_8; rw [tz, qw32_e, (CD_f hY zB 2 (by decide)).2]; rfl⟩⟩)
  · refine q_tableOut (tgt := 77) G dX4_form_16 (by omega) tz (by decide) ?_
    exact q_throw (P0 := []) G hl qt_145_157 (Or.inr (⟨rfl, by unfold e_8; omega⟩)) dX4_form_77 dX4_form_80 dX4_form_81 dX4_form_83 dX4_form_86 ht (by decide) (by decide) (by decide) (by decide) (by omega) (by omega)
set_option maxRecDepth 100000 in
set_option maxHeartbeats 4000000 in
theorem c_X4_publish (l : Launch) (hl : l.stackTraces = false) (D : va_G) (cy : Nat → ClassId) (M : qM) (ad : Nat → Nat) (hC : CSt M ad) (σ : qS) (hY : CDy σ ad (mI M) (mL M) (mR M)) (hW : WF σ) : qCx l D cy yX4_publish cX4_publish 1 (some .int) { frames := 7, cells := 2, slots := 12, locals := 110 } 2 12 [.ref (ad 0)] M (fun v M' => e_4 σ = 0 ∧ poC M ad (n_4 σ) (fun v => v = some (.int (qI (a_4 σ)))) v M') (fun E => (E = sIS ∧ e_4 σ = 1)) := by
  refine qCx_of (lv0 := [(0, .ref (ad 0))]) (by decide) rfl (Nat.le_of_ble_eq_true rfl) ?_
  intro p e s m args below meth c G ht hret
  obtain ⟨⟨y4, y5, y6⟩, yD, yV, yF, yB, yR, -⟩ := id hY
  obtain ⟨w1, w2, w3⟩ := WF_n hW
  have o0 := CS_x hC
  have o1 := CS_fo hC
  have a11 := CS_a1 hC
  have a12 := CS_a2 hC
  have a13 := CS_a3 hC
  obtain ⟨s0, s1, s2, s3⟩ := hC.2.2.2.1
  have z4 : mI M (ad 0) 4 = 0 ∨ mI M (ad 0) 4 = 1 := by omega
  rcases w3 with hU | hU
  · have r6 : mR M (ad 0) 6 = none := by rw [y6, if_neg (by omega)]
    refine q_aload_n G 0 0 dX4_publish_0 rfl rfl ?_
    refine q_callVX (As := []) (rest := []) G dX4_publish_1 cw_X4_63 (c_X4_needDiscriminant l hl D cy M (ad 0) o0 z4) o0.1 o0.2 (by decide) rfl rfl rfl (Nat.le_of_ble_eq_true rfl) rfl rfl ⟨Nat.le_of_ble_eq_true rfl, Nat.le_of_ble_eq_true rfl⟩ ⟨by decide, by decide⟩ (fun E9 ce9 q9 H9 lc9 ls9 hx9 h91 h92 h93 h94 h95 h96 h97 => q_outX G ht (⟨hx9.1, by have h9 := hx9.2; unfold e_4; omega⟩) h91 h93 h95 h96 h97 (by omega) (by omega)) (fun v9 M9 hq9 => ?_)
    obtain ⟨⟨rfl, e9⟩, zD⟩ := hq9
    refine q_st (st2 := []) rfl ?_
    refine q_mem e9 ?_
    refine q_aload_n G 0 0 dX4_publish_4 rfl rfl ?_
    refine q_gt (v := .null) G dX4_publish_5 fl_X4_42 o0 (by decide) rfl (congrArg va_rf r6) ?_
    refine q_ifnull (x := none) (tgt := 31) G dX4_publish_8 (by decide) (fun _ => ?_) (fun _ h9 => nomatch h9)
    exact q_throw (P0 := []) G hl qt_54_139 (⟨rfl, by unfold e_4; omega⟩) dX4_publish_31 dX4_publish_34 dX4_publish_35 dX4_publish_37 dX4_publish_40 ht (by decide) (by decide) (by decide) (by decide) (by omega) (by omega)
  · have r6 : mR M (ad 0) 6 = some (ad (rnN σ)) := by rw [y6, if_pos hU]
    have hB6 := hW.2.1.2.2 hU
    have hrn : 14 ≤ rnN σ ∧ rnN σ < 30 := by unfold rnN; omega
    have oR := CS_rd hC hrn.1 hrn.2
    obtain ⟨⟨q0r, q3r, q4r⟩, q1r, q2r, q5r⟩ := yR hU
    have hk := hW.2.2.2.2.2.2 hU
    obtain ⟨⟨hk1, hk2, hk3⟩, hk4, hk5, hk6, hk7⟩ := hk
    clear hk6 hk7
    refine q_aload_n G 0 0 dX4_publish_0 rfl rfl ?_
    refine q_callVX (As := []) (rest := []) G dX4_publish_1 cw_X4_63 (c_X4_needDiscriminant l hl D cy M (ad 0) o0 z4) o0.1 o0.2 (by decide) rfl rfl rfl (Nat.le_of_ble_eq_true rfl) rfl rfl ⟨Nat.le_of_ble_eq_true rfl, Nat.le_of_ble_eq_true rfl⟩ ⟨by decide, by decide⟩ (fun E9 ce9 q9 H9 lc9 ls9 hx9 h91 h92 h93 h94 h95 h96 h97 => q_outX G ht (⟨hx9.1, by have h9 := hx9.2; unfold e_4; omega⟩) h91 h93 h95 h96 h97 (by omega) (by omega)) (fun v9 M9 hq9 => ?_)
    obtain ⟨⟨rfl, e9⟩, zD⟩ := hq9
    refine q_st (st2 := []) rfl ?_
    refine q_mem e9 ?_
    refine q_aload_n G 0 0 dX4_publish_4 rfl rfl ?_
    refine q_gt (v := .ref (ad (rnN σ))) G dX4_publish_5 fl_X4_42 o0 (by decide) rfl (congrArg va_rf r6) ?_
    refine q_ifnull (x := some (ad (rnN σ))) (tgt := 31) G dX4_publish_8 (by decide) (fun h9 => nomatch h9) (fun _ _ => ?_)
    refine q_aload_n G 0 0 dX4_publish_11 rfl rfl ?_
    refine q_gt (v := .ref (ad (rnN σ))) G dX4_publish_12 fl_X4_42 o0 (by decide) rfl (congrArg va_rf r6) ?_
    refine q_gt (v := .int (qI (mI M (ad (rnN σ)) 1))) G dX4_publish_15 fl_X4_74 oR (by decide) rfl rfl ?_
    refine q_if_gt (tgt := 31) G dX4_publish_18 (by decide) (by first | assumption | omega) (fun c1 => ?_) (fun c1 => ?_)
    · exact q_throw (P0 := []) G hl qt_54_139 (⟨rfl, by unfold e_4; omega⟩) dX4_publish_31 dX4_publish_34 dX4_publish_35 dX4_publish_37 dX4_publish_40 ht (by decide) (by decide) (by decide) (by decide) (by omega) (by omega)
    · refine q_aload_n G 0 0 dX4_publish_21 rfl rfl ?_
      refine q_gt (v := .ref (ad (rnN σ))) G dX4_publish_22 fl_X4_42 o0 (by decide) rfl (congrArg va_rf r6) ?_
      refine q_gt (v := .int (qI (mI M (ad (rnN σ)) 2))) G dX4_publish_25 fl_X4_77 oR (by decide) rfl rfl ?_
      refine q_if_le (tgt := 41) G dX4_publish_28 (by decide) (by first | assumption | omega) (fun c2 => ?_) (fun c2 => ?_)
      · refine q_aload_n G 0 0 dX4_publish_41 rfl rfl ?_
        refine q_null G dX4_publish_42 ?_
        refine q_pR (z := none) G dX4_publish_43 pl_X4_42n nf_4_6 o0 (by decide) (Nat.le_of_ble_eq_true rfl) (fs_4_6 _ _ _) ?_
        refine q_aload_n G 0 0 dX4_publish_46 rfl rfl ?_
        refine q_dup G dX4_publish_47 rfl ?_
        refine q_gt (v := .int (qI (mI M (ad 0) 5))) G dX4_publish_48 fl_X4_38 o0 (by decide) rfl rfl ?_
        refine q_iconst G dX4_publish_51 ?_
        refine q_iadd G dX4_publish_52 ?_
        refine q_pI (z := (mI M (ad 0) 5) + 1) G dX4_publish_53 (pl_X4_38 _) nf_4_5 o0 (by decide) (Nat.le_of_ble_eq_true rfl) (fs_4_5 _ _ _) ?_
        refine q_aload_n G 0 0 dX4_publish_56 rfl rfl ?_
        refine q_gt (v := .int (qI ((mI M (ad 0) 5) + 1))) G dX4_publish_57 fl_X4_38 o0 (by decide) rfl (by simp [mI, mL, mR, sL, sI, sR, wL, wD, stF, up2]) ?_
        refine q_retX ?_
        exact q_iret G dX4_publish_60 hret (by omega) (by omega) (⟨(by unfold e_4; omega), ⟨up2 (mI M) (ad 0) 5 (mI M (ad 0) 5 + 1), mL M, up2 (mR M) (ad 0) 6 none, rfl, fun b hb => ⟨up2_row _ _ (hb 0 (by decide)), rfl, up2_row _ _ (hb 0 (by decide))⟩, CS_w (M := M) (R' := up2 (mR M) (ad 0) 6 none) (I' := up2 (mI M) (ad 0) 5 (mI M (ad 0) 5 + 1)) (L' := mL M) hC (fun a k h9 => up2_n _ _ h9), CD_P hC hW hY hU (fun a k h9 => up2_n _ _ h9) (by rw [up2_s, y5]) (up2_s _ _ _ _), by rw [y5]; rfl⟩⟩)
      · exact q_throw (P0 := []) G hl qt_54_139 (⟨rfl, by unfold e_4; omega⟩) dX4_publish_31 dX4_publish_34 dX4_publish_35 dX4_publish_37 dX4_publish_40 ht (by decide) (by decide) (by decide) (by decide) (by omega) (by omega)
set_option maxRecDepth 100000 in
set_option maxHeartbeats 4000000 in
theorem c_X4_buffer (l : Launch) (hl : l.stackTraces = false) (D : va_G) (cy : Nat → ClassId) (M : qM) (ad : Nat → Nat) (hC : CSt M ad) (σ : qS) (hY : CDy σ ad (mI M) (mL M) (mR M)) (hW : WF σ) (i k : Int) (hi : r32 i) (hk : r32 k) : qCx l D cy yX4_buffer cX4_buffer 3 (some .long) { frames := 7, cells := 4, slots := 24, locals := 111 } 4 24 [.ref (ad 0), .int (qI (i)), .int (qI (k))] M (fun v M' => e_11 σ i k = 0 ∧ poC M ad (σ) (fun v => v = some (.long (qL (a_11 σ i k)))) v M') (fun E => (E = sIS ∧ e_11 σ i k = 1) ∨ (E = sIO ∧ e_11 σ i k = 2) ∨ (E = sNS ∧ e_11 σ i k = 3)) := by
  refine qCx_of (lv0 := [(0, .ref (ad 0)), (1, .int (qI (i))), (2, .int (qI (k)))]) (by decide) rfl (Nat.le_of_ble_eq_true rfl) ?_
  intro p e s m args below meth c G ht hret
  obtain ⟨⟨y4, y5, y6⟩, yD, yV, yF, yB, yR, -⟩ := id hY
  obtain ⟨w1, w2, w3⟩ := WF_n hW
  have o0 := CS_x hC
  have o1 := CS_fo hC
  have a11 := CS_a1 hC
  have a12 := CS_a2 hC
  have a13 := CS_a3 hC
  obtain ⟨s0, s1, s2, s3⟩ := hC.2.2.2.1
  have z4 : mI M (ad 0) 4 = 0 ∨ mI M (ad 0) 4 = 1 := by omega
  refine q_aload_n G 0 0 dX4_buffer_0 rfl rfl ?_
  refine q_callVX (As := []) (rest := []) G dX4_buffer_1 cw_X4_63 (c_X4_needDiscriminant l hl D cy M (ad 0) o0 z4) o0.1 o0.2 (by decide) rfl rfl rfl (Nat.le_of_ble_eq_true rfl) rfl rfl ⟨Nat.le_of_ble_eq_true rfl, Nat.le_of_ble_eq_true rfl⟩ ⟨by decide, by decide⟩ (fun E9 ce9 q9 H9 lc9 ls9 hx9 h91 h92 h93 h94 h95 h96 h97 => q_outX G ht (Or.inl (⟨hx9.1, by have h9 := hx9.2; unfold e_11; omega⟩)) h91 h93 h95 h96 h97 (by omega) (by omega)) (fun v9 M9 hq9 => ?_)
  obtain ⟨⟨rfl, e9⟩, zD⟩ := hq9
  refine q_st (st2 := []) rfl ?_
  refine q_mem e9 ?_
  refine q_iload_n G 1 1 dX4_buffer_4 rfl rfl ?_
  refine q_callSX (As := [.int (qI (i))]) (rest := []) G dX4_buffer_5 cw_X4_170 (c_X4_needSlot l hl D cy M i (by omega)) rfl rfl (Nat.le_of_ble_eq_true rfl) rfl rfl ⟨Nat.le_of_ble_eq_true rfl, Nat.le_of_ble_eq_true rfl⟩ ⟨by decide, by decide⟩ (fun E9 ce9 q9 H9 lc9 ls9 hx9 h91 h92 h93 h94 h95 h96 h97 => q_outX G ht (Or.inr (Or.inl (⟨hx9.1, by have h9 := hx9.2; unfold e_11; omega⟩))) h91 h93 h95 h96 h97 (by omega) (by omega)) (fun v9 M9 hq9 => ?_)
  obtain ⟨⟨rfl, e9⟩, zS⟩ := hq9
  refine q_st (st2 := []) rfl ?_
  refine q_mem e9 ?_
  refine q_iload_n G 2 2 dX4_buffer_8 rfl rfl ?_
  refine q_callSX (As := [.int (qI (k))]) (rest := []) G dX4_buffer_9 cw_X4_150 (c_X4_needPart l hl D cy M k (by omega)) rfl rfl (Nat.le_of_ble_eq_true rfl) rfl rfl ⟨Nat.le_of_ble_eq_true rfl, Nat.le_of_ble_eq_true rfl⟩ ⟨by decide, by decide⟩ (fun E9 ce9 q9 H9 lc9 ls9 hx9 h91 h92 h93 h94 h95 h96 h97 => q_outX G ht (Or.inr (Or.inl (⟨hx9.1, by have h9 := hx9.2; unfold e_11; omega⟩))) h91 h93 h95 h96 h97 (by omega) (by omega)) (fun v9 M9 hq9 => ?_)
  obtain ⟨⟨rfl, e9⟩, zP⟩ := hq9
  refine q_st (st2 := []) rfl ?_
  refine q_mem e9 ?_
  refine q_aload_n G 0 0 dX4_buffer_12 rfl rfl ?_
  refine q_iload_n G 1 1 dX4_buffer_13 rfl rfl ?_
  refine q_callVX (As := [.int (qI (i))]) (rest := []) G dX4_buffer_14 cw_X4_185 (c_X4_needFilled l hl D cy M (ad 0) (ad 13) i o0 s3 a13 (by omega) (by have h9 := yV (Int.toNat i) (by omega); have h8 := hW.2.2.2.1 (Int.toNat i) (by omega); omega)) o0.1 o0.2 (by decide) rfl rfl rfl (Nat.le_of_ble_eq_true rfl) rfl rfl ⟨Nat.le_of_ble_eq_true rfl, Nat.le_of_ble_eq_true rfl⟩ ⟨by decide, by decide⟩ (fun E9 ce9 q9 H9 lc9 ls9 hx9 h91 h92 h93 h94 h95 h96 h97 => q_outX G ht (Or.inr (Or.inr (⟨hx9.1, by have h9 := hx9.2; have h8 := yV (Int.toNat i) (by omega); unfold e_11; omega⟩))) h91 h93 h95 h96 h97 (by omega) (by omega)) (fun v9 M9 hq9 => ?_)
  obtain ⟨⟨rfl, e9⟩, zF⟩ := hq9
  refine q_st (st2 := []) rfl ?_
  refine q_mem e9 ?_
  have zFv := yV (Int.toNat i) (by omega)
  have zFw := hW.2.2.2.1 (Int.toNat i) (by omega)
  refine q_aload_n G 0 0 dX4_buffer_17 rfl rfl ?_
  refine q_gt (v := .ref (ad 12)) G dX4_buffer_18 fl_X4_25 o0 (by decide) rfl (congrArg va_rf s2) ?_
  refine q_iload_n G 1 1 dX4_buffer_21 rfl rfl ?_
  refine q_aaloadF G dX4_buffer_22 a12.1 a12.2.1 (by first | assumption | omega) (show (i) < ((mN M (ad 12) : Nat) : Int) by rw [a12.2.2]; omega) (show mN M (ad 12) < 2147483648 by rw [a12.2.2]; decide) ?_
  refine q_st (st2 := [.ref (ad (78 + (Int.toNat i)))]) (congrArg (fun z => va_rf z :: _) (hC.2.2.2.2.2.2.1 (Int.toNat i) (by omega))) ?_
  refine q_iload_n G 2 2 dX4_buffer_23 rfl rfl ?_
  refine q_callV (As := [.int (qI (k))]) (rest := []) G dX4_buffer_24 cw_X4_153 (c_X1_part l D cy M (ad (78 + (Int.toNat i))) k (CS_fm hC (show 30 ≤ 78 + Int.toNat i by omega) (by omega)) (by omega)) (CS_fm hC (show 30 ≤ 78 + Int.toNat i by omega) (by omega)).1 (CS_fm hC (show 30 ≤ 78 + Int.toNat i by omega) (by omega)).2 (by decide) rfl rfl rfl (Nat.le_of_ble_eq_true rfl) rfl rfl ⟨Nat.le_of_ble_eq_true rfl, Nat.le_of_ble_eq_true rfl⟩ ⟨by decide, by decide⟩ (fun v9 M9 hq9 => ?_)
  obtain ⟨rfl, e9⟩ := hq9
  refine q_mem e9 ?_
  refine q_st (st2 := [.long (qL (ptT (gT (mL M) (ad (78 + (Int.toNat i)))) k))]) rfl ?_
  refine q_retX ?_
  exact q_lret G dX4_buffer_27 hret (by omega) (by omega) (⟨(by unfold e_11; omega), ⟨mI M, mL M, mR M, rfl, fun _ _ => ⟨rfl, rfl, rfl⟩, hC, hY, by unfold a_11; rw [← (yF (Int.toNat i) (Or.inl ⟨by omega, by omega⟩)), (show frN σ (Int.toNat i) = 78 + Int.toNat i by unfold frN; rw [if_pos (by omega)])]⟩⟩)
