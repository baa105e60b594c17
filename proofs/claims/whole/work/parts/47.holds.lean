theorem quo_pos {p q : Int} (hp : 0 ≤ p) (hq : 0 < q) : quo p q = p / q := by
  unfold quo; rw [if_neg (by omega)]; exact Int.tdiv_eq_ediv_of_nonneg hp
theorem ediv_le {p q N : Int} (hp : 0 ≤ p) (hN : p ≤ N) (hq : 0 < q) : 0 ≤ p / q ∧ p / q ≤ N := by
  have h1 := Int.ediv_nonneg hp (show 0 ≤ q by omega)
  have h2 := Int.ediv_le_self q hp
  omega
set_option maxRecDepth 100000 in
set_option maxHeartbeats 4000000 in
theorem c_X2_hasForm (l : Launch) (D : va_G) (cy : Nat → ClassId) (M : qM) (fo eu : Nat) (hF : qO M fo 2) (r3 : mR M fo 3 = some eu) (o3 : qO M eu 0) (ka kb : Int) (hd0 : 0 < mI M fo 0) (hd9 : mI M fo 0 ≤ 1000000000) (hka : 1 ≤ ka ∧ ka ≤ 100000) (hkb : -100000 ≤ kb ∧ kb ≤ 100000) : qCt l D cy yX2_hasForm cX2_hasForm 7 (some .boolean) { frames := 3, cells := 0, slots := 0, locals := 86 } 0 0 [.ref fo, .long (qL (ka)), .long (qL (kb))] M (po_bool M eu ((kb * kb + mI M fo 0) % (4 * ka) = 0 ∧ fPr ka kb ((kb * kb + mI M fo 0) / (4 * ka)))) := by
  refine qCt_of (lv0 := [(0, .ref fo), (1, .long (qL (ka))), (3, .long (qL (kb)))]) (by decide) rfl (Nat.le_of_ble_eq_true rfl) ?_
  intro p e s m args below meth c G hname hret
  have hsq := sq_le (n := 100000) hkb.1 hkb.2
  have hsq0 := sq_nn kb
  have hm1 := Int.emod_nonneg (kb * kb + mI M fo 0) (show 4 * ka ≠ 0 by omega)
  have hm2 := Int.emod_lt_of_pos (kb * kb + mI M fo 0) (show 0 < 4 * ka by omega)
  have hq1 := ediv_le (p := kb * kb + mI M fo 0) (q := 4 * ka) (N := 11000000000) (by omega) (by omega) (by omega)
  refine q_lload_n G 2 3 dX2_hasForm_0 rfl rfl ?_
  refine q_lload_n G 2 3 dX2_hasForm_1 rfl rfl ?_
  refine q_lmul G dX2_hasForm_2 ?_
  refine q_aload_n G 0 0 dX2_hasForm_3 rfl rfl ?_
  refine q_gt (v := .int (qI (mI M fo 0))) G dX2_hasForm_4 fl_X2_9 hF (by decide) rfl rfl ?_
  refine q_i2l G dX2_hasForm_7 (by first | assumption | omega) ?_
  refine q_ladd G dX2_hasForm_8 ?_
  refine q_lstore (lv' := [(5, .long (qL ((kb * kb) + (mI M fo 0)))), (0, .ref fo), (1, .long (qL (ka))), (3, .long (qL (kb)))]) G dX2_hasForm_9 (by decide) rfl ?_
  refine q_lload G 0 dX2_hasForm_11 rfl ?_
  refine q_ldc2 (z := 4) G dX2_hasForm_13 tw_280 (by decide +kernel) ?_
  refine q_lload_n G 2 1 dX2_hasForm_16 rfl rfl ?_
  refine q_lmul G dX2_hasForm_17 ?_
  refine q_callSN (As := [.long (qL ((kb * kb) + (mI M fo 0))), .long (qL (4 * ka))]) (rest := []) G dX2_hasForm_18 cw_X2_76 (c_X4_remainder l D cy M ((kb * kb) + (mI M fo 0)) (4 * ka) (by omega) (by omega)) rfl rfl (Nat.le_of_ble_eq_true rfl) rfl rfl ⟨Nat.le_of_ble_eq_true rfl, Nat.le_of_ble_eq_true rfl⟩ ⟨by decide, by decide⟩ (fun v9 M9 hq9 => ?_)
  obtain ⟨rfl, e9⟩ := hq9
  refine q_mem e9 ?_
  refine q_st (st2 := [.long (qL (rmd ((kb * kb) + (mI M fo 0)) (4 * ka)))]) rfl ?_
  refine q_topL (z2 := (kb * kb + mI M fo 0) % (4 * ka)) (rmd_mod (by omega)) ?_
  refine q_lconst (z := 0) G dX2_hasForm_21 (by decide +kernel) ?_
  refine q_lcmp_ne (tgt := 49) G dX2_hasForm_22 dX2_hasForm_23 (by decide) (by first | assumption | omega) (by first | assumption | omega) (fun c1 => ?_) (fun c1 => ?_)
  · refine q_iconst G dX2_hasForm_49 ?_
    exact q_zret G dX2_hasForm_50 hret (by decide +kernel) (by omega) (by omega) (⟨_, rfl, Or.inr ⟨rfl, fun h9 => absurd h9.1 (by omega)⟩, _, _, _, (by rw [stF_self]; rfl)⟩)
  · refine q_aload_n G 1 0 dX2_hasForm_26 rfl rfl ?_
    refine q_lload_n G 2 1 dX2_hasForm_27 rfl rfl ?_
    refine q_lload_n G 3 3 dX2_hasForm_28 rfl rfl ?_
    refine q_lload G 0 dX2_hasForm_29 rfl ?_
    refine q_ldc2 (z := 4) G dX2_hasForm_31 tw_280 (by decide +kernel) ?_
    refine q_lload_n G 2 1 dX2_hasForm_34 rfl rfl ?_
    refine q_lmul G dX2_hasForm_35 ?_
    refine q_callSN (As := [.long (qL ((kb * kb) + (mI M fo 0))), .long (qL (4 * ka))]) (rest := [.long (qL (kb)), .long (qL (ka)), .ref fo]) G dX2_hasForm_36 cw_X2_69 (c_X4_quotient l D cy M ((kb * kb) + (mI M fo 0)) (4 * ka) (by omega) (by omega)) rfl rfl (Nat.le_of_ble_eq_true rfl) rfl rfl ⟨Nat.le_of_ble_eq_true rfl, Nat.le_of_ble_eq_true rfl⟩ ⟨by decide, by decide⟩ (fun v9 M9 hq9 => ?_)
    obtain ⟨rfl, e9⟩ := hq9
    refine q_mem e9 ?_
    refine q_st (st2 := [.long (qL (quo ((kb * kb) + (mI M fo 0)) (4 * ka))), .long (qL (kb)), .long (qL (ka)), .ref fo]) rfl ?_
    refine q_topL (z2 := (kb * kb + mI M fo 0) / (4 * ka)) (quo_pos (by omega) (by omega)) ?_
    refine q_callV (As := [.long (qL (ka)), .long (qL (kb)), .long (qL ((kb * kb + mI M fo 0) / (4 * ka)))]) (rest := []) G dX2_hasForm_39 cw_X2_79 (c_X2_hasNoCommonDivisor l D cy M fo eu hF r3 o3 ka kb ((kb * kb + mI M fo 0) / (4 * ka)) (by omega) (by omega) (by omega)) hF.1 hF.2 (by decide) rfl rfl rfl (Nat.le_of_ble_eq_true rfl) rfl rfl ⟨Nat.le_of_ble_eq_true rfl, Nat.le_of_ble_eq_true rfl⟩ ⟨by decide, by decide⟩ (fun v9 M9 hq9 => ?_)
    obtain ⟨z9, rfl, hz9, x9, y9, w9, e9⟩ := hq9
    refine q_st (st2 := [.int (qI (z9))]) rfl ?_
    refine q_mem e9 ?_
    refine q_if_eq (tgt := 49) G dX2_hasForm_42 (by decide) (by first | assumption | omega) (fun c2 => ?_) (fun c2 => ?_)
    · refine q_iconst G dX2_hasForm_49 ?_
      exact q_zret G dX2_hasForm_50 hret (by decide +kernel) (by omega) (by omega) (⟨_, rfl, Or.inr ⟨rfl, fun h9 => (hz9.resolve_left (fun h => by omega)).2 h9.2⟩, _, _, _, rfl⟩)
    · refine q_iconst G dX2_hasForm_45 ?_
      refine q_goto (tgt := 50) G dX2_hasForm_46 (by decide) ?_
      exact q_zret G dX2_hasForm_50 hret (by decide +kernel) (by omega) (by omega) (⟨_, rfl, Or.inl ⟨rfl, by omega, (hz9.resolve_right (fun h => by omega)).2⟩, _, _, _, rfl⟩)
def po_same (M : qM) (S : List Nat) (P : Prop) : Option Value → qM → Prop := fun v M' => ∃ z : Int, v = some (.int (qI z)) ∧ ((z = 1 ∧ P) ∨ (z = 0 ∧ ¬ P)) ∧ ∃ L, M' = wL M L ∧ frm M L S
theorem frm_p {M : qM} {L : Nat → Nat → Int} {lf rg eu ba so res on ot : Nat} (hres : res = on ∨ res = ot) (h : ∀ b k, b ≠ lf → b ≠ rg → b ≠ eu → b ≠ ba → b ≠ so → b ≠ res → L b k = mL M b k) : frm M L [lf, rg, eu, ba, so, on, ot] := by
  intro b k hb
  simp only [List.mem_cons, List.not_mem_nil, or_false, not_or] at hb
  obtain ⟨h1, h2, h3, h4, h5, h6, h7⟩ := hb
  refine h b k h1 h2 h3 h4 h5 ?_
  rcases hres with rfl | rfl
  · exact h6
  · exact h7
theorem frm_q {M : qM} {L : Nat → Nat → Int} {lf rg eu ba so on ot : Nat} (h : ∀ b k, b ≠ lf → b ≠ rg → b ≠ eu → b ≠ on → L b k = mL M b k) : frm M L [lf, rg, eu, ba, so, on, ot] := by
  intro b k hb
  simp only [List.mem_cons, List.not_mem_nil, or_false, not_or] at hb
  exact h b k hb.1 hb.2.1 hb.2.2.1 hb.2.2.2.2.2.1
theorem frm_c {M : qM} {L L' : Nat → Nat → Int} {S : List Nat} (h : frm M L S) (h' : frm (wL M L) L' S) : frm M L' S := fun b k hb => (h' b k hb).trans (h b k hb)
theorem bit_T {L : Nat → Nat → Int} {a b : Nat} {t t' : qT3} (h : gT L a = t) (h' : gT L b = t') : ∃ z : Int, (if L a 0 = L b 0 ∧ L a 1 = L b 1 ∧ L a 2 = L b 2 then (1 : Int) else 0) = z ∧ ((z = 1 ∧ t = t') ∨ (z = 0 ∧ ¬ t = t')) := by
  refine ⟨_, rfl, ?_⟩
  rw [if_T, show ((L a 0, L a 1, L a 2) : qT3) = t from h, show ((L b 0, L b 1, L b 2) : qT3) = t' from h']
  by_cases e : t = t'
  · rw [if_pos e]; exact Or.inl ⟨rfl, e⟩
  · rw [if_neg e]; exact Or.inr ⟨rfl, e⟩
set_option maxRecDepth 100000 in
set_option maxHeartbeats 4000000 in
theorem c_X2_isGeneratorsPower (l : Launch) (D : va_G) (cy : Nat → ClassId) (M : qM) (fo un ge eu lf rg ba so on ot : Nat) (hFO : qFO M fo un ge eu lf rg ba so on ot) (hd : dOk (mI M fo 0)) (hun : gT (mL M) un = unT (mI M fo 0)) (h : Nat) (n : Int) (hO : qO M h 1) (hn : 0 ≤ n ∧ n < 2147483648) (gg : gd (mI M fo 0) (gT (mL M) ge)) (gh : gd (mI M fo 0) (gT (mL M) h)) (nh : h ∉ [lf, rg, eu, ba, so, on, ot]) : qCt l D cy yX2_isGeneratorsPower cX2_isGeneratorsPower 3 (some .boolean) { frames := 5, cells := 0, slots := 0, locals := 127 } 0 0 [.ref fo, .ref h, .int (qI (n))] M (po_same M [lf, rg, eu, ba, so, on, ot] (powT (unT (mI M fo 0)) (gT (mL M) ge) n = gT (mL M) h)) := by
  refine qCt_of (lv0 := [(0, .ref fo), (1, .ref h), (2, .int (qI (n)))]) (by decide) rfl (Nat.le_of_ble_eq_true rfl) ?_
  intro p e s m args below meth c G hname hret
  obtain ⟨hF, ⟨r1, r2, r3, r4, r5, r6, r7, r8, r9⟩, ⟨o1, o2, o3, o4, o5, o6, o7, o8, o9⟩, hnd, hdi⟩ := id hFO
  refine q_aload_n G 0 0 dX2_isGeneratorsPower_0 rfl rfl ?_
  refine q_aload_n G 0 0 dX2_isGeneratorsPower_1 rfl rfl ?_
  refine q_gt (v := .ref ge) G dX2_isGeneratorsPower_2 fl_X2_22 hF (by decide) rfl (congrArg va_rf r2) ?_
  refine q_iload_n G 2 2 dX2_isGeneratorsPower_5 rfl rfl ?_
  refine q_aload_n G 0 0 dX2_isGeneratorsPower_6 rfl rfl ?_
  refine q_gt (v := .ref on) G dX2_isGeneratorsPower_7 fl_X2_44 hF (by decide) rfl (congrArg va_rf r8) ?_
  refine q_callV (As := [.ref ge, .int (qI (n)), .ref on]) (rest := []) G dX2_isGeneratorsPower_10 cw_X2_114 (c_X2_power l D cy M fo un ge eu lf rg ba so on ot hFO hd hun ge on n o2 o8 hn gg) hF.1 hF.2 (by decide) rfl rfl rfl (Nat.le_of_ble_eq_true rfl) rfl rfl ⟨Nat.le_of_ble_eq_true rfl, Nat.le_of_ble_eq_true rfl⟩ ⟨by decide, by decide⟩ (fun v9 M9 hq9 => ?_)
  obtain ⟨rfl, L1, e9, fr1, v1, g1⟩ := hq9
  refine q_st (st2 := []) rfl ?_
  refine q_mem (M2 := wL M L1) e9 ?_
  have fm1 := frm_p (on := on) (ot := ot) (Or.inl rfl) fr1
  have hh1 : gT L1 h = gT (mL M) h := frm_T fm1 nh
  have q1 := sOk_r (L := L1) (h := on) (d := mI M fo 0) (by have := hd.1; omega) (by rw [v1]; exact g1)
  have q2 := sOk_r (L := L1) (h := h) (d := mI M fo 0) (by have := hd.1; omega) (by rw [hh1]; exact gh)
  refine q_aload_n G 0 0 dX2_isGeneratorsPower_13 rfl rfl ?_
  refine q_gt (v := .ref on) G dX2_isGeneratorsPower_14 fl_X2_44 hF (by decide) rfl (congrArg va_rf r8) ?_
  refine q_aload_n G 1 1 dX2_isGeneratorsPower_17 rfl rfl ?_
  refine q_callV (As := [.ref h]) (rest := []) G dX2_isGeneratorsPower_18 cw_X2_118 (c_X1_isSame l D cy (wL M L1) on h o8 hO (show r64 (L1 on 0) by omega) (show r64 (L1 on 1) by omega) (show r64 (L1 on 2) by omega) (show r64 (L1 h 0) by omega) (show r64 (L1 h 1) by omega) (show r64 (L1 h 2) by omega)) o8.1 o8.2 (by decide) rfl rfl rfl (Nat.le_of_ble_eq_true rfl) rfl rfl ⟨Nat.le_of_ble_eq_true rfl, Nat.le_of_ble_eq_true rfl⟩ ⟨by decide, by decide⟩ (fun v9 M9 hq9 => ?_)
  obtain ⟨rfl, e9⟩ := hq9
  refine q_mem e9 ?_
  refine q_st (st2 := [.int (qI (if mL (wL M L1) on 0 = mL (wL M L1) h 0 ∧ mL (wL M L1) on 1 = mL (wL M L1) h 1 ∧ mL (wL M L1) on 2 = mL (wL M L1) h 2 then 1 else 0))]) rfl ?_
  obtain ⟨z9, ez, hz⟩ := bit_T (L := L1) v1 hh1
  refine q_topI (z2 := z9) ez ?_
  exact q_zret G dX2_isGeneratorsPower_21 hret (by rcases hz with ⟨h9, -⟩ | ⟨h9, -⟩ <;> rw [h9] <;> decide +kernel) (by omega) (by omega) (⟨_, rfl, hz, _, rfl, fm1⟩)
set_option maxRecDepth 100000 in
set_option maxHeartbeats 4000000 in
theorem c_X2_holds (l : Launch) (D : va_G) (cy : Nat → ClassId) (M : qM) (fo un ge eu lf rg ba so on ot : Nat) (hFO : qFO M fo un ge eu lf rg ba so on ot) (hd : dOk (mI M fo 0)) (hun : gT (mL M) un = unT (mI M fo 0)) (x y pf : Nat) (pr sq : Int) (ox : qO M x 1) (oy : qO M y 1) (opf : qO M pf 1) (hpr : 2 ≤ pr ∧ pr ≤ 1000000000) (hsq : 0 ≤ sq ∧ sq ≤ 1000000) (gx : gd (mI M fo 0) (gT (mL M) x)) (gy : gd (mI M fo 0) (gT (mL M) y)) (gpf : gd (mI M fo 0) (gT (mL M) pf)) (nx : x ∉ [lf, rg, eu, ba, so, on, ot]) (ny : y ∉ [lf, rg, eu, ba, so, on, ot]) : qCt l D cy yX2_holds cX2_holds 6 (some .boolean) { frames := 5, cells := 0, slots := 0, locals := 127 } 0 0 [.ref fo, .ref x, .ref y, .ref pf, .int (qI (pr)), .int (qI (sq))] M (po_same M [lf, rg, eu, ba, so, on, ot] (mulT (powT (unT (mI M fo 0)) (gT (mL M) pf) pr) (powT (unT (mI M fo 0)) (gT (mL M) x) (rstN sq.toNat pr)) = gT (mL M) y)) := by
  refine qCt_of (lv0 := [(0, .ref fo), (1, .ref x), (2, .ref y), (3, .ref pf), (4, .int (qI (pr))), (5, .int (qI (sq)))]) (by decide) rfl (Nat.le_of_ble_eq_true rfl) ?_
  intro p e s m args below meth c G hname hret
  obtain ⟨hF, ⟨r1, r2, r3, r4, r5, r6, r7, r8, r9⟩, ⟨o1, o2, o3, o4, o5, o6, o7, o8, o9⟩, hnd, hdi⟩ := id hFO
  have hpr0 : 0 ≤ pr ∧ pr < 2147483648 := by omega
  have nun : un ∉ [lf, rg, eu, ba, so, on, ot] := by intro h9; simp only [List.nodup_cons] at hnd; exact hnd.1 (by simp only [List.mem_cons] at h9 ⊢; rcases h9 with h9 | h9 | h9 | h9 | h9 | h9 | h9 | h9 <;> simp [h9])
  have n_on_lf : on ≠ lf := (fun h9 => by subst h9; simp at hnd)
  have n_on_rg : on ≠ rg := (fun h9 => by subst h9; simp at hnd)
  have n_on_eu : on ≠ eu := (fun h9 => by subst h9; simp at hnd)
  have n_on_ba : on ≠ ba := (fun h9 => by subst h9; simp at hnd)
  have n_on_so : on ≠ so := (fun h9 => by subst h9; simp at hnd)
  have n_on_ot : on ≠ ot := (fun h9 => by subst h9; simp at hnd)
  have n_ot_lf : ot ≠ lf := (fun h9 => by subst h9; simp at hnd)
  refine q_aload_n G 0 0 dX2_holds_0 rfl rfl ?_
  refine q_aload_n G 3 3 dX2_holds_1 rfl rfl ?_
  refine q_iload G 4 dX2_holds_2 rfl ?_
  refine q_aload_n G 0 0 dX2_holds_4 rfl rfl ?_
  refine q_gt (v := .ref on) G dX2_holds_5 fl_X2_44 hF (by decide) rfl (congrArg va_rf r8) ?_
  refine q_callV (As := [.ref pf, .int (qI (pr)), .ref on]) (rest := []) G dX2_holds_8 cw_X2_114 (c_X2_power l D cy M fo un ge eu lf rg ba so on ot hFO hd hun pf on pr opf o8 hpr0 gpf) hF.1 hF.2 (by decide) rfl rfl rfl (Nat.le_of_ble_eq_true rfl) rfl rfl ⟨Nat.le_of_ble_eq_true rfl, Nat.le_of_ble_eq_true rfl⟩ ⟨by decide, by decide⟩ (fun v9 M9 hq9 => ?_)
  obtain ⟨rfl, L1, e9, fr1, v1, g1⟩ := hq9
  refine q_st (st2 := []) rfl ?_
  refine q_mem (M2 := wL M L1) e9 ?_
  have fm1 := frm_p (on := on) (ot := ot) (Or.inl rfl) fr1
  have hx1 : gT L1 x = gT (mL M) x := frm_T fm1 nx
  have hu1 : gT L1 un = gT (mL M) un := frm_T fm1 nun
  refine q_aload_n G 0 0 dX2_holds_11 rfl rfl ?_
  refine q_aload_n G 1 1 dX2_holds_12 rfl rfl ?_
  refine q_aload_n G 0 0 dX2_holds_13 rfl rfl ?_
  refine q_iload G 5 dX2_holds_14 rfl ?_
  refine q_iload G 4 dX2_holds_16 rfl ?_
  refine q_callV (As := [.int (qI (sq)), .int (qI (pr))]) (rest := [.ref x, .ref fo]) G dX2_holds_18 cw_X2_122 (c_X2_restOfPowerOfTwo l D cy (wL M L1) fo sq pr hsq (by omega) (by omega)) hF.1 hF.2 (by decide) rfl rfl rfl (Nat.le_of_ble_eq_true rfl) rfl rfl ⟨Nat.le_of_ble_eq_true rfl, Nat.le_of_ble_eq_true rfl⟩ ⟨by decide, by decide⟩ (fun v9 M9 hq9 => ?_)
  obtain ⟨rfl, e9⟩ := hq9
  refine q_mem e9 ?_
  refine q_st (st2 := [.int (qI (rstN sq.toNat pr)), .ref x, .ref fo]) rfl ?_
  refine q_aload_n G 0 0 dX2_holds_21 rfl rfl ?_
  refine q_gt (v := .ref ot) G dX2_holds_22 fl_X2_47 hF (by decide) rfl (congrArg va_rf r9) ?_
  refine q_callV (As := [.ref x, .int (qI (rstN sq.toNat pr)), .ref ot]) (rest := []) G dX2_holds_25 cw_X2_114 (c_X2_power l D cy (wL M L1) fo un ge eu lf rg ba so on ot hFO hd (hu1.trans hun) x ot (rstN sq.toNat pr) ox o9 (by have := rstN_in sq.toNat (p := pr) (by omega); omega) (show gd (mI M fo 0) (gT L1 x) by rw [hx1]; exact gx)) hF.1 hF.2 (by decide) rfl rfl rfl (Nat.le_of_ble_eq_true rfl) rfl rfl ⟨Nat.le_of_ble_eq_true rfl, Nat.le_of_ble_eq_true rfl⟩ ⟨by decide, by decide⟩ (fun v9 M9 hq9 => ?_)
  obtain ⟨rfl, L2, e9, fr2, v2, g2⟩ := hq9
  refine q_st (st2 := []) rfl ?_
  refine q_mem (M2 := wL M L2) e9 ?_
  have fm2 : frm (wL M L1) L2 [lf, rg, eu, ba, so, on, ot] := frm_p (Or.inr rfl) fr2
  have ho2 : gT L2 on = gT L1 on := gT_eq (fun k => fr2 on k n_on_lf n_on_rg n_on_eu n_on_ba n_on_so n_on_ot)
  refine q_aload_n G 0 0 dX2_holds_28 rfl rfl ?_
  refine q_aload_n G 0 0 dX2_holds_29 rfl rfl ?_
  refine q_gt (v := .ref on) G dX2_holds_30 fl_X2_44 hF (by decide) rfl (congrArg va_rf r8) ?_
  refine q_aload_n G 0 0 dX2_holds_33 rfl rfl ?_
  refine q_gt (v := .ref ot) G dX2_holds_34 fl_X2_47 hF (by decide) rfl (congrArg va_rf r9) ?_
  refine q_aload_n G 0 0 dX2_holds_37 rfl rfl ?_
  refine q_gt (v := .ref on) G dX2_holds_38 fl_X2_44 hF (by decide) rfl (congrArg va_rf r8) ?_
  refine q_callV (As := [.ref on, .ref ot, .ref on]) (rest := []) G dX2_holds_41 cw_X2_110 (c_prodT l D cy (wL M L2) fo un ge eu lf rg ba so on ot hFO hd on ot on o8 o9 o8 n_ot_lf (show gd (mI M fo 0) (gT L2 on) by rw [ho2, v1]; exact g1) (show gd (mI M fo 0) (gT L2 ot) by rw [v2]; exact g2)) hF.1 hF.2 (by decide) rfl rfl rfl (Nat.le_of_ble_eq_true rfl) rfl rfl ⟨Nat.le_of_ble_eq_true rfl, Nat.le_of_ble_eq_true rfl⟩ ⟨by decide, by decide⟩ (fun v9 M9 hq9 => ?_)
  obtain ⟨rfl, L3, e9, fr3, v3, g3, d3⟩ := hq9
  refine q_st (st2 := []) rfl ?_
  refine q_mem (M2 := wL M L3) e9 ?_
  have fm3 : frm (wL M L2) L3 [lf, rg, eu, ba, so, on, ot] := frm_q fr3
  have fm := frm_c (frm_c fm1 fm2) fm3
  have hy3 : gT L3 y = gT (mL M) y := frm_T fm ny
  have q1 := sOk_r (L := L3) (h := on) (d := mI M fo 0) (by have := hd.1; omega) g3
  have q2 := sOk_r (L := L3) (h := y) (d := mI M fo 0) (by have := hd.1; omega) (by rw [hy3]; exact gy)
  have v4 : gT L3 on = mulT (powT (unT (mI M fo 0)) (gT (mL M) pf) pr) (powT (unT (mI M fo 0)) (gT (mL M) x) (rstN sq.toNat pr)) := by rw [v3]; show mulT (gT L2 on) (gT L2 ot) = _; rw [ho2, v1, v2]; show mulT _ (powT (unT (mI M fo 0)) (gT L1 x) _) = _; rw [hx1]
  refine q_aload_n G 0 0 dX2_holds_44 rfl rfl ?_
  refine q_gt (v := .ref on) G dX2_holds_45 fl_X2_44 hF (by decide) rfl (congrArg va_rf r8) ?_
  refine q_aload_n G 2 2 dX2_holds_48 rfl rfl ?_
  refine q_callV (As := [.ref y]) (rest := []) G dX2_holds_49 cw_X2_118 (c_X1_isSame l D cy (wL M L3) on y o8 oy (show r64 (L3 on 0) by omega) (show r64 (L3 on 1) by omega) (show r64 (L3 on 2) by omega) (show r64 (L3 y 0) by omega) (show r64 (L3 y 1) by omega) (show r64 (L3 y 2) by omega)) o8.1 o8.2 (by decide) rfl rfl rfl (Nat.le_of_ble_eq_true rfl) rfl rfl ⟨Nat.le_of_ble_eq_true rfl, Nat.le_of_ble_eq_true rfl⟩ ⟨by decide, by decide⟩ (fun v9 M9 hq9 => ?_)
  obtain ⟨rfl, e9⟩ := hq9
  refine q_mem e9 ?_
  refine q_st (st2 := [.int (qI (if mL (wL M L3) on 0 = mL (wL M L3) y 0 ∧ mL (wL M L3) on 1 = mL (wL M L3) y 1 ∧ mL (wL M L3) on 2 = mL (wL M L3) y 2 then 1 else 0))]) rfl ?_
  obtain ⟨z9, ez, hz⟩ := bit_T (L := L3) v4 hy3
  refine q_topI (z2 := z9) ez ?_
  exact q_zret G dX2_holds_52 hret (by rcases hz with ⟨h9, -⟩ | ⟨h9, -⟩ <;> rw [h9] <;> decide +kernel) (by omega) (by omega) (⟨_, rfl, hz, _, rfl, fm⟩)
