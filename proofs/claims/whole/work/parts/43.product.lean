theorem eu_g {p q g u v : Int} (h : isEu p q g u v) (hp : 0 < p) : 0 < g ∧ g ≤ p := by
  obtain ⟨h1, h2, h3, h4, h5, h6⟩ := h
  have := Int.le_of_dvd hp h3
  refine ⟨?_, this⟩
  rcases Int.lt_or_eq_of_le h2 with h | h
  · exact h
  · subst h
    have := Int.zero_dvd.mp h3
    omega
theorem half_le (x : Int) : (x.tdiv 2).natAbs ≤ x.natAbs := by
  rw [Int.natAbs_tdiv]; exact Nat.div_le_self _ _
theorem half_r {x : Int} (h : -40000 ≤ x) (h2 : x ≤ 40000) : -40000 ≤ x.tdiv 2 ∧ x.tdiv 2 ≤ 40000 := by
  have := half_le x; omega
set_option maxRecDepth 100000 in
set_option maxHeartbeats 4000000 in
theorem c_X2_product (l : Launch) (D : va_G) (cy : Nat → ClassId) (M : qM) (fo un ge eu lf rg ba so on ot : Nat) (hFO : qFO M fo un ge eu lf rg ba so on ot) (hd : dOk (mI M fo 0)) (f g res : Nat) (hf : qO M f 1) (hg : qO M g 1) (hr : qO M res 1) (ngl : g ≠ lf) (gf : sOk (mI M fo 0) (mL M f 0) (mL M f 1) (mL M f 2)) (gg : sOk (mI M fo 0) (mL M g 0) (mL M g 1) (mL M g 2)) : qCt l D cy yX2_product cX2_product 16 none { frames := 3, cells := 0, slots := 0, locals := 68 } 0 0 [.ref fo, .ref f, .ref g, .ref res] M (po_product M lf rg eu f g res) := by
  refine qCt_of (lv0 := [(0, .ref fo), (1, .ref f), (2, .ref g), (3, .ref res)]) (by decide) rfl (Nat.le_of_ble_eq_true rfl) ?_
  intro p e s m args below meth c G hname hret
  obtain ⟨hF, ⟨r1, r2, r3, r4, r5, r6, r7, r8, r9⟩, ⟨o1, o2, o3, o4, o5, o6, o7, o8, o9⟩, hnd, hdi⟩ := id hFO
  have n1 : lf ≠ rg := (fun h9 => by subst h9; simp at hnd)
  have n2 : eu ≠ lf := (fun h9 => by subst h9; simp at hnd)
  have n3 : eu ≠ rg := (fun h9 => by subst h9; simp at hnd)
  refine q_aload_n G 0 0 dX2_product_0 rfl rfl ?_
  refine q_gt (v := .ref lf) G dX2_product_1 fl_X2_32 hF (by decide) rfl (congrArg va_rf r4) ?_
  refine q_aload_n G 1 1 dX2_product_4 rfl rfl ?_
  refine q_callV (As := [.ref f]) (rest := []) G dX2_product_5 cw_X2_101 (c_X1_become l D cy _ _ _ o4 hf) o4.1 o4.2 (by decide) rfl rfl rfl (Nat.le_of_ble_eq_true rfl) rfl rfl ⟨Nat.le_of_ble_eq_true rfl, Nat.le_of_ble_eq_true rfl⟩ ⟨by decide, by decide⟩ (fun v9 M9 hq9 => ?_)
  obtain ⟨rfl, e9⟩ := hq9
  refine q_mem e9 ?_
  refine q_st (st2 := []) rfl ?_
  refine q_aload_n G 0 0 dX2_product_8 rfl rfl ?_
  refine q_aload_n G 0 0 dX2_product_9 rfl rfl ?_
  refine q_gt (v := .ref lf) G dX2_product_10 fl_X2_32 hF (by decide) rfl (congrArg va_rf r4) ?_
  refine q_callV (As := [.ref lf]) (rest := []) G dX2_product_13 cw_X2_56 (c_X2_settle l D cy _ _ _ hF o4 (by show 0 < mI M fo 0; have := hd.1; omega) hd.2.1 (by simp only [mL_wL, stF_0, stF_1, stF_2]; exact gf)) hF.1 hF.2 (by decide) rfl rfl rfl (Nat.le_of_ble_eq_true rfl) rfl rfl ⟨Nat.le_of_ble_eq_true rfl, Nat.le_of_ble_eq_true rfl⟩ ⟨by decide, by decide⟩ (fun v9 M9 hq9 => ?_)
  obtain ⟨rfl, a1, b1, c1, e9, rd1, ps1, eq1⟩ := hq9
  refine q_st (st2 := []) rfl ?_
  refine q_mem (M2 := wL M (stF (mL M) lf a1 b1 c1)) (by rw [e9]; simp only [wL_wL, mL_wL, stF_stF]) ?_
  simp only [mL_wL, stF_0, stF_1, stF_2] at eq1
  have dk1 := (fEq_disc eq1).trans gf.2.1
  have x1 := rd_rng ps1 rd1 dk1 hd.2.1
  refine q_aload_n G 0 0 dX2_product_16 rfl rfl ?_
  refine q_gt (v := .ref rg) G dX2_product_17 fl_X2_35 hF (by decide) rfl (congrArg va_rf r5) ?_
  refine q_aload_n G 2 2 dX2_product_20 rfl rfl ?_
  refine q_callV (As := [.ref g]) (rest := []) G dX2_product_21 cw_X2_101 (c_X1_become l D cy _ _ _ o5 hg) o5.1 o5.2 (by decide) rfl rfl rfl (Nat.le_of_ble_eq_true rfl) rfl rfl ⟨Nat.le_of_ble_eq_true rfl, Nat.le_of_ble_eq_true rfl⟩ ⟨by decide, by decide⟩ (fun v9 M9 hq9 => ?_)
  obtain ⟨rfl, e9⟩ := hq9
  refine q_mem e9 ?_
  refine q_st (st2 := []) rfl ?_
  refine q_mem (M2 := wL M (stF (stF (mL M) lf a1 b1 c1) rg (mL M g 0) (mL M g 1) (mL M g 2))) (by simp only [wL_wL, mL_wL, stF_n _ _ _ _ ngl]) ?_
  refine q_aload_n G 0 0 dX2_product_24 rfl rfl ?_
  refine q_aload_n G 0 0 dX2_product_25 rfl rfl ?_
  refine q_gt (v := .ref rg) G dX2_product_26 fl_X2_35 hF (by decide) rfl (congrArg va_rf r5) ?_
  refine q_callV (As := [.ref rg]) (rest := []) G dX2_product_29 cw_X2_56 (c_X2_settle l D cy _ _ _ hF o5 (by show 0 < mI M fo 0; have := hd.1; omega) hd.2.1 (by simp only [mL_wL, stF_0, stF_1, stF_2]; exact gg)) hF.1 hF.2 (by decide) rfl rfl rfl (Nat.le_of_ble_eq_true rfl) rfl rfl ⟨Nat.le_of_ble_eq_true rfl, Nat.le_of_ble_eq_true rfl⟩ ⟨by decide, by decide⟩ (fun v9 M9 hq9 => ?_)
  obtain ⟨rfl, a2, b2, c2, e9, rd2, ps2, eq2⟩ := hq9
  refine q_st (st2 := []) rfl ?_
  refine q_mem (M2 := wL M (stF (stF (mL M) lf a1 b1 c1) rg a2 b2 c2)) (by rw [e9]; simp only [wL_wL, mL_wL, stF_stF]) ?_
  simp only [mL_wL, stF_0, stF_1, stF_2] at eq2
  have dk2 := (fEq_disc eq2).trans gg.2.1
  have y1 := rd_rng ps2 rd2 dk2 hd.2.1
  have hh := half_r (x := b1 + b2) (by omega) (by omega)
  refine q_aload_n G 0 0 dX2_product_32 rfl rfl ?_
  refine q_gt (v := .ref lf) G dX2_product_33 fl_X2_32 hF (by decide) rfl (congrArg va_rf r4) ?_
  refine q_gt (v := .long (qL (b1))) G dX2_product_36 fl_X2_64 o4 (by decide) rfl (by simp [mI, mL, mR, sL, sI, sR, wL, wD, stF, up2, n1, n1.symm, n2, n2.symm, n3, n3.symm]) ?_
  refine q_aload_n G 0 0 dX2_product_39 rfl rfl ?_
  refine q_gt (v := .ref rg) G dX2_product_40 fl_X2_35 hF (by decide) rfl (congrArg va_rf r5) ?_
  refine q_gt (v := .long (qL (b2))) G dX2_product_43 fl_X2_64 o5 (by decide) rfl (by simp [mI, mL, mR, sL, sI, sR, wL, wD, stF, up2, n1, n1.symm, n2, n2.symm, n3, n3.symm]) ?_
  refine q_ladd G dX2_product_46 ?_
  refine q_ldc2 (z := 2) G dX2_product_47 tw_284 (by decide +kernel) ?_
  refine q_ldiv G dX2_product_50 (by first | assumption | omega) (by first | assumption | omega) (by first | assumption | omega) ?_
  refine q_lstore (lv' := [(4, .long (qL ((b1 + b2).tdiv 2))), (0, .ref fo), (1, .ref f), (2, .ref g), (3, .ref res)]) G dX2_product_51 (by decide) rfl ?_
  refine q_aload_n G 1 0 dX2_product_53 rfl rfl ?_
  refine q_gt (v := .ref eu) G dX2_product_54 fl_X2_28 hF (by decide) rfl (congrArg va_rf r3) ?_
  refine q_aload_n G 1 0 dX2_product_57 rfl rfl ?_
  refine q_gt (v := .ref lf) G dX2_product_58 fl_X2_32 hF (by decide) rfl (congrArg va_rf r4) ?_
  refine q_gt (v := .long (qL (a1))) G dX2_product_61 fl_X2_60 o4 (by decide) rfl (by simp [mI, mL, mR, sL, sI, sR, wL, wD, stF, up2, n1, n1.symm, n2, n2.symm, n3, n3.symm]) ?_
  refine q_aload_n G 1 0 dX2_product_64 rfl rfl ?_
  refine q_gt (v := .ref rg) G dX2_product_65 fl_X2_35 hF (by decide) rfl (congrArg va_rf r5) ?_
  refine q_gt (v := .long (qL (a2))) G dX2_product_68 fl_X2_60 o5 (by decide) rfl (by simp [mI, mL, mR, sL, sI, sR, wL, wD, stF, up2, n1, n1.symm, n2, n2.symm, n3, n3.symm]) ?_
  refine q_callV (As := [.long (qL (a1)), .long (qL (a2))]) (rest := []) G dX2_product_71 cw_X2_83 (c_X0_find l D cy (wL M (stF (stF (mL M) lf a1 b1 c1) rg a2 b2 c2)) eu o3 (a1) (a2) (by omega) (by omega)) o3.1 o3.2 (by decide) rfl rfl rfl (Nat.le_of_ble_eq_true rfl) rfl rfl ⟨Nat.le_of_ble_eq_true rfl, Nat.le_of_ble_eq_true rfl⟩ ⟨by decide, by decide⟩ (fun v9 M9 hq9 => ?_)
  obtain ⟨rfl, g1, u, v, e9, eu1⟩ := hq9
  refine q_st (st2 := []) rfl ?_
  refine q_mem (M2 := wL M (stF (stF (stF (mL M) lf a1 b1 c1) rg a2 b2 c2) eu g1 u v)) (by rw [e9]; simp only [wL_wL, mL_wL]) ?_
  have hg1 := eu_g eu1 ps1
  refine q_aload_n G 1 0 dX2_product_74 rfl rfl ?_
  refine q_gt (v := .ref eu) G dX2_product_75 fl_X2_28 hF (by decide) rfl (congrArg va_rf r3) ?_
  refine q_gt (v := .long (qL (v))) G dX2_product_78 fl_X2_104 o3 (by decide) rfl (by simp [mI, mL, mR, sL, sI, sR, wL, wD, stF, up2, n1, n1.symm, n2, n2.symm, n3, n3.symm]) ?_
  refine q_lstore (lv' := [(6, .long (qL (v))), (4, .long (qL ((b1 + b2).tdiv 2))), (0, .ref fo), (1, .ref f), (2, .ref g), (3, .ref res)]) G dX2_product_81 (by decide) rfl ?_
  refine q_aload_n G 2 0 dX2_product_83 rfl rfl ?_
  refine q_gt (v := .ref eu) G dX2_product_84 fl_X2_28 hF (by decide) rfl (congrArg va_rf r3) ?_
  refine q_aload_n G 2 0 dX2_product_87 rfl rfl ?_
  refine q_gt (v := .ref eu) G dX2_product_88 fl_X2_28 hF (by decide) rfl (congrArg va_rf r3) ?_
  refine q_gt (v := .long (qL (g1))) G dX2_product_91 fl_X2_87 o3 (by decide) rfl (by simp [mI, mL, mR, sL, sI, sR, wL, wD, stF, up2, n1, n1.symm, n2, n2.symm, n3, n3.symm]) ?_
  refine q_lload G 1 dX2_product_94 rfl ?_
  refine q_callV (As := [.long (qL (g1)), .long (qL ((b1 + b2).tdiv 2))]) (rest := []) G dX2_product_96 cw_X2_83 (c_X0_find l D cy (wL M (stF (stF (stF (mL M) lf a1 b1 c1) rg a2 b2 c2) eu g1 u v)) eu o3 (g1) ((b1 + b2).tdiv 2) (by omega) (by omega)) o3.1 o3.2 (by decide) rfl rfl rfl (Nat.le_of_ble_eq_true rfl) rfl rfl ⟨Nat.le_of_ble_eq_true rfl, Nat.le_of_ble_eq_true rfl⟩ ⟨by decide, by decide⟩ (fun v9 M9 hq9 => ?_)
  obtain ⟨rfl, w, e1, e2, e9, eu2⟩ := hq9
  refine q_st (st2 := []) rfl ?_
  refine q_mem (M2 := wL M (stF (stF (stF (mL M) lf a1 b1 c1) rg a2 b2 c2) eu w e1 e2)) (by rw [e9]; simp only [wL_wL, mL_wL, stF_stF]) ?_
  obtain ⟨P1, P2, P3, P4, P5, P6⟩ := prod_ok (d := mI M fo 0) hd ps1 rd1 dk1 ps2 rd2 dk2 eu1 eu2
  dsimp only at P6
  obtain ⟨P7, P8, P9, P10⟩ := P6
  refine q_aload_n G 2 0 dX2_product_99 rfl rfl ?_
  refine q_gt (v := .ref eu) G dX2_product_100 fl_X2_28 hF (by decide) rfl (congrArg va_rf r3) ?_
  refine q_gt (v := .long (qL (w))) G dX2_product_103 fl_X2_87 o3 (by decide) rfl (by simp [mI, mL, mR, sL, sI, sR, wL, wD, stF, up2, n1, n1.symm, n2, n2.symm, n3, n3.symm]) ?_
  refine q_lstore (lv' := [(8, .long (qL (w))), (6, .long (qL (v))), (4, .long (qL ((b1 + b2).tdiv 2))), (0, .ref fo), (1, .ref f), (2, .ref g), (3, .ref res)]) G dX2_product_106 (by decide) rfl ?_
  refine q_aload_n G 3 0 dX2_product_108 rfl rfl ?_
  refine q_gt (v := .ref lf) G dX2_product_109 fl_X2_32 hF (by decide) rfl (congrArg va_rf r4) ?_
  refine q_gt (v := .long (qL (a1))) G dX2_product_112 fl_X2_60 o4 (by decide) rfl (by simp [mI, mL, mR, sL, sI, sR, wL, wD, stF, up2, n1, n1.symm, n2, n2.symm, n3, n3.symm]) ?_
  refine q_lload G 0 dX2_product_115 rfl ?_
  refine q_callSN (As := [.long (qL (a1)), .long (qL (w))]) (rest := []) G dX2_product_117 cw_X2_69 (c_X4_quotient l D cy _ (a1) (w) (by omega) (by omega)) rfl rfl (Nat.le_of_ble_eq_true rfl) rfl rfl ⟨Nat.le_of_ble_eq_true rfl, Nat.le_of_ble_eq_true rfl⟩ ⟨by decide, by decide⟩ (fun v9 M9 hq9 => ?_)
  obtain ⟨rfl, e9⟩ := hq9
  refine q_mem e9 ?_
  refine q_st (st2 := [.long (qL (quo (a1) (w)))]) rfl ?_
  refine q_lstore (lv' := [(10, .long (qL (quo (a1) (w)))), (8, .long (qL (w))), (6, .long (qL (v))), (4, .long (qL ((b1 + b2).tdiv 2))), (0, .ref fo), (1, .ref f), (2, .ref g), (3, .ref res)]) G dX2_product_120 (by decide) rfl ?_
  refine q_aload_n G 4 0 dX2_product_122 rfl rfl ?_
  refine q_gt (v := .ref rg) G dX2_product_123 fl_X2_35 hF (by decide) rfl (congrArg va_rf r5) ?_
  refine q_gt (v := .long (qL (a2))) G dX2_product_126 fl_X2_60 o5 (by decide) rfl (by simp [mI, mL, mR, sL, sI, sR, wL, wD, stF, up2, n1, n1.symm, n2, n2.symm, n3, n3.symm]) ?_
  refine q_lload G 1 dX2_product_129 rfl ?_
  refine q_callSN (As := [.long (qL (a2)), .long (qL (w))]) (rest := []) G dX2_product_131 cw_X2_69 (c_X4_quotient l D cy _ (a2) (w) (by omega) (by omega)) rfl rfl (Nat.le_of_ble_eq_true rfl) rfl rfl ⟨Nat.le_of_ble_eq_true rfl, Nat.le_of_ble_eq_true rfl⟩ ⟨by decide, by decide⟩ (fun v9 M9 hq9 => ?_)
  obtain ⟨rfl, e9⟩ := hq9
  refine q_mem e9 ?_
  refine q_st (st2 := [.long (qL (quo (a2) (w)))]) rfl ?_
  refine q_lstore (lv' := [(12, .long (qL (quo (a2) (w)))), (10, .long (qL (quo (a1) (w)))), (8, .long (qL (w))), (6, .long (qL (v))), (4, .long (qL ((b1 + b2).tdiv 2))), (0, .ref fo), (1, .ref f), (2, .ref g), (3, .ref res)]) G dX2_product_134 (by decide) rfl ?_
  refine q_aload_n G 5 0 dX2_product_136 rfl rfl ?_
  refine q_gt (v := .ref eu) G dX2_product_137 fl_X2_28 hF (by decide) rfl (congrArg va_rf r3) ?_
  refine q_gt (v := .long (qL (e1))) G dX2_product_140 fl_X2_107 o3 (by decide) rfl (by simp [mI, mL, mR, sL, sI, sR, wL, wD, stF, up2, n1, n1.symm, n2, n2.symm, n3, n3.symm]) ?_
  refine q_lload G 3 dX2_product_143 rfl ?_
  refine q_lmul G dX2_product_145 ?_
  refine q_lload G 4 dX2_product_146 rfl ?_
  refine q_aload_n G 5 0 dX2_product_148 rfl rfl ?_
  refine q_gt (v := .ref rg) G dX2_product_149 fl_X2_35 hF (by decide) rfl (congrArg va_rf r5) ?_
  refine q_gt (v := .long (qL (b2))) G dX2_product_152 fl_X2_64 o5 (by decide) rfl (by simp [mI, mL, mR, sL, sI, sR, wL, wD, stF, up2, n1, n1.symm, n2, n2.symm, n3, n3.symm]) ?_
  refine q_lsub G dX2_product_155 ?_
  refine q_lmul G dX2_product_156 ?_
  refine q_aload_n G 5 0 dX2_product_157 rfl rfl ?_
  refine q_gt (v := .ref eu) G dX2_product_158 fl_X2_28 hF (by decide) rfl (congrArg va_rf r3) ?_
  refine q_gt (v := .long (qL (e2))) G dX2_product_161 fl_X2_104 o3 (by decide) rfl (by simp [mI, mL, mR, sL, sI, sR, wL, wD, stF, up2, n1, n1.symm, n2, n2.symm, n3, n3.symm]) ?_
  refine q_aload_n G 5 0 dX2_product_164 rfl rfl ?_
  refine q_gt (v := .ref rg) G dX2_product_165 fl_X2_35 hF (by decide) rfl (congrArg va_rf r5) ?_
  refine q_gt (v := .long (qL (c2))) G dX2_product_168 fl_X2_73 o5 (by decide) rfl (by simp [mI, mL, mR, sL, sI, sR, wL, wD, stF, up2, n1, n1.symm, n2, n2.symm, n3, n3.symm]) ?_
  refine q_lmul G dX2_product_171 ?_
  refine q_lsub G dX2_product_172 ?_
  refine q_lstore (lv' := [(14, .long (qL (((e1 * v) * (((b1 + b2).tdiv 2) - b2)) - (e2 * c2)))), (12, .long (qL (quo (a2) (w)))), (10, .long (qL (quo (a1) (w)))), (8, .long (qL (w))), (6, .long (qL (v))), (4, .long (qL ((b1 + b2).tdiv 2))), (0, .ref fo), (1, .ref f), (2, .ref g), (3, .ref res)]) G dX2_product_173 (by decide) rfl ?_
  refine q_aload_n G 6 0 dX2_product_175 rfl rfl ?_
  refine q_aload_n G 9 3 dX2_product_176 rfl rfl ?_
  refine q_lload G 2 dX2_product_177 rfl ?_
  refine q_lload G 1 dX2_product_179 rfl ?_
  refine q_lmul G dX2_product_181 ?_
  refine q_aload_n G 6 0 dX2_product_182 rfl rfl ?_
  refine q_gt (v := .ref rg) G dX2_product_183 fl_X2_35 hF (by decide) rfl (congrArg va_rf r5) ?_
  refine q_gt (v := .long (qL (b2))) G dX2_product_186 fl_X2_64 o5 (by decide) rfl (by simp [mI, mL, mR, sL, sI, sR, wL, wD, stF, up2, n1, n1.symm, n2, n2.symm, n3, n3.symm]) ?_
  refine q_ldc2 (z := 2) G dX2_product_189 tw_284 (by decide +kernel) ?_
  refine q_lload G 1 dX2_product_192 rfl ?_
  refine q_lmul G dX2_product_194 ?_
  refine q_lload G 0 dX2_product_195 rfl ?_
  refine q_lload G 2 dX2_product_197 rfl ?_
  refine q_callSN (As := [.long (qL (((e1 * v) * (((b1 + b2).tdiv 2) - b2)) - (e2 * c2))), .long (qL (quo (a1) (w)))]) (rest := [.long (qL (2 * (quo (a2) (w)))), .long (qL (b2)), .long (qL ((quo (a1) (w)) * (quo (a2) (w)))), .ref res, .ref fo]) G dX2_product_199 cw_X2_76 (c_X4_remainder l D cy _ (((e1 * v) * (((b1 + b2).tdiv 2) - b2)) - (e2 * c2)) (quo (a1) (w)) P4 (by omega)) rfl rfl (Nat.le_of_ble_eq_true rfl) rfl rfl ⟨Nat.le_of_ble_eq_true rfl, Nat.le_of_ble_eq_true rfl⟩ ⟨by decide, by decide⟩ (fun v9 M9 hq9 => ?_)
  obtain ⟨rfl, e9⟩ := hq9
  refine q_mem e9 ?_
  refine q_st (st2 := [.long (qL (rmd (((e1 * v) * (((b1 + b2).tdiv 2) - b2)) - (e2 * c2)) (quo (a1) (w)))), .long (qL (2 * (quo (a2) (w)))), .long (qL (b2)), .long (qL ((quo (a1) (w)) * (quo (a2) (w)))), .ref res, .ref fo]) rfl ?_
  refine q_lmul G dX2_product_202 ?_
  refine q_ladd G dX2_product_203 ?_
  refine q_callV (As := [.ref res, .long (qL ((quo (a1) (w)) * (quo (a2) (w)))), .long (qL (b2 + ((2 * (quo (a2) (w))) * (rmd (((e1 * v) * (((b1 + b2).tdiv 2) - b2)) - (e2 * c2)) (quo (a1) (w))))))]) (rest := []) G dX2_product_204 cw_X2_50 (c_X2_complete l D cy (wL M (stF (stF (stF (mL M) lf a1 b1 c1) rg a2 b2 c2) eu w e1 e2)) fo res hF hr ((quo (a1) (w)) * (quo (a2) (w))) (b2 + ((2 * (quo (a2) (w))) * (rmd (((e1 * v) * (((b1 + b2).tdiv 2) - b2)) - (e2 * c2)) (quo (a1) (w))))) P7 P8 hdi) hF.1 hF.2 (by decide) rfl rfl rfl (Nat.le_of_ble_eq_true rfl) rfl rfl ⟨Nat.le_of_ble_eq_true rfl, Nat.le_of_ble_eq_true rfl⟩ ⟨by decide, by decide⟩ (fun v9 M9 hq9 => ?_)
  obtain ⟨rfl, e9⟩ := hq9
  refine q_mem e9 ?_
  refine q_st (st2 := []) rfl ?_
  refine q_mem (M2 := wL M (stF (stF (stF (stF (mL M) lf a1 b1 c1) rg a2 b2 c2) eu w e1 e2) res ((quo (a1) (w)) * (quo (a2) (w))) (b2 + ((2 * (quo (a2) (w))) * (rmd (((e1 * v) * (((b1 + b2).tdiv 2) - b2)) - (e2 * c2)) (quo (a1) (w))))) (quo ((b2 + ((2 * (quo (a2) (w))) * (rmd (((e1 * v) * (((b1 + b2).tdiv 2) - b2)) - (e2 * c2)) (quo (a1) (w))))) * (b2 + ((2 * (quo (a2) (w))) * (rmd (((e1 * v) * (((b1 + b2).tdiv 2) - b2)) - (e2 * c2)) (quo (a1) (w))))) + mI M fo 0) (4 * ((quo (a1) (w)) * (quo (a2) (w))))))) (by simp only [wL_wL, mL_wL]; rfl) ?_
  refine q_aload_n G 6 0 dX2_product_207 rfl rfl ?_
  refine q_aload_n G 9 3 dX2_product_208 rfl rfl ?_
  refine q_callV (As := [.ref res]) (rest := []) G dX2_product_209 cw_X2_56 (c_X2_settle l D cy _ _ _ hF hr (by show 0 < mI M fo 0; have := hd.1; omega) hd.2.1 (by simp only [mL_wL, stF_0, stF_1, stF_2]; exact P10)) hF.1 hF.2 (by decide) rfl rfl rfl (Nat.le_of_ble_eq_true rfl) rfl rfl ⟨Nat.le_of_ble_eq_true rfl, Nat.le_of_ble_eq_true rfl⟩ ⟨by decide, by decide⟩ (fun v9 M9 hq9 => ?_)
  obtain ⟨rfl, x, y, z, e9, rd3, ps3, eq3⟩ := hq9
  refine q_st (st2 := []) rfl ?_
  refine q_mem (M2 := wL M (stF (stF (stF (stF (mL M) lf a1 b1 c1) rg a2 b2 c2) eu w e1 e2) res x y z)) (by rw [e9]; simp only [wL_wL, mL_wL, stF_stF]) ?_
  simp only [mL_wL, stF_0, stF_1, stF_2] at eq3
  exact q_vret G dX2_product_212 hret (by omega) (by omega) (⟨rfl, _, x, y, z, rfl, (fun b k h1 h2 h3 h4 => by rw [stF_n _ _ _ _ h4, stF_n _ _ _ _ h3, stF_n _ _ _ _ h2, stF_n _ _ _ _ h1]), stF_0 _ _ _ _ _, stF_1 _ _ _ _ _, stF_2 _ _ _ _ _, rd3, ps3, _, _, _, fCu_right (fCu_left P9 (fEq_symm eq1)) (fEq_symm eq2), eq3⟩)
