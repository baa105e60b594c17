noncomputable def ordN : Nat → Int → qT3 → qT3 → qT3 → Int
  | 0, _, _, _, _ => 0
  | k + 1, n, cur, un, ge => if cur = un then n else ordN k (n + 1) (mulT cur ge) un ge
def orI (M : qM) (S : List Nat) (on : Nat) (d : Int) (u g : qT3) (most t : Int) (n : Int) (L : Nat → Nat → Int) (k : Nat) : Prop := (1 ≤ n ∧ n + k = most + 1) ∧ frm M L S ∧ gd d (gT L on) ∧ ordN k n (gT L on) u g = t
def po_int (M : qM) (S : List Nat) (t : Int) : Option Value → qM → Prop := fun v M' => v = some (.int (qI t)) ∧ ∃ L, M' = wL M L ∧ frm M L S
theorem nd_u {un ge eu lf rg ba so on ot : Nat} (h : [un, ge, eu, lf, rg, ba, so, on, ot].Nodup) : un ∉ [lf, rg, eu, ba, so, on, ot] ∧ ge ∉ [lf, rg, eu, ba, so, on, ot] := by
  simp only [List.nodup_cons, List.mem_cons, List.not_mem_nil, or_false, not_or] at h ⊢
  obtain ⟨⟨a1, a2, a3, a4, a5, a6, a7, a8⟩, ⟨b1, b2, b3, b4, b5, b6, b7⟩, -⟩ := h
  exact ⟨⟨a3, a4, a2, a5, a6, a7, a8⟩, ⟨b2, b3, b1, b4, b5, b6, b7⟩⟩
set_option maxRecDepth 100000 in
set_option maxHeartbeats 4000000 in
theorem l_order {p : Program} {e : Env} {s : State} {m : MethodId} {args : Array Value} {below : List Frame} {meth : Method} {c : Code} (l : Launch) (D : va_G) (cy : Nat → ClassId) (M : qM) (fo un ge eu lf rg ba so on ot : Nat) (hFO : qFO M fo un ge eu lf rg ba so on ot) (hd : dOk (mI M fo 0)) (hun : gT (mL M) un = unT (mI M fo 0)) (gg : gd (mI M fo 0) (gT (mL M) ge)) (most t : Int) (hm1 : 1 ≤ most ∧ most ≤ 1000) (G : qG p s m args meth c cX2_generatorsOrder 3 yX2_generatorsOrder.cls D cy (qA (mP M) s.heap.size)) (hret : meth.sig.returnType = (some .int)) : ∀ (w9 : Nat) (n : Int) (L : Nat → Nat → Int) (k : Nat), k < w9 → orI M [lf, rg, eu, ba, so, on, ot] on (mI M fo 0) (unT (mI M fo 0)) (gT (mL M) ge) most t n L k → qK p l e { frames := 4, cells := 0, slots := 0, locals := 103 } s m args below meth c (MQ below (qQ D cy (mP M) (po_int M [lf, rg, eu, ba, so, on, ot] t)) args s 0 0 (qA (mP M) s.heap.size)) 3 D cy (qA (mP M) s.heap.size) 0 0 13 [(2, .int (qI (n))), (1, .int (qI (most))), (0, .ref fo)] [] (wL M L) := by
  intro w9
  induction w9 with
  | zero => intro n L k h9; exact absurd h9 (Nat.not_lt_zero _)
  | succ w9 ih =>
    intro n L k hm hI
    obtain ⟨hF, ⟨r1, r2, r3, r4, r5, r6, r7, r8, r9⟩, ⟨o1, o2, o3, o4, o5, o6, o7, o8, o9⟩, hnd, hdi⟩ := id hFO
    have hge : gT L ge = gT (mL M) ge := frm_T hI.2.1 (nd_u hnd).2
    have hun2 : gT L un = unT (mI M fo 0) := (frm_T hI.2.1 (nd_u hnd).1).trans hun
    have q1 := sOk_r (L := L) (h := on) (d := mI M fo 0) (by have := hd.1; omega) hI.2.2.1
    have q2 := sOk_r (L := L) (h := un) (d := mI M fo 0) (by have := hd.1; omega) (by rw [hun2]; exact (unT_gd hd).1)
    have n_ge_lf : ge ≠ lf := (fun h9 => by subst h9; simp at hnd)
    refine q_iload_n G 0 2 dX2_generatorsOrder_13 rfl rfl ?_
    refine q_iload_n G 1 1 dX2_generatorsOrder_14 rfl rfl ?_
    refine q_icmp_gt (tgt := 56) G dX2_generatorsOrder_15 (by decide) (by have := hI.1; omega) (by have := hI.1; omega) (fun c1 => ?_) (fun c1 => ?_)
    · refine q_iconst G dX2_generatorsOrder_56 ?_
      exact q_iret G dX2_generatorsOrder_57 hret (by omega) (by omega) (⟨by have h6 := hI.2.2.2; rw [show k = 0 by have := hI.1; omega, ordN] at h6; rw [← h6], L, rfl, hI.2.1⟩)
    · obtain ⟨j1, rfl⟩ : ∃ j, k = j + 1 := ⟨k - 1, by have := hI.1; omega⟩
      refine q_aload_n G 2 0 dX2_generatorsOrder_18 rfl rfl ?_
      refine q_gt (v := .ref on) G dX2_generatorsOrder_19 fl_X2_44 hF (by decide) rfl (congrArg va_rf r8) ?_
      refine q_aload_n G 2 0 dX2_generatorsOrder_22 rfl rfl ?_
      refine q_gt (v := .ref un) G dX2_generatorsOrder_23 fl_X2_18 hF (by decide) rfl (congrArg va_rf r1) ?_
      refine q_callV (As := [.ref un]) (rest := []) G dX2_generatorsOrder_26 cw_X2_118 (c_X1_isSame l D cy (wL M L) on un o8 o1 (show r64 (L on 0) by omega) (show r64 (L on 1) by omega) (show r64 (L on 2) by omega) (show r64 (L un 0) by omega) (show r64 (L un 1) by omega) (show r64 (L un 2) by omega)) o8.1 o8.2 (by decide) rfl rfl rfl (Nat.le_of_ble_eq_true rfl) rfl rfl ⟨Nat.le_of_ble_eq_true rfl, Nat.le_of_ble_eq_true rfl⟩ ⟨by decide, by decide⟩ (fun v9 M9 hq9 => ?_)
      obtain ⟨rfl, e9⟩ := hq9
      refine q_mem e9 ?_
      refine q_st (st2 := [.int (qI (if mL (wL M L) on 0 = mL (wL M L) un 0 ∧ mL (wL M L) on 1 = mL (wL M L) un 1 ∧ mL (wL M L) on 2 = mL (wL M L) un 2 then 1 else 0))]) rfl ?_
      obtain ⟨z9, ez, hz⟩ := bit_T (L := L) rfl hun2
      refine q_topI (z2 := z9) ez ?_
      refine q_if_eq (tgt := 34) G dX2_generatorsOrder_29 (by decide) (by omega) (fun c2 => ?_) (fun c2 => ?_)
      · refine q_aload_n G 2 0 dX2_generatorsOrder_34 rfl rfl ?_
        refine q_aload_n G 2 0 dX2_generatorsOrder_35 rfl rfl ?_
        refine q_gt (v := .ref on) G dX2_generatorsOrder_36 fl_X2_44 hF (by decide) rfl (congrArg va_rf r8) ?_
        refine q_aload_n G 2 0 dX2_generatorsOrder_39 rfl rfl ?_
        refine q_gt (v := .ref ge) G dX2_generatorsOrder_40 fl_X2_22 hF (by decide) rfl (congrArg va_rf r2) ?_
        refine q_aload_n G 2 0 dX2_generatorsOrder_43 rfl rfl ?_
        refine q_gt (v := .ref on) G dX2_generatorsOrder_44 fl_X2_44 hF (by decide) rfl (congrArg va_rf r8) ?_
        refine q_callV (As := [.ref on, .ref ge, .ref on]) (rest := []) G dX2_generatorsOrder_47 cw_X2_110 (c_prodT l D cy (wL M L) fo un ge eu lf rg ba so on ot hFO hd on ge on o8 o2 o8 n_ge_lf hI.2.2.1 (show gd (mI M fo 0) (gT L ge) by rw [hge]; exact gg)) hF.1 hF.2 (by decide) rfl rfl rfl (Nat.le_of_ble_eq_true rfl) rfl rfl ⟨Nat.le_of_ble_eq_true rfl, Nat.le_of_ble_eq_true rfl⟩ ⟨by decide, by decide⟩ (fun v9 M9 hq9 => ?_)
        obtain ⟨rfl, L2, e9, fr2, v2, g2, d2⟩ := hq9
        refine q_st (st2 := []) rfl ?_
        refine q_mem (M2 := wL M L2) e9 ?_
        have fm2 : frm (wL M L) L2 [lf, rg, eu, ba, so, on, ot] := frm_q fr2
        refine q_iinc (lv' := [(2, .int (qI (n + 1))), (1, .int (qI (most))), (0, .ref fo)]) G 0 dX2_generatorsOrder_50 rfl (by decide) rfl ?_
        refine q_goto (tgt := 13) G dX2_generatorsOrder_53 (by decide) ?_
        refine q_lvs [0, 1, 2] rfl ?_
        exact ih (n + 1) L2 j1 (by omega) ⟨⟨by have := hI.1; omega, by have := hI.1; omega⟩, frm_c hI.2.1 fm2, g2, by rw [v2]; show ordN j1 (n + 1) (mulT (gT L on) (gT L ge)) _ _ = t; rw [hge]; have h6 := hI.2.2.2; rw [ordN, if_neg (by rcases hz with ⟨h7, h8⟩ | ⟨h7, h8⟩; exact absurd h7 (by omega); exact h8)] at h6; exact h6⟩
      · refine q_iload_n G 0 2 dX2_generatorsOrder_32 rfl rfl ?_
        exact q_iret G dX2_generatorsOrder_33 hret (by omega) (by omega) (⟨by have h6 := hI.2.2.2; rw [ordN, if_pos (by rcases hz with ⟨h7, h8⟩ | ⟨h7, h8⟩; exact h8; exact absurd h7 (by omega))] at h6; rw [h6], L, rfl, hI.2.1⟩)
set_option maxRecDepth 100000 in
set_option maxHeartbeats 4000000 in
theorem c_X2_generatorsOrder (l : Launch) (D : va_G) (cy : Nat → ClassId) (M : qM) (fo un ge eu lf rg ba so on ot : Nat) (hFO : qFO M fo un ge eu lf rg ba so on ot) (hd : dOk (mI M fo 0)) (hun : gT (mL M) un = unT (mI M fo 0)) (gg : gd (mI M fo 0) (gT (mL M) ge)) (most : Int) (hm1 : 1 ≤ most ∧ most ≤ 1000) : qCt l D cy yX2_generatorsOrder cX2_generatorsOrder 3 (some .int) { frames := 4, cells := 0, slots := 0, locals := 103 } 0 0 [.ref fo, .int (qI (most))] M (po_int M [lf, rg, eu, ba, so, on, ot] (ordN most.toNat 1 (gT (mL M) ge) (unT (mI M fo 0)) (gT (mL M) ge))) := by
  refine qCt_of (lv0 := [(0, .ref fo), (1, .int (qI (most)))]) (by decide) rfl (Nat.le_of_ble_eq_true rfl) ?_
  intro p e s m args below meth c G hname hret
  obtain ⟨hF, ⟨r1, r2, r3, r4, r5, r6, r7, r8, r9⟩, ⟨o1, o2, o3, o4, o5, o6, o7, o8, o9⟩, hnd, hdi⟩ := id hFO
  refine q_aload_n G 0 0 dX2_generatorsOrder_0 rfl rfl ?_
  refine q_gt (v := .ref on) G dX2_generatorsOrder_1 fl_X2_44 hF (by decide) rfl (congrArg va_rf r8) ?_
  refine q_aload_n G 0 0 dX2_generatorsOrder_4 rfl rfl ?_
  refine q_gt (v := .ref ge) G dX2_generatorsOrder_5 fl_X2_22 hF (by decide) rfl (congrArg va_rf r2) ?_
  refine q_callV (As := [.ref ge]) (rest := []) G dX2_generatorsOrder_8 cw_X2_101 (c_X1_become l D cy M on ge o8 o2) o8.1 o8.2 (by decide) rfl rfl rfl (Nat.le_of_ble_eq_true rfl) rfl rfl ⟨Nat.le_of_ble_eq_true rfl, Nat.le_of_ble_eq_true rfl⟩ ⟨by decide, by decide⟩ (fun v9 M9 hq9 => ?_)
  obtain ⟨rfl, e9⟩ := hq9
  refine q_mem e9 ?_
  refine q_st (st2 := []) rfl ?_
  refine q_iconst G dX2_generatorsOrder_11 ?_
  refine q_istore_n (lv' := [(2, .int (qI (1))), (0, .ref fo), (1, .int (qI (most)))]) G 2 dX2_generatorsOrder_12 rfl (by decide) rfl ?_
  refine q_lvs [0, 2, 1] rfl ?_
  exact l_order l D cy M fo un ge eu lf rg ba so on ot hFO hd hun gg most _ hm1 G hret _ 1 (stF (mL M) on (mL M ge 0) (mL M ge 1) (mL M ge 2)) most.toNat (Nat.lt_succ_self _) ⟨⟨by omega, by omega⟩, (fun b k hb => stF_n _ _ _ _ (fun h9 => hb (by rw [h9]; simp)) k), by rw [gT_stF]; exact gg, by rw [gT_stF]; rfl⟩
def rdOf (f t : qT3) : Prop := rdT t ∧ 0 < t.1 ∧ fEq f.1 f.2.1 f.2.2 t.1 t.2.1 t.2.2
noncomputable def redT (f : qT3) : qT3 := Classical.epsilon (fun t => rdOf f t)
theorem redT_eq {f t : qT3} (h : rdOf f t) : redT f = t := by
  have h' := Classical.epsilon_spec (p := fun t => rdOf f t) ⟨t, h⟩
  have h'' : rdOf f (redT f) := h'
  obtain ⟨a1, a2, a3⟩ := h
  obtain ⟨b1, b2, b3⟩ := h''
  obtain ⟨e1, e2, e3⟩ := rd_unique b2 a2 b1 a1 (fEq_trans (fEq_symm b3) a3)
  generalize redT f = t' at e1 e2 e3
  obtain ⟨x, y, z⟩ := t
  obtain ⟨x', y', z'⟩ := t'
  simp only at e1 e2 e3
  rw [e1, e2, e3]
theorem rdOf_gd {d : Int} {f t : qT3} (hd9 : d ≤ 1000000000) (hf : gd d f) (h : rdOf f t) : gd d t := ⟨sOk_rd hd9 h.2.1 h.1 ((fEq_disc h.2.2).trans hf.1.2.1), fEq_pr h.2.2 hf.2⟩
noncomputable def geT (d : Int) : qT3 := redT (2, 1, (1 + d) / 8)
theorem ge_gd {d : Int} (hd : dOk d) : gd d (2, 1, (1 + d) / 8) := by
  obtain ⟨h1, h2, h3⟩ := hd
  refine ⟨⟨by show (0 : Int) < 2; decide, ?_, by show (2 : Int) ≤ 2147483648; decide, by show (-2305843009213693952 : Int) ≤ 1 ∧ (1 : Int) ≤ 2305843009213693952; decide, ?_⟩, ⟨0, 1, 0, by show (0 : Int) * 2 + 1 * 1 + 0 * _ = 1; omega⟩⟩
  · show (1 : Int) * 1 - 4 * 2 * ((1 + d) / 8) = -d
    omega
  · show (1 + d) / 8 ≤ _
    omega
def po_choose (M : qM) (fo un ge : Nat) (nd : Int) : Option Value → qM → Prop := fun v M' => v = none ∧ ∃ L, M' = wL (sI M fo 0 nd) L ∧ frm M L [un, ge] ∧ gT L un = unT nd ∧ gT L ge = geT nd ∧ gd nd (gT L ge)
set_option maxRecDepth 100000 in
set_option maxHeartbeats 4000000 in
theorem c_X2_choose (l : Launch) (D : va_G) (cy : Nat → ClassId) (M : qM) (fo un ge eu lf rg ba so on ot : Nat) (hFO : qFO M fo un ge eu lf rg ba so on ot) (nd : Int) (hd : dOk nd) : qCt l D cy yX2_choose cX2_choose 2 none { frames := 3, cells := 0, slots := 0, locals := 68 } 0 0 [.ref fo, .int (qI (nd))] M (po_choose M fo un ge nd) := by
  refine qCt_of (lv0 := [(0, .ref fo), (1, .int (qI (nd)))]) (by decide) rfl (Nat.le_of_ble_eq_true rfl) ?_
  intro p e s m args below meth c G hname hret
  obtain ⟨hF, ⟨r1, r2, r3, r4, r5, r6, r7, r8, r9⟩, ⟨o1, o2, o3, o4, o5, o6, o7, o8, o9⟩, hnd, hdi⟩ := id hFO
  have n_un_ge : un ≠ ge := (fun h9 => by subst h9; simp at hnd)
  refine q_aload_n G 0 0 dX2_choose_0 rfl rfl ?_
  refine q_iload_n G 1 1 dX2_choose_1 rfl rfl ?_
  refine q_pI (z := nd) G dX2_choose_2 (pl_X2_9 _) nf_2_0 hF (by decide) (Nat.le_of_ble_eq_true rfl) (fs_2_0 _ _ _) ?_
  refine q_aload_n G 0 0 dX2_choose_5 rfl rfl ?_
  refine q_aload_n G 0 0 dX2_choose_6 rfl rfl ?_
  refine q_gt (v := .ref un) G dX2_choose_7 fl_X2_18 hF (by decide) rfl (congrArg va_rf r1) ?_
  refine q_lconst (z := 1) G dX2_choose_10 (by decide +kernel) ?_
  refine q_lconst (z := 1) G dX2_choose_11 (by decide +kernel) ?_
  refine q_callV (As := [.ref un, .long (qL (1)), .long (qL (1))]) (rest := []) G dX2_choose_12 cw_X2_50 (c_X2_complete l D cy (sI M fo 0 nd) fo un hF o1 1 1 (show r64 (1 * 1 + up2 (mI M) fo 0 nd fo 0) by rw [up2_s]; have := hd.1; have := hd.2.1; omega) (by omega) (show r32 (up2 (mI M) fo 0 nd fo 0) by rw [up2_s]; have := hd.1; have := hd.2.1; omega)) hF.1 hF.2 (by decide) rfl rfl rfl (Nat.le_of_ble_eq_true rfl) rfl rfl ⟨Nat.le_of_ble_eq_true rfl, Nat.le_of_ble_eq_true rfl⟩ ⟨by decide, by decide⟩ (fun v9 M9 hq9 => ?_)
  obtain ⟨rfl, e9⟩ := hq9
  refine q_mem e9 ?_
  refine q_st (st2 := []) rfl ?_
  refine q_mem (M2 := wL (sI M fo 0 nd) (stF (mL M) un 1 1 ((1 + nd) / 4))) (by show wL (sI M fo 0 nd) (stF (mL M) un 1 1 (quo (1 * 1 + up2 (mI M) fo 0 nd fo 0) (4 * 1))) = _; rw [up2_s, quo_pos (by have := hd.1; omega) (by decide)]; rfl) ?_
  refine q_aload_n G 0 0 dX2_choose_15 rfl rfl ?_
  refine q_aload_n G 0 0 dX2_choose_16 rfl rfl ?_
  refine q_gt (v := .ref ge) G dX2_choose_17 fl_X2_22 hF (by decide) rfl (congrArg va_rf r2) ?_
  refine q_ldc2 (z := 2) G dX2_choose_20 tw_284 (by decide +kernel) ?_
  refine q_lconst (z := 1) G dX2_choose_23 (by decide +kernel) ?_
  refine q_callV (As := [.ref ge, .long (qL (2)), .long (qL (1))]) (rest := []) G dX2_choose_24 cw_X2_50 (c_X2_complete l D cy (wL (sI M fo 0 nd) (stF (mL M) un 1 1 ((1 + nd) / 4))) fo ge hF o2 2 1 (show r64 (1 * 1 + up2 (mI M) fo 0 nd fo 0) by rw [up2_s]; have := hd.1; have := hd.2.1; omega) (by omega) (show r32 (up2 (mI M) fo 0 nd fo 0) by rw [up2_s]; have := hd.1; have := hd.2.1; omega)) hF.1 hF.2 (by decide) rfl rfl rfl (Nat.le_of_ble_eq_true rfl) rfl rfl ⟨Nat.le_of_ble_eq_true rfl, Nat.le_of_ble_eq_true rfl⟩ ⟨by decide, by decide⟩ (fun v9 M9 hq9 => ?_)
  obtain ⟨rfl, e9⟩ := hq9
  refine q_mem e9 ?_
  refine q_st (st2 := []) rfl ?_
  refine q_mem (M2 := wL (sI M fo 0 nd) (stF (stF (mL M) un 1 1 ((1 + nd) / 4)) ge 2 1 ((1 + nd) / 8))) (by show wL (sI M fo 0 nd) (stF (stF (mL M) un 1 1 ((1 + nd) / 4)) ge 2 1 (quo (1 * 1 + up2 (mI M) fo 0 nd fo 0) (4 * 2))) = _; rw [up2_s, quo_pos (by have := hd.1; omega) (by decide)]; rfl) ?_
  refine q_aload_n G 0 0 dX2_choose_27 rfl rfl ?_
  refine q_aload_n G 0 0 dX2_choose_28 rfl rfl ?_
  refine q_gt (v := .ref ge) G dX2_choose_29 fl_X2_22 hF (by decide) rfl (congrArg va_rf r2) ?_
  refine q_callV (As := [.ref ge]) (rest := []) G dX2_choose_32 cw_X2_56 (c_X2_settle l D cy (wL (sI M fo 0 nd) (stF (stF (mL M) un 1 1 ((1 + nd) / 4)) ge 2 1 ((1 + nd) / 8))) fo ge hF o2 (show 0 < up2 (mI M) fo 0 nd fo 0 by rw [up2_s]; have := hd.1; omega) (show up2 (mI M) fo 0 nd fo 0 ≤ _ by rw [up2_s]; exact hd.2.1) (show sOk (up2 (mI M) fo 0 nd fo 0) ((stF (stF (mL M) un 1 1 ((1 + nd) / 4)) ge 2 1 ((1 + nd) / 8)) ge 0) ((stF (stF (mL M) un 1 1 ((1 + nd) / 4)) ge 2 1 ((1 + nd) / 8)) ge 1) ((stF (stF (mL M) un 1 1 ((1 + nd) / 4)) ge 2 1 ((1 + nd) / 8)) ge 2) by rw [up2_s, stF_0, stF_1, stF_2]; exact (ge_gd hd).1)) hF.1 hF.2 (by decide) rfl rfl rfl (Nat.le_of_ble_eq_true rfl) rfl rfl ⟨Nat.le_of_ble_eq_true rfl, Nat.le_of_ble_eq_true rfl⟩ ⟨by decide, by decide⟩ (fun v9 M9 hq9 => ?_)
  obtain ⟨rfl, x, y, z, e9, rd3, ps3, eq3⟩ := hq9
  refine q_st (st2 := []) rfl ?_
  refine q_mem (M2 := wL (sI M fo 0 nd) (stF (stF (mL M) un 1 1 ((1 + nd) / 4)) ge x y z)) (by rw [e9]; simp only [wL_wL, mL_wL, stF_stF]) ?_
  simp only [mL_wL, stF_0, stF_1, stF_2] at eq3
  have hrd : rdOf (2, 1, (1 + nd) / 8) (x, y, z) := ⟨rd3, ps3, eq3⟩
  exact q_vret G dX2_choose_35 hret (by omega) (by omega) (⟨rfl, _, rfl, (fun b k hb => by simp only [List.mem_cons, List.not_mem_nil, or_false, not_or] at hb; rw [stF_n _ _ _ _ hb.2, stF_n _ _ _ _ hb.1]), by rw [gT_stF_n _ _ _ _ n_un_ge, gT_stF]; rfl, by rw [gT_stF]; exact (redT_eq hrd).symm, by rw [gT_stF]; exact rdOf_gd hd.2.1 (ge_gd hd) hrd⟩)
