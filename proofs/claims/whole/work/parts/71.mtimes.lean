def frM (M : qM) (L : Nat → Nat → Int) (qa qb qc : Nat) (S : List Nat) : Prop := ∀ b x, ¬ ((b = qa ∨ b = qb ∨ b = qc) ∧ x ∈ S) → L b x = mL M b x
theorem frM_g {M : qM} {L : Nat → Nat → Int} {qa qb qc : Nat} {S : List Nat} (h : frM M L qa qb qc S) {x : Nat} (hx : x ∉ S) : gM L qa qb qc x = gM (mL M) qa qb qc x := by
  unfold gM; rw [h qa x (fun h9 => hx h9.2), h qb x (fun h9 => hx h9.2), h qc x (fun h9 => hx h9.2)]
theorem frM_st {M : qM} {L : Nat → Nat → Int} {qa qb qc : Nat} {S : List Nat} (h : frM M L qa qb qc S) {i : Nat} (hi : i ∈ S) (x y z : Int) : frM M (stM L qa qb qc i x y z) qa qb qc S := fun b j hb => by
  rw [stM_n _ _ _ _ (fun h9 => hb ⟨h9.1, by rw [h9.2]; exact hi⟩)]; exact h b j hb
theorem frM_rf (M : qM) (qa qb qc : Nat) (S : List Nat) : frM M (mL M) qa qb qc S := fun _ _ _ => rfl
theorem frM_c {M : qM} {L L' : Nat → Nat → Int} {qa qb qc : Nat} {S : List Nat} (h : frM M L qa qb qc S) (h' : frM (wL M L) L' qa qb qc S) : frM M L' qa qb qc S := fun b x hb => (h' b x hb).trans (h b x hb)
theorem frM_w {M : qM} {L : Nat → Nat → Int} {qa qb qc : Nat} {S S' : List Nat} (h : frM M L qa qb qc S) (hs : ∀ x ∈ S, x ∈ S') : frM M L qa qb qc S' := fun b x hb => h b x (fun h9 => hb ⟨h9.1, hs x h9.2⟩)
theorem gd_smI {d : Int} {a b c : Int} (hd0 : 0 < d) (h : gd d (a, b, c)) : smI d a b c a b c := by
  obtain ⟨⟨h1, h2, h3, h4, h5⟩, -⟩ := h
  have h1' : 0 < a := h1
  have h2' : b * b - 4 * a * c = -d := h2
  have h3' : a ≤ 2147483648 := h3
  exact ⟨h1', st_pos h1' h2' hd0, h2', fEq_rfl _ _ _, by omega, h4, h5⟩
def po_times (M : qM) (qa qb qc : Nat) (d : Int) (i j k : Nat) : Option Value → qM → Prop := fun v M' => v = none ∧ ∃ L, M' = wL M L ∧ frM M L qa qb qc [58, 59, k] ∧ gM L qa qb qc k = mulT (gM (mL M) qa qb qc i) (gM (mL M) qa qb qc j) ∧ gd d (gM L qa qb qc k) ∧ rdT (gM L qa qb qc k)
set_option maxRecDepth 100000 in
set_option maxHeartbeats 4000000 in
theorem c_X5_times (l : Launch) (D : va_G) (cy : Nat → ClassId) (M : qM) (mo qa qb qc qf qt : Nat) (hMO : qMO M mo qa qb qc qf qt) (d : Int) (hd : dOk d) (i j k : Int) (hi : 0 ≤ i ∧ i < 64) (hj : 0 ≤ j ∧ j < 64) (hk : 0 ≤ k ∧ k < 64) (hj58 : j.toNat ≠ 58) (gi : gd d (gM (mL M) qa qb qc i.toNat)) (gj : gd d (gM (mL M) qa qb qc j.toNat)) : qCt l D cy yX5_times cX5_times 10 none { frames := 3, cells := 0, slots := 0, locals := 106 } 0 0 [.ref mo, .int (qI (i)), .int (qI (j)), .int (qI (k))] M (po_times M qa qb qc d i.toNat j.toNat k.toNat) := by
  refine qCt_of (lv0 := [(0, .ref mo), (1, .int (qI (i))), (2, .int (qI (j))), (3, .int (qI (k)))]) (by decide) rfl (Nat.le_of_ble_eq_true rfl) ?_
  intro p e s m args below meth c G hname hret
  obtain ⟨hF, ⟨r2, r3, r4, r5, r8⟩, ⟨a2, a3, a4, a5, a8⟩, ⟨n1, n2, n3, n4, n5, n6⟩⟩ := id hMO
  refine q_aload_n G 0 0 dX5_times_0 rfl rfl ?_
  refine q_iload_n G 1 1 dX5_times_1 rfl rfl ?_
  refine q_bipush G dX5_times_2 (by decide +kernel) ?_
  refine q_callV (As := [.int (qI (i)), .int (qI (58))]) (rest := []) G dX5_times_4 cw_X5_62 (c_X5_copy l D cy M mo qa qb qc qf qt hMO i 58 hi (by decide)) hF.1 hF.2 (by decide) rfl rfl rfl (Nat.le_of_ble_eq_true rfl) rfl rfl ⟨Nat.le_of_ble_eq_true rfl, Nat.le_of_ble_eq_true rfl⟩ ⟨by decide, by decide⟩ (fun v9 M9 hq9 => ?_)
  obtain ⟨rfl, e9⟩ := hq9
  refine q_mem e9 ?_
  refine q_st (st2 := []) rfl ?_
  refine q_mem (M2 := wL M (stM (mL M) qa qb qc 58 (mL M qa i.toNat) (mL M qb i.toNat) (mL M qc i.toNat))) rfl ?_
  refine q_aload_n G 0 0 dX5_times_7 rfl rfl ?_
  refine q_bipush G dX5_times_8 (by decide +kernel) ?_
  refine q_callV (As := [.int (qI (58))]) (rest := []) G dX5_times_10 cw_X5_58 (c_X5_settle l D cy (wL M (stM (mL M) qa qb qc 58 (mL M qa i.toNat) (mL M qb i.toNat) (mL M qc i.toNat))) mo qa qb qc qf qt hMO 58 (by decide) d (by have := hd.1; omega) hd.2.1 (by show smI d (stM _ _ _ _ 58 _ _ _ qa 58) (stM _ _ _ _ 58 _ _ _ qb 58) (stM _ _ _ _ 58 _ _ _ qc 58) (stM _ _ _ _ 58 _ _ _ qa 58) (stM _ _ _ _ 58 _ _ _ qb 58) (stM _ _ _ _ 58 _ _ _ qc 58); rw [stM_a _ _ _ _ n1 n2, stM_b _ _ _ _ n3, stM_c]; exact gd_smI (by have := hd.1; omega) gi)) hF.1 hF.2 (by decide) rfl rfl rfl (Nat.le_of_ble_eq_true rfl) rfl rfl ⟨Nat.le_of_ble_eq_true rfl, Nat.le_of_ble_eq_true rfl⟩ ⟨by decide, by decide⟩ (fun v9 M9 hq9 => ?_)
  obtain ⟨rfl, la, lb, lc, e9, rd1, ps1, eq1⟩ := hq9
  refine q_st (st2 := []) rfl ?_
  refine q_mem (M2 := wL M (stM (mL M) qa qb qc 58 (la) (lb) (lc))) (by rw [e9]; simp only [Int.reduceToNat, mL_wL, wL_wL, stM_stM _ _ _ _ _ _ _ _ _ _ _ n1 n2 n3]) ?_
  replace eq1 : fEq (mL M qa i.toNat) (mL M qb i.toNat) (mL M qc i.toNat) la lb lc := by have h9 := eq1; simp only [mL_wL, Int.reduceToNat, stM_a _ _ _ _ n1 n2, stM_b _ _ _ _ n3, stM_c] at h9; exact h9
  have dk1 := (fEq_disc eq1).trans gi.1.2.1
  have pr1 := fEq_pr eq1 gi.2
  refine q_aload_n G 0 0 dX5_times_13 rfl rfl ?_
  refine q_iload_n G 2 2 dX5_times_14 rfl rfl ?_
  refine q_bipush G dX5_times_15 (by decide +kernel) ?_
  refine q_callV (As := [.int (qI (j)), .int (qI (59))]) (rest := []) G dX5_times_17 cw_X5_62 (c_X5_copy l D cy (wL M (stM (mL M) qa qb qc 58 (la) (lb) (lc))) mo qa qb qc qf qt hMO j 59 hj (by decide)) hF.1 hF.2 (by decide) rfl rfl rfl (Nat.le_of_ble_eq_true rfl) rfl rfl ⟨Nat.le_of_ble_eq_true rfl, Nat.le_of_ble_eq_true rfl⟩ ⟨by decide, by decide⟩ (fun v9 M9 hq9 => ?_)
  obtain ⟨rfl, e9⟩ := hq9
  refine q_mem e9 ?_
  refine q_st (st2 := []) rfl ?_
  refine q_mem (M2 := wL M (stM (stM (mL M) qa qb qc 58 (la) (lb) (lc)) qa qb qc 59 (mL M qa j.toNat) (mL M qb j.toNat) (mL M qc j.toNat))) (by show wL M (stM (stM (mL M) qa qb qc 58 (la) (lb) (lc)) qa qb qc 59 (stM _ _ _ _ _ _ _ _ qa j.toNat) (stM _ _ _ _ _ _ _ _ qb j.toNat) (stM _ _ _ _ _ _ _ _ qc j.toNat)) = _; rw [stM_n _ _ _ _ (fun h9 => hj58 h9.2), stM_n _ _ _ _ (fun h9 => hj58 h9.2), stM_n _ _ _ _ (fun h9 => hj58 h9.2)]) ?_
  refine q_aload_n G 0 0 dX5_times_20 rfl rfl ?_
  refine q_bipush G dX5_times_21 (by decide +kernel) ?_
  refine q_callV (As := [.int (qI (59))]) (rest := []) G dX5_times_23 cw_X5_58 (c_X5_settle l D cy (wL M (stM (stM (mL M) qa qb qc 58 (la) (lb) (lc)) qa qb qc 59 (mL M qa j.toNat) (mL M qb j.toNat) (mL M qc j.toNat))) mo qa qb qc qf qt hMO 59 (by decide) d (by have := hd.1; omega) hd.2.1 (by show smI d (stM _ _ _ _ 59 _ _ _ qa 59) (stM _ _ _ _ 59 _ _ _ qb 59) (stM _ _ _ _ 59 _ _ _ qc 59) (stM _ _ _ _ 59 _ _ _ qa 59) (stM _ _ _ _ 59 _ _ _ qb 59) (stM _ _ _ _ 59 _ _ _ qc 59); rw [stM_a _ _ _ _ n1 n2, stM_b _ _ _ _ n3, stM_c]; exact gd_smI (by have := hd.1; omega) gj)) hF.1 hF.2 (by decide) rfl rfl rfl (Nat.le_of_ble_eq_true rfl) rfl rfl ⟨Nat.le_of_ble_eq_true rfl, Nat.le_of_ble_eq_true rfl⟩ ⟨by decide, by decide⟩ (fun v9 M9 hq9 => ?_)
  obtain ⟨rfl, rp, rq, rr, e9, rd2, ps2, eq2⟩ := hq9
  refine q_st (st2 := []) rfl ?_
  refine q_mem (M2 := wL M (stM (stM (mL M) qa qb qc 58 (la) (lb) (lc)) qa qb qc 59 (rp) (rq) (rr))) (by rw [e9]; simp only [Int.reduceToNat, mL_wL, wL_wL, stM_stM _ _ _ _ _ _ _ _ _ _ _ n1 n2 n3]) ?_
  replace eq2 : fEq (mL M qa j.toNat) (mL M qb j.toNat) (mL M qc j.toNat) rp rq rr := by have h9 := eq2; simp only [mL_wL, Int.reduceToNat, stM_a _ _ _ _ n1 n2, stM_b _ _ _ _ n3, stM_c] at h9; exact h9
  have dk2 := (fEq_disc eq2).trans gj.1.2.1
  have pr2 := fEq_pr eq2 gj.2
  have z1 := rd_rng ps1 rd1 dk1 hd.2.1
  have z2 := rd_rng ps2 rd2 dk2 hd.2.1
  refine q_aload_n G 0 0 dX5_times_26 rfl rfl ?_
  refine q_gt (v := .ref qa) G dX5_times_27 fl_X5_7 hF (by decide) rfl (congrArg va_rf r2) ?_
  refine q_bipush G dX5_times_30 (by decide +kernel) ?_
  refine q_laload G dX5_times_32 a2.1 a2.2.1 (by first | assumption | omega) (show (58) < ((mN M qa : Nat) : Int) by rw [a2.2.2]; omega) (show mN M qa < 2147483648 by rw [a2.2.2]; decide) ?_
  refine q_topL (z2 := la) (by show stM (stM (mL M) qa qb qc 58 (la) (lb) (lc)) qa qb qc 59 rp rq rr qa 58 = la; rw [stM_n _ _ _ _ (fun h9 => absurd h9.2 (by decide))]; exact stM_a _ _ _ _ n1 n2) ?_
  refine q_aload_n G 0 0 dX5_times_33 rfl rfl ?_
  refine q_gt (v := .ref qa) G dX5_times_34 fl_X5_7 hF (by decide) rfl (congrArg va_rf r2) ?_
  refine q_bipush G dX5_times_37 (by decide +kernel) ?_
  refine q_laload G dX5_times_39 a2.1 a2.2.1 (by first | assumption | omega) (show (59) < ((mN M qa : Nat) : Int) by rw [a2.2.2]; omega) (show mN M qa < 2147483648 by rw [a2.2.2]; decide) ?_
  refine q_topL (z2 := rp) (by show stM (stM (mL M) qa qb qc 58 (la) (lb) (lc)) qa qb qc 59 rp rq rr qa 59 = rp; exact stM_a _ _ _ _ n1 n2) ?_
  refine q_lcmp_le (tgt := 91) G dX5_times_40 dX5_times_41 (by decide) (by omega) (by omega) (fun c1 => ?_) (fun c1 => ?_)
  · refine q_aload_n G 0 0 dX5_times_91 rfl rfl ?_
    refine q_iload_n G 3 3 dX5_times_92 rfl rfl ?_
    refine q_callV (As := [.int (qI (k))]) (rest := []) G dX5_times_93 cw_X5_66 (c_X5_unite l D cy (wL M (stM (stM (mL M) qa qb qc 58 (la) (lb) (lc)) qa qb qc 59 (rp) (rq) (rr))) mo qa qb qc qf qt hMO k hk d la lb lc rp rq rr (show unP (wL M (stM (stM (mL M) qa qb qc 58 (la) (lb) (lc)) qa qb qc 59 (rp) (rq) (rr))) qa qb qc d la lb lc rp rq rr from ⟨⟨by show stM (stM (mL M) qa qb qc 58 (la) (lb) (lc)) qa qb qc 59 rp rq rr qa 58 = _; rw [stM_n _ _ _ _ (fun h9 => absurd h9.2 (by decide))]; exact stM_a _ _ _ _ n1 n2, by show stM (stM (mL M) qa qb qc 58 (la) (lb) (lc)) qa qb qc 59 rp rq rr qb 58 = _; rw [stM_n _ _ _ _ (fun h9 => absurd h9.2 (by decide))]; exact stM_b _ _ _ _ n3, by show stM (stM (mL M) qa qb qc 58 (la) (lb) (lc)) qa qb qc 59 rp rq rr qc 58 = _; rw [stM_n _ _ _ _ (fun h9 => absurd h9.2 (by decide))]; exact stM_c _ _ _ _⟩, ⟨stM_a _ _ _ _ n1 n2, stM_b _ _ _ _ n3, stM_c _ _ _ _⟩, hd, ⟨ps1, rd1, dk1⟩, ⟨ps2, rd2, dk2, pr2⟩, by omega⟩)) hF.1 hF.2 (by decide) rfl rfl rfl (Nat.le_of_ble_eq_true rfl) rfl rfl ⟨Nat.le_of_ble_eq_true rfl, Nat.le_of_ble_eq_true rfl⟩ ⟨by decide, by decide⟩ (fun v9 M9 hq9 => ?_)
    obtain ⟨rfl, x9, y9, z9, e9, xx9⟩ := hq9
    refine q_st (st2 := []) rfl ?_
    refine q_mem (M2 := wL M (stM (stM (stM (mL M) qa qb qc 58 (la) (lb) (lc)) qa qb qc 59 (rp) (rq) (rr)) qa qb qc k.toNat x9 y9 z9)) e9 ?_
    obtain ⟨A9, B9, C9, q1, q2⟩ := xx9.2.2
    have hml : mlT (gM (mL M) qa qb qc i.toNat) (gM (mL M) qa qb qc j.toNat) (x9, y9, z9) := ⟨xx9.1, xx9.2.1, A9, B9, C9, fCu_right (fCu_left q1 (fEq_symm eq1)) (fEq_symm eq2), q2⟩
    have hgd := mlT_good hd gi gj hml
    exact q_vret G dX5_times_96 hret (by omega) (by omega) (⟨rfl, _, rfl, frM_st (frM_st (frM_st (frM_rf M qa qb qc _) (by simp) _ _ _) (by simp) _ _ _) (by simp) _ _ _, by rw [gM_s _ _ _ _ n1 n2 n3]; exact (mulT_eq gi hml).symm, by rw [gM_s _ _ _ _ n1 n2 n3]; exact hgd.1, by rw [gM_s _ _ _ _ n1 n2 n3]; exact hgd.2⟩)
  · refine q_aload_n G 0 0 dX5_times_44 rfl rfl ?_
    refine q_gt (v := .ref qa) G dX5_times_45 fl_X5_7 hF (by decide) rfl (congrArg va_rf r2) ?_
    refine q_bipush G dX5_times_48 (by decide +kernel) ?_
    refine q_laload G dX5_times_50 a2.1 a2.2.1 (by first | assumption | omega) (show (58) < ((mN M qa : Nat) : Int) by rw [a2.2.2]; omega) (show mN M qa < 2147483648 by rw [a2.2.2]; decide) ?_
    refine q_topL (z2 := la) (by show stM (stM (mL M) qa qb qc 58 (la) (lb) (lc)) qa qb qc 59 rp rq rr qa 58 = la; rw [stM_n _ _ _ _ (fun h9 => absurd h9.2 (by decide))]; exact stM_a _ _ _ _ n1 n2) ?_
    refine q_lstore (lv' := [(4, .long (qL (la))), (0, .ref mo), (1, .int (qI (i))), (2, .int (qI (j))), (3, .int (qI (k)))]) G dX5_times_51 (by decide) rfl ?_
    refine q_aload_n G 1 0 dX5_times_53 rfl rfl ?_
    refine q_gt (v := .ref qb) G dX5_times_54 fl_X5_13 hF (by decide) rfl (congrArg va_rf r3) ?_
    refine q_bipush G dX5_times_57 (by decide +kernel) ?_
    refine q_laload G dX5_times_59 a3.1 a3.2.1 (by first | assumption | omega) (show (58) < ((mN M qb : Nat) : Int) by rw [a3.2.2]; omega) (show mN M qb < 2147483648 by rw [a3.2.2]; decide) ?_
    refine q_topL (z2 := lb) (by show stM (stM (mL M) qa qb qc 58 (la) (lb) (lc)) qa qb qc 59 rp rq rr qb 58 = lb; rw [stM_n _ _ _ _ (fun h9 => absurd h9.2 (by decide))]; exact stM_b _ _ _ _ n3) ?_
    refine q_lstore (lv' := [(6, .long (qL (lb))), (4, .long (qL (la))), (0, .ref mo), (1, .int (qI (i))), (2, .int (qI (j))), (3, .int (qI (k)))]) G dX5_times_60 (by decide) rfl ?_
    refine q_aload_n G 2 0 dX5_times_62 rfl rfl ?_
    refine q_gt (v := .ref qc) G dX5_times_63 fl_X5_16 hF (by decide) rfl (congrArg va_rf r4) ?_
    refine q_bipush G dX5_times_66 (by decide +kernel) ?_
    refine q_laload G dX5_times_68 a4.1 a4.2.1 (by first | assumption | omega) (show (58) < ((mN M qc : Nat) : Int) by rw [a4.2.2]; omega) (show mN M qc < 2147483648 by rw [a4.2.2]; decide) ?_
    refine q_topL (z2 := lc) (by show stM (stM (mL M) qa qb qc 58 (la) (lb) (lc)) qa qb qc 59 rp rq rr qc 58 = lc; rw [stM_n _ _ _ _ (fun h9 => absurd h9.2 (by decide))]; exact stM_c _ _ _ _) ?_
    refine q_lstore (lv' := [(8, .long (qL (lc))), (6, .long (qL (lb))), (4, .long (qL (la))), (0, .ref mo), (1, .int (qI (i))), (2, .int (qI (j))), (3, .int (qI (k)))]) G dX5_times_69 (by decide) rfl ?_
    refine q_aload_n G 3 0 dX5_times_71 rfl rfl ?_
    refine q_bipush G dX5_times_72 (by decide +kernel) ?_
    refine q_bipush G dX5_times_74 (by decide +kernel) ?_
    refine q_callV (As := [.int (qI (59)), .int (qI (58))]) (rest := []) G dX5_times_76 cw_X5_62 (c_X5_copy l D cy (wL M (stM (stM (mL M) qa qb qc 58 (la) (lb) (lc)) qa qb qc 59 (rp) (rq) (rr))) mo qa qb qc qf qt hMO 59 58 (by decide) (by decide)) hF.1 hF.2 (by decide) rfl rfl rfl (Nat.le_of_ble_eq_true rfl) rfl rfl ⟨Nat.le_of_ble_eq_true rfl, Nat.le_of_ble_eq_true rfl⟩ ⟨by decide, by decide⟩ (fun v9 M9 hq9 => ?_)
    obtain ⟨rfl, e9⟩ := hq9
    refine q_mem e9 ?_
    refine q_st (st2 := []) rfl ?_
    refine q_mem (M2 := wL M (stM (stM (stM (mL M) qa qb qc 58 (la) (lb) (lc)) qa qb qc 59 (rp) (rq) (rr)) qa qb qc 58 (rp) (rq) (rr))) (by show wL M (stM (stM (stM (mL M) qa qb qc 58 (la) (lb) (lc)) qa qb qc 59 (rp) (rq) (rr)) qa qb qc 58 (stM _ _ _ _ _ _ _ _ qa 59) (stM _ _ _ _ _ _ _ _ qb 59) (stM _ _ _ _ _ _ _ _ qc 59)) = _; rw [stM_a _ _ _ _ n1 n2, stM_b _ _ _ _ n3, stM_c]) ?_
    refine q_aload_n G 3 0 dX5_times_79 rfl rfl ?_
    refine q_bipush G dX5_times_80 (by decide +kernel) ?_
    refine q_lload G 2 dX5_times_82 rfl ?_
    refine q_lload G 1 dX5_times_84 rfl ?_
    refine q_lload G 0 dX5_times_86 rfl ?_
    refine q_callV (As := [.int (qI (59)), .long (qL (la)), .long (qL (lb)), .long (qL (lc))]) (rest := []) G dX5_times_88 cw_X5_35 (c_X5_set l D cy (wL M (stM (stM (stM (mL M) qa qb qc 58 (la) (lb) (lc)) qa qb qc 59 (rp) (rq) (rr)) qa qb qc 58 (rp) (rq) (rr))) mo qa qb qc qf qt hMO 59 la lb lc (by decide)) hF.1 hF.2 (by decide) rfl rfl rfl (Nat.le_of_ble_eq_true rfl) rfl rfl ⟨Nat.le_of_ble_eq_true rfl, Nat.le_of_ble_eq_true rfl⟩ ⟨by decide, by decide⟩ (fun v9 M9 hq9 => ?_)
    obtain ⟨rfl, e9⟩ := hq9
    refine q_mem e9 ?_
    refine q_st (st2 := []) rfl ?_
    refine q_mem (M2 := wL M (stM (stM (stM (stM (mL M) qa qb qc 58 (la) (lb) (lc)) qa qb qc 59 (rp) (rq) (rr)) qa qb qc 58 (rp) (rq) (rr)) qa qb qc 59 (la) (lb) (lc))) rfl ?_
    refine q_aload_n G 3 0 dX5_times_91 rfl rfl ?_
    refine q_iload_n G 6 3 dX5_times_92 rfl rfl ?_
    refine q_callV (As := [.int (qI (k))]) (rest := []) G dX5_times_93 cw_X5_66 (c_X5_unite l D cy (wL M (stM (stM (stM (stM (mL M) qa qb qc 58 (la) (lb) (lc)) qa qb qc 59 (rp) (rq) (rr)) qa qb qc 58 (rp) (rq) (rr)) qa qb qc 59 (la) (lb) (lc))) mo qa qb qc qf qt hMO k hk d rp rq rr la lb lc (show unP (wL M (stM (stM (stM (stM (mL M) qa qb qc 58 (la) (lb) (lc)) qa qb qc 59 (rp) (rq) (rr)) qa qb qc 58 (rp) (rq) (rr)) qa qb qc 59 (la) (lb) (lc))) qa qb qc d rp rq rr la lb lc from ⟨⟨by show stM (stM (stM (stM (mL M) qa qb qc 58 (la) (lb) (lc)) qa qb qc 59 (rp) (rq) (rr)) qa qb qc 58 (rp) (rq) (rr)) qa qb qc 59 la lb lc qa 58 = _; rw [stM_n _ _ _ _ (fun h9 => absurd h9.2 (by decide))]; exact stM_a _ _ _ _ n1 n2, by show stM (stM (stM (stM (mL M) qa qb qc 58 (la) (lb) (lc)) qa qb qc 59 (rp) (rq) (rr)) qa qb qc 58 (rp) (rq) (rr)) qa qb qc 59 la lb lc qb 58 = _; rw [stM_n _ _ _ _ (fun h9 => absurd h9.2 (by decide))]; exact stM_b _ _ _ _ n3, by show stM (stM (stM (stM (mL M) qa qb qc 58 (la) (lb) (lc)) qa qb qc 59 (rp) (rq) (rr)) qa qb qc 58 (rp) (rq) (rr)) qa qb qc 59 la lb lc qc 58 = _; rw [stM_n _ _ _ _ (fun h9 => absurd h9.2 (by decide))]; exact stM_c _ _ _ _⟩, ⟨stM_a _ _ _ _ n1 n2, stM_b _ _ _ _ n3, stM_c _ _ _ _⟩, hd, ⟨ps2, rd2, dk2⟩, ⟨ps1, rd1, dk1, pr1⟩, by omega⟩)) hF.1 hF.2 (by decide) rfl rfl rfl (Nat.le_of_ble_eq_true rfl) rfl rfl ⟨Nat.le_of_ble_eq_true rfl, Nat.le_of_ble_eq_true rfl⟩ ⟨by decide, by decide⟩ (fun v9 M9 hq9 => ?_)
    obtain ⟨rfl, x9, y9, z9, e9, xx9⟩ := hq9
    refine q_st (st2 := []) rfl ?_
    refine q_mem (M2 := wL M (stM (stM (stM (stM (stM (mL M) qa qb qc 58 (la) (lb) (lc)) qa qb qc 59 (rp) (rq) (rr)) qa qb qc 58 (rp) (rq) (rr)) qa qb qc 59 (la) (lb) (lc)) qa qb qc k.toNat x9 y9 z9)) e9 ?_
    obtain ⟨A9, B9, C9, q1, q2⟩ := xx9.2.2
    have hml : mlT (gM (mL M) qa qb qc i.toNat) (gM (mL M) qa qb qc j.toNat) (x9, y9, z9) := ⟨xx9.1, xx9.2.1, A9, B9, C9, fCu_right (fCu_left (fCu_comm q1) (fEq_symm eq1)) (fEq_symm eq2), q2⟩
    have hgd := mlT_good hd gi gj hml
    exact q_vret G dX5_times_96 hret (by omega) (by omega) (⟨rfl, _, rfl, frM_st (frM_st (frM_st (frM_st (frM_st (frM_rf M qa qb qc _) (by simp) _ _ _) (by simp) _ _ _) (by simp) _ _ _) (by simp) _ _ _) (by simp) _ _ _, by rw [gM_s _ _ _ _ n1 n2 n3]; exact (mulT_eq gi hml).symm, by rw [gM_s _ _ _ _ n1 n2 n3]; exact hgd.1, by rw [gM_s _ _ _ _ n1 n2 n3]; exact hgd.2⟩)
