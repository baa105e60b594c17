/-! the reference: its object and rows -/
def stM (L : Nat → Nat → Int) (qa qb qc i : Nat) (x y z : Int) : Nat → Nat → Int := up2 (up2 (up2 L qa i x) qb i y) qc i z
def gM (L : Nat → Nat → Int) (qa qb qc i : Nat) : qT3 := (L qa i, L qb i, L qc i)
def qMO (M : qM) (mo qa qb qc qf qt : Nat) : Prop := qO M mo 5 ∧ (mR M mo 2 = some qa ∧ mR M mo 3 = some qb ∧ mR M mo 4 = some qc ∧ mR M mo 5 = some qf ∧ mR M mo 8 = some qt) ∧ (qAr M qa 7 64 ∧ qAr M qb 7 64 ∧ qAr M qc 7 64 ∧ qAr M qf 8 3 ∧ qAr M qt 6 51) ∧ (qa ≠ qb ∧ qa ≠ qc ∧ qb ≠ qc ∧ mo ≠ qa ∧ mo ≠ qb ∧ mo ≠ qc)
theorem stM_a (L : Nat → Nat → Int) {qa qb qc i : Nat} (x y z : Int) (h1 : qa ≠ qb) (h2 : qa ≠ qc) : stM L qa qb qc i x y z qa i = x := by simp [stM, up2, h1, h2]
theorem stM_b (L : Nat → Nat → Int) {qa qb qc i : Nat} (x y z : Int) (h2 : qb ≠ qc) : stM L qa qb qc i x y z qb i = y := by simp [stM, up2, h2]
theorem stM_c (L : Nat → Nat → Int) {qa qb qc i : Nat} (x y z : Int) : stM L qa qb qc i x y z qc i = z := by simp [stM, up2]
theorem stM_n (L : Nat → Nat → Int) {qa qb qc i : Nat} (x y z : Int) {b j : Nat} (h : ¬ ((b = qa ∨ b = qb ∨ b = qc) ∧ j = i)) : stM L qa qb qc i x y z b j = L b j := by
  simp only [stM, up2]
  repeat' split
  all_goals first | rfl | (exfalso; apply h; simp_all)
theorem stM_stM (L : Nat → Nat → Int) (qa qb qc i : Nat) (x y z x' y' z' : Int) (h1 : qa ≠ qb) (h2 : qa ≠ qc) (h3 : qb ≠ qc) : stM (stM L qa qb qc i x y z) qa qb qc i x' y' z' = stM L qa qb qc i x' y' z' := by
  funext b j
  simp only [stM, up2]
  repeat' split
  all_goals first | rfl | (exfalso; simp_all)
theorem stM_self (L : Nat → Nat → Int) (qa qb qc i : Nat) : stM L qa qb qc i (L qa i) (L qb i) (L qc i) = L := by
  funext b j
  simp only [stM, up2]
  repeat' split
  all_goals first | rfl | (rename_i h; rw [h.1, h.2])
theorem gM_s (L : Nat → Nat → Int) {qa qb qc i : Nat} (x y z : Int) (h1 : qa ≠ qb) (h2 : qa ≠ qc) (h3 : qb ≠ qc) : gM (stM L qa qb qc i x y z) qa qb qc i = (x, y, z) := by
  unfold gM; rw [stM_a _ _ _ _ h1 h2, stM_b _ _ _ _ h3, stM_c]
theorem gM_n (L : Nat → Nat → Int) {qa qb qc i j : Nat} (x y z : Int) (h : j ≠ i) : gM (stM L qa qb qc i x y z) qa qb qc j = gM L qa qb qc j := by
  unfold gM; rw [stM_n _ _ _ _ (fun h9 => h h9.2), stM_n _ _ _ _ (fun h9 => h h9.2), stM_n _ _ _ _ (fun h9 => h h9.2)]
set_option maxRecDepth 100000 in
set_option maxHeartbeats 4000000 in
theorem c_X5_set (l : Launch) (D : va_G) (cy : Nat → ClassId) (M : qM) (mo qa qb qc qf qt : Nat) (hMO : qMO M mo qa qb qc qf qt) (i x y z : Int) (hi : 0 ≤ i ∧ i < 64) : qCt l D cy yX5_set cX5_set 8 none { frames := 0, cells := 0, slots := 0, locals := 0 } 0 0 [.ref mo, .int (qI (i)), .long (qL (x)), .long (qL (y)), .long (qL (z))] M (fun v M' => v = none ∧ M' = wL M (stM (mL M) qa qb qc i.toNat x y z)) := by
  refine qCt_of (lv0 := [(0, .ref mo), (1, .int (qI (i))), (2, .long (qL (x))), (4, .long (qL (y))), (6, .long (qL (z)))]) (by decide) rfl (Nat.le_of_ble_eq_true rfl) ?_
  intro p e s m args below meth c G hname hret
  obtain ⟨hF, ⟨r2, r3, r4, r5, r8⟩, ⟨a2, a3, a4, a5, a8⟩, ⟨n1, n2, n3, n4, n5, n6⟩⟩ := id hMO
  refine q_aload_n G 0 0 dX5_set_0 rfl rfl ?_
  refine q_gt (v := .ref qa) G dX5_set_1 fl_X5_7 hF (by decide) rfl (congrArg va_rf r2) ?_
  refine q_iload_n G 1 1 dX5_set_4 rfl rfl ?_
  refine q_lload_n G 2 2 dX5_set_5 rfl rfl ?_
  refine q_lastore G dX5_set_6 a2.1 a2.2.1 (by first | assumption | omega) (show (i) < ((mN M qa : Nat) : Int) by rw [a2.2.2]; omega) (show mN M qa < 2147483648 by rw [a2.2.2]; decide) ?_
  refine q_aload_n G 0 0 dX5_set_7 rfl rfl ?_
  refine q_gt (v := .ref qb) G dX5_set_8 fl_X5_13 hF (by decide) rfl (congrArg va_rf r3) ?_
  refine q_iload_n G 1 1 dX5_set_11 rfl rfl ?_
  refine q_lload G 3 dX5_set_12 rfl ?_
  refine q_lastore G dX5_set_14 a3.1 a3.2.1 (by first | assumption | omega) (show (i) < ((mN M qb : Nat) : Int) by rw [a3.2.2]; omega) (show mN M qb < 2147483648 by rw [a3.2.2]; decide) ?_
  refine q_aload_n G 0 0 dX5_set_15 rfl rfl ?_
  refine q_gt (v := .ref qc) G dX5_set_16 fl_X5_16 hF (by decide) rfl (congrArg va_rf r4) ?_
  refine q_iload_n G 1 1 dX5_set_19 rfl rfl ?_
  refine q_lload G 4 dX5_set_20 rfl ?_
  refine q_lastore G dX5_set_22 a4.1 a4.2.1 (by first | assumption | omega) (show (i) < ((mN M qc : Nat) : Int) by rw [a4.2.2]; omega) (show mN M qc < 2147483648 by rw [a4.2.2]; decide) ?_
  exact q_vret G dX5_set_23 hret (by omega) (by omega) (⟨rfl, rfl⟩)
set_option maxRecDepth 100000 in
set_option maxHeartbeats 4000000 in
theorem c_X5_copy (l : Launch) (D : va_G) (cy : Nat → ClassId) (M : qM) (mo qa qb qc qf qt : Nat) (hMO : qMO M mo qa qb qc qf qt) (i j : Int) (hi : 0 ≤ i ∧ i < 64) (hj : 0 ≤ j ∧ j < 64) : qCt l D cy yX5_copy cX5_copy 3 none { frames := 1, cells := 0, slots := 0, locals := 27 } 0 0 [.ref mo, .int (qI (i)), .int (qI (j))] M (fun v M' => v = none ∧ M' = wL M (stM (mL M) qa qb qc j.toNat (mL M qa i.toNat) (mL M qb i.toNat) (mL M qc i.toNat))) := by
  refine qCt_of (lv0 := [(0, .ref mo), (1, .int (qI (i))), (2, .int (qI (j)))]) (by decide) rfl (Nat.le_of_ble_eq_true rfl) ?_
  intro p e s m args below meth c G hname hret
  obtain ⟨hF, ⟨r2, r3, r4, r5, r8⟩, ⟨a2, a3, a4, a5, a8⟩, ⟨n1, n2, n3, n4, n5, n6⟩⟩ := id hMO
  refine q_aload_n G 0 0 dX5_copy_0 rfl rfl ?_
  refine q_iload_n G 2 2 dX5_copy_1 rfl rfl ?_
  refine q_aload_n G 0 0 dX5_copy_2 rfl rfl ?_
  refine q_gt (v := .ref qa) G dX5_copy_3 fl_X5_7 hF (by decide) rfl (congrArg va_rf r2) ?_
  refine q_iload_n G 1 1 dX5_copy_6 rfl rfl ?_
  refine q_laload G dX5_copy_7 a2.1 a2.2.1 (by first | assumption | omega) (show (i) < ((mN M qa : Nat) : Int) by rw [a2.2.2]; omega) (show mN M qa < 2147483648 by rw [a2.2.2]; decide) ?_
  refine q_aload_n G 0 0 dX5_copy_8 rfl rfl ?_
  refine q_gt (v := .ref qb) G dX5_copy_9 fl_X5_13 hF (by decide) rfl (congrArg va_rf r3) ?_
  refine q_iload_n G 1 1 dX5_copy_12 rfl rfl ?_
  refine q_laload G dX5_copy_13 a3.1 a3.2.1 (by first | assumption | omega) (show (i) < ((mN M qb : Nat) : Int) by rw [a3.2.2]; omega) (show mN M qb < 2147483648 by rw [a3.2.2]; decide) ?_
  refine q_aload_n G 0 0 dX5_copy_14 rfl rfl ?_
  refine q_gt (v := .ref qc) G dX5_copy_15 fl_X5_16 hF (by decide) rfl (congrArg va_rf r4) ?_
  refine q_iload_n G 1 1 dX5_copy_18 rfl rfl ?_
  refine q_laload G dX5_copy_19 a4.1 a4.2.1 (by first | assumption | omega) (show (i) < ((mN M qc : Nat) : Int) by rw [a4.2.2]; omega) (show mN M qc < 2147483648 by rw [a4.2.2]; decide) ?_
  refine q_callV (As := [.int (qI (j)), .long (qL (mL M qa (Int.toNat (i)))), .long (qL (mL M qb (Int.toNat (i)))), .long (qL (mL M qc (Int.toNat (i))))]) (rest := []) G dX5_copy_20 cw_X5_35 (c_X5_set l D cy M mo qa qb qc qf qt hMO (j) (mL M qa (Int.toNat (i))) (mL M qb (Int.toNat (i))) (mL M qc (Int.toNat (i))) (by omega)) hF.1 hF.2 (by decide) rfl rfl rfl (Nat.le_of_ble_eq_true rfl) rfl rfl ⟨Nat.le_of_ble_eq_true rfl, Nat.le_of_ble_eq_true rfl⟩ ⟨by decide, by decide⟩ (fun v9 M9 hq9 => ?_)
  obtain ⟨rfl, e9⟩ := hq9
  refine q_mem e9 ?_
  refine q_st (st2 := []) rfl ?_
  exact q_vret G dX5_copy_23 hret (by omega) (by omega) (⟨rfl, rfl⟩)
set_option maxRecDepth 100000 in
set_option maxHeartbeats 4000000 in
theorem c_X5_same (l : Launch) (D : va_G) (cy : Nat → ClassId) (M : qM) (mo qa qb qc qf qt : Nat) (hMO : qMO M mo qa qb qc qf qt) (i j : Int) (hi : 0 ≤ i ∧ i < 64) (hj : 0 ≤ j ∧ j < 64) (gi0 : r63 (mL M qa i.toNat)) (gi1 : r63 (mL M qb i.toNat)) (gi2 : r63 (mL M qc i.toNat)) (gj0 : r63 (mL M qa j.toNat)) (gj1 : r63 (mL M qb j.toNat)) (gj2 : r63 (mL M qc j.toNat)) : qCt l D cy yX5_same cX5_same 3 (some .boolean) { frames := 0, cells := 0, slots := 0, locals := 0 } 0 0 [.ref mo, .int (qI (i)), .int (qI (j))] M (fun v M' => v = some (.int (qI (if mL M qa i.toNat = mL M qa j.toNat ∧ mL M qb i.toNat = mL M qb j.toNat ∧ mL M qc i.toNat = mL M qc j.toNat then 1 else 0))) ∧ M' = M) := by
  refine qCt_of (lv0 := [(0, .ref mo), (1, .int (qI (i))), (2, .int (qI (j)))]) (by decide) rfl (Nat.le_of_ble_eq_true rfl) ?_
  intro p e s m args below meth c G hname hret
  obtain ⟨hF, ⟨r2, r3, r4, r5, r8⟩, ⟨a2, a3, a4, a5, a8⟩, ⟨n1, n2, n3, n4, n5, n6⟩⟩ := id hMO
  refine q_aload_n G 0 0 dX5_same_0 rfl rfl ?_
  refine q_gt (v := .ref qa) G dX5_same_1 fl_X5_7 hF (by decide) rfl (congrArg va_rf r2) ?_
  refine q_iload_n G 1 1 dX5_same_4 rfl rfl ?_
  refine q_laload G dX5_same_5 a2.1 a2.2.1 (by first | assumption | omega) (show (i) < ((mN M qa : Nat) : Int) by rw [a2.2.2]; omega) (show mN M qa < 2147483648 by rw [a2.2.2]; decide) ?_
  refine q_aload_n G 0 0 dX5_same_6 rfl rfl ?_
  refine q_gt (v := .ref qa) G dX5_same_7 fl_X5_7 hF (by decide) rfl (congrArg va_rf r2) ?_
  refine q_iload_n G 2 2 dX5_same_10 rfl rfl ?_
  refine q_laload G dX5_same_11 a2.1 a2.2.1 (by first | assumption | omega) (show (j) < ((mN M qa : Nat) : Int) by rw [a2.2.2]; omega) (show mN M qa < 2147483648 by rw [a2.2.2]; decide) ?_
  refine q_lcmp_ne (tgt := 52) G dX5_same_12 dX5_same_13 (by decide) (by first | assumption | omega) (by first | assumption | omega) (fun c1 => ?_) (fun c1 => ?_)
  · refine q_iconst G dX5_same_52 ?_
    exact q_zret G dX5_same_53 hret (by decide +kernel) (by omega) (by omega) (⟨by first | (exfalso; omega) | (rw [if_pos]; omega) | (rw [if_neg]; omega), rfl⟩)
  · refine q_aload_n G 0 0 dX5_same_16 rfl rfl ?_
    refine q_gt (v := .ref qb) G dX5_same_17 fl_X5_13 hF (by decide) rfl (congrArg va_rf r3) ?_
    refine q_iload_n G 1 1 dX5_same_20 rfl rfl ?_
    refine q_laload G dX5_same_21 a3.1 a3.2.1 (by first | assumption | omega) (show (i) < ((mN M qb : Nat) : Int) by rw [a3.2.2]; omega) (show mN M qb < 2147483648 by rw [a3.2.2]; decide) ?_
    refine q_aload_n G 0 0 dX5_same_22 rfl rfl ?_
    refine q_gt (v := .ref qb) G dX5_same_23 fl_X5_13 hF (by decide) rfl (congrArg va_rf r3) ?_
    refine q_iload_n G 2 2 dX5_same_26 rfl rfl ?_
    refine q_laload G dX5_same_27 a3.1 a3.2.1 (by first | assumption | omega) (show (j) < ((mN M qb : Nat) : Int) by rw [a3.2.2]; omega) (show mN M qb < 2147483648 by rw [a3.2.2]; decide) ?_
    refine q_lcmp_ne (tgt := 52) G dX5_same_28 dX5_same_29 (by decide) (by first | assumption | omega) (by first | assumption | omega) (fun c2 => ?_) (fun c2 => ?_)
    · refine q_iconst G dX5_same_52 ?_
      exact q_zret G dX5_same_53 hret (by decide +kernel) (by omega) (by omega) (⟨by first | (exfalso; omega) | (rw [if_pos]; omega) | (rw [if_neg]; omega), rfl⟩)
    · refine q_aload_n G 0 0 dX5_same_32 rfl rfl ?_
      refine q_gt (v := .ref qc) G dX5_same_33 fl_X5_16 hF (by decide) rfl (congrArg va_rf r4) ?_
      refine q_iload_n G 1 1 dX5_same_36 rfl rfl ?_
      refine q_laload G dX5_same_37 a4.1 a4.2.1 (by first | assumption | omega) (show (i) < ((mN M qc : Nat) : Int) by rw [a4.2.2]; omega) (show mN M qc < 2147483648 by rw [a4.2.2]; decide) ?_
      refine q_aload_n G 0 0 dX5_same_38 rfl rfl ?_
      refine q_gt (v := .ref qc) G dX5_same_39 fl_X5_16 hF (by decide) rfl (congrArg va_rf r4) ?_
      refine q_iload_n G 2 2 dX5_same_42 rfl rfl ?_
      refine q_laload G dX5_same_43 a4.1 a4.2.1 (by first | assumption | omega) (show (j) < ((mN M qc : Nat) : Int) by rw [a4.2.2]; omega) (show mN M qc < 2147483648 by rw [a4.2.2]; decide) ?_
      refine q_lcmp_ne (tgt := 52) G dX5_same_44 dX5_same_45 (by decide) (by first | assumption | omega) (by first | assumption | omega) (fun c3 => ?_) (fun c3 => ?_)
      · refine q_iconst G dX5_same_52 ?_
        exact q_zret G dX5_same_53 hret (by decide +kernel) (by omega) (by omega) (⟨by first | (exfalso; omega) | (rw [if_pos]; omega) | (rw [if_neg]; omega), rfl⟩)
      · refine q_iconst G dX5_same_48 ?_
        refine q_goto (tgt := 53) G dX5_same_49 (by decide) ?_
        exact q_zret G dX5_same_53 hret (by decide +kernel) (by omega) (by omega) (⟨by first | (exfalso; omega) | (rw [if_pos]; omega) | (rw [if_neg]; omega), rfl⟩)
set_option maxRecDepth 100000 in
set_option maxHeartbeats 4000000 in
theorem c_X5_isReduced (l : Launch) (D : va_G) (cy : Nat → ClassId) (M : qM) (mo qa qb qc qf qt : Nat) (hMO : qMO M mo qa qb qc qf qt) (i : Int) (hi : 0 ≤ i ∧ i < 64) (gi0 : r63 (mL M qa i.toNat)) (gi1 : r63 (mL M qb i.toNat)) (gi2 : r63 (mL M qc i.toNat)) : qCt l D cy yX5_isReduced cX5_isReduced 2 (some .boolean) { frames := 0, cells := 0, slots := 0, locals := 0 } 0 0 [.ref mo, .int (qI (i))] M (fun v M' => v = some (.int (qI (if isRd (mL M qa i.toNat) (mL M qb i.toNat) (mL M qc i.toNat) then 1 else 0))) ∧ M' = M) := by
  refine qCt_of (lv0 := [(0, .ref mo), (1, .int (qI (i)))]) (by decide) rfl (Nat.le_of_ble_eq_true rfl) ?_
  intro p e s m args below meth c G hname hret
  obtain ⟨hF, ⟨r2, r3, r4, r5, r8⟩, ⟨a2, a3, a4, a5, a8⟩, ⟨n1, n2, n3, n4, n5, n6⟩⟩ := id hMO
  refine q_aload_n G 0 0 dX5_isReduced_0 rfl rfl ?_
  refine q_gt (v := .ref qb) G dX5_isReduced_1 fl_X5_13 hF (by decide) rfl (congrArg va_rf r3) ?_
  refine q_iload_n G 1 1 dX5_isReduced_4 rfl rfl ?_
  refine q_laload G dX5_isReduced_5 a3.1 a3.2.1 (by first | assumption | omega) (show (i) < ((mN M qb : Nat) : Int) by rw [a3.2.2]; omega) (show mN M qb < 2147483648 by rw [a3.2.2]; decide) ?_
  refine q_aload_n G 0 0 dX5_isReduced_6 rfl rfl ?_
  refine q_gt (v := .ref qa) G dX5_isReduced_7 fl_X5_7 hF (by decide) rfl (congrArg va_rf r2) ?_
  refine q_iload_n G 1 1 dX5_isReduced_10 rfl rfl ?_
  refine q_laload G dX5_isReduced_11 a2.1 a2.2.1 (by first | assumption | omega) (show (i) < ((mN M qa : Nat) : Int) by rw [a2.2.2]; omega) (show mN M qa < 2147483648 by rw [a2.2.2]; decide) ?_
  refine q_lneg G dX5_isReduced_12 ?_
  refine q_lcmp_le (tgt := 80) G dX5_isReduced_13 dX5_isReduced_14 (by decide) (by first | assumption | omega) (by first | assumption | omega) (fun c1 => ?_) (fun c1 => ?_)
  · refine q_iconst G dX5_isReduced_80 ?_
    exact q_zret G dX5_isReduced_81 hret (by decide +kernel) (by omega) (by omega) (⟨by first | (exfalso; omega) | (rw [if_pos]; omega) | (rw [if_neg]; omega), rfl⟩)
  · refine q_aload_n G 0 0 dX5_isReduced_17 rfl rfl ?_
    refine q_gt (v := .ref qb) G dX5_isReduced_18 fl_X5_13 hF (by decide) rfl (congrArg va_rf r3) ?_
    refine q_iload_n G 1 1 dX5_isReduced_21 rfl rfl ?_
    refine q_laload G dX5_isReduced_22 a3.1 a3.2.1 (by first | assumption | omega) (show (i) < ((mN M qb : Nat) : Int) by rw [a3.2.2]; omega) (show mN M qb < 2147483648 by rw [a3.2.2]; decide) ?_
    refine q_aload_n G 0 0 dX5_isReduced_23 rfl rfl ?_
    refine q_gt (v := .ref qa) G dX5_isReduced_24 fl_X5_7 hF (by decide) rfl (congrArg va_rf r2) ?_
    refine q_iload_n G 1 1 dX5_isReduced_27 rfl rfl ?_
    refine q_laload G dX5_isReduced_28 a2.1 a2.2.1 (by first | assumption | omega) (show (i) < ((mN M qa : Nat) : Int) by rw [a2.2.2]; omega) (show mN M qa < 2147483648 by rw [a2.2.2]; decide) ?_
    refine q_lcmp_gt (tgt := 80) G dX5_isReduced_29 dX5_isReduced_30 (by decide) (by first | assumption | omega) (by first | assumption | omega) (fun c2 => ?_) (fun c2 => ?_)
    · refine q_iconst G dX5_isReduced_80 ?_
      exact q_zret G dX5_isReduced_81 hret (by decide +kernel) (by omega) (by omega) (⟨by first | (exfalso; omega) | (rw [if_pos]; omega) | (rw [if_neg]; omega), rfl⟩)
    · refine q_aload_n G 0 0 dX5_isReduced_33 rfl rfl ?_
      refine q_gt (v := .ref qa) G dX5_isReduced_34 fl_X5_7 hF (by decide) rfl (congrArg va_rf r2) ?_
      refine q_iload_n G 1 1 dX5_isReduced_37 rfl rfl ?_
      refine q_laload G dX5_isReduced_38 a2.1 a2.2.1 (by first | assumption | omega) (show (i) < ((mN M qa : Nat) : Int) by rw [a2.2.2]; omega) (show mN M qa < 2147483648 by rw [a2.2.2]; decide) ?_
      refine q_aload_n G 0 0 dX5_isReduced_39 rfl rfl ?_
      refine q_gt (v := .ref qc) G dX5_isReduced_40 fl_X5_16 hF (by decide) rfl (congrArg va_rf r4) ?_
      refine q_iload_n G 1 1 dX5_isReduced_43 rfl rfl ?_
      refine q_laload G dX5_isReduced_44 a4.1 a4.2.1 (by first | assumption | omega) (show (i) < ((mN M qc : Nat) : Int) by rw [a4.2.2]; omega) (show mN M qc < 2147483648 by rw [a4.2.2]; decide) ?_
      refine q_lcmp_gt (tgt := 80) G dX5_isReduced_45 dX5_isReduced_46 (by decide) (by first | assumption | omega) (by first | assumption | omega) (fun c3 => ?_) (fun c3 => ?_)
      · refine q_iconst G dX5_isReduced_80 ?_
        exact q_zret G dX5_isReduced_81 hret (by decide +kernel) (by omega) (by omega) (⟨by first | (exfalso; omega) | (rw [if_pos]; omega) | (rw [if_neg]; omega), rfl⟩)
      · refine q_aload_n G 0 0 dX5_isReduced_49 rfl rfl ?_
        refine q_gt (v := .ref qa) G dX5_isReduced_50 fl_X5_7 hF (by decide) rfl (congrArg va_rf r2) ?_
        refine q_iload_n G 1 1 dX5_isReduced_53 rfl rfl ?_
        refine q_laload G dX5_isReduced_54 a2.1 a2.2.1 (by first | assumption | omega) (show (i) < ((mN M qa : Nat) : Int) by rw [a2.2.2]; omega) (show mN M qa < 2147483648 by rw [a2.2.2]; decide) ?_
        refine q_aload_n G 0 0 dX5_isReduced_55 rfl rfl ?_
        refine q_gt (v := .ref qc) G dX5_isReduced_56 fl_X5_16 hF (by decide) rfl (congrArg va_rf r4) ?_
        refine q_iload_n G 1 1 dX5_isReduced_59 rfl rfl ?_
        refine q_laload G dX5_isReduced_60 a4.1 a4.2.1 (by first | assumption | omega) (show (i) < ((mN M qc : Nat) : Int) by rw [a4.2.2]; omega) (show mN M qc < 2147483648 by rw [a4.2.2]; decide) ?_
        refine q_lcmp_ne (tgt := 76) G dX5_isReduced_61 dX5_isReduced_62 (by decide) (by first | assumption | omega) (by first | assumption | omega) (fun c4 => ?_) (fun c4 => ?_)
        · refine q_iconst G dX5_isReduced_76 ?_
          refine q_goto (tgt := 81) G dX5_isReduced_77 (by decide) ?_
          exact q_zret G dX5_isReduced_81 hret (by decide +kernel) (by omega) (by omega) (⟨by first | (exfalso; omega) | (rw [if_pos]; omega) | (rw [if_neg]; omega), rfl⟩)
        · refine q_aload_n G 0 0 dX5_isReduced_65 rfl rfl ?_
          refine q_gt (v := .ref qb) G dX5_isReduced_66 fl_X5_13 hF (by decide) rfl (congrArg va_rf r3) ?_
          refine q_iload_n G 1 1 dX5_isReduced_69 rfl rfl ?_
          refine q_laload G dX5_isReduced_70 a3.1 a3.2.1 (by first | assumption | omega) (show (i) < ((mN M qb : Nat) : Int) by rw [a3.2.2]; omega) (show mN M qb < 2147483648 by rw [a3.2.2]; decide) ?_
          refine q_lconst (z := 0) G dX5_isReduced_71 (by decide +kernel) ?_
          refine q_lcmp_lt (tgt := 80) G dX5_isReduced_72 dX5_isReduced_73 (by decide) (by first | assumption | omega) (by first | assumption | omega) (fun c5 => ?_) (fun c5 => ?_)
          · refine q_iconst G dX5_isReduced_80 ?_
            exact q_zret G dX5_isReduced_81 hret (by decide +kernel) (by omega) (by omega) (⟨by first | (exfalso; omega) | (rw [if_pos]; omega) | (rw [if_neg]; omega), rfl⟩)
          · refine q_iconst G dX5_isReduced_76 ?_
            refine q_goto (tgt := 81) G dX5_isReduced_77 (by decide) ?_
            exact q_zret G dX5_isReduced_81 hret (by decide +kernel) (by omega) (by omega) (⟨by first | (exfalso; omega) | (rw [if_pos]; omega) | (rw [if_neg]; omega), rfl⟩)
set_option maxRecDepth 100000 in
set_option maxHeartbeats 4000000 in
theorem c_X5_isAny (l : Launch) (D : va_G) (cy : Nat → ClassId) (M : qM) (mo qa qb qc qf qt : Nat) (hMO : qMO M mo qa qb qc qf qt) (hd : r64 (mL M mo 1)) : qCt l D cy yX5_isAny cX5_isAny 1 (some .boolean) { frames := 0, cells := 0, slots := 0, locals := 0 } 0 0 [.ref mo] M (fun v M' => v = some (.int (qI (if 0 < mL M mo 1 then 1 else 0))) ∧ M' = M) := by
  refine qCt_of (lv0 := [(0, .ref mo)]) (by decide) rfl (Nat.le_of_ble_eq_true rfl) ?_
  intro p e s m args below meth c G hname hret
  obtain ⟨hF, ⟨r2, r3, r4, r5, r8⟩, ⟨a2, a3, a4, a5, a8⟩, ⟨n1, n2, n3, n4, n5, n6⟩⟩ := id hMO
  refine q_aload_n G 0 0 dX5_isAny_0 rfl rfl ?_
  refine q_gt (v := .long (qL (mL M mo 1))) G dX5_isAny_1 fl_X5_90 hF (by decide) rfl rfl ?_
  refine q_lconst (z := 0) G dX5_isAny_4 (by decide +kernel) ?_
  refine q_lcmp_le (tgt := 13) G dX5_isAny_5 dX5_isAny_6 (by decide) (by first | assumption | omega) (by first | assumption | omega) (fun c1 => ?_) (fun c1 => ?_)
  · refine q_iconst G dX5_isAny_13 ?_
    exact q_zret G dX5_isAny_14 hret (by decide +kernel) (by omega) (by omega) (⟨by first | (exfalso; omega) | (rw [if_pos]; omega) | (rw [if_neg]; omega), rfl⟩)
  · refine q_iconst G dX5_isAny_9 ?_
    refine q_goto (tgt := 14) G dX5_isAny_10 (by decide) ?_
    exact q_zret G dX5_isAny_14 hret (by decide +kernel) (by omega) (by omega) (⟨by first | (exfalso; omega) | (rw [if_pos]; omega) | (rw [if_neg]; omega), rfl⟩)
set_option maxRecDepth 100000 in
set_option maxHeartbeats 4000000 in
theorem c_X5_thrown (l : Launch) (D : va_G) (cy : Nat → ClassId) (M : qM) (mo qa qb qc qf qt : Nat) (hMO : qMO M mo qa qb qc qf qt) : qCt l D cy yX5_thrown cX5_thrown 1 (some .int) { frames := 0, cells := 0, slots := 0, locals := 0 } 0 0 [.ref mo] M (fun v M' => v = some (.int (qI (mI M mo 0))) ∧ M' = M) := by
  refine qCt_of (lv0 := [(0, .ref mo)]) (by decide) rfl (Nat.le_of_ble_eq_true rfl) ?_
  intro p e s m args below meth c G hname hret
  obtain ⟨hF, ⟨r2, r3, r4, r5, r8⟩, ⟨a2, a3, a4, a5, a8⟩, ⟨n1, n2, n3, n4, n5, n6⟩⟩ := id hMO
  refine q_aload_n G 0 0 dX5_thrown_0 rfl rfl ?_
  refine q_gt (v := .int (qI (mI M mo 0))) G dX5_thrown_1 fl_X5_27 hF (by decide) rfl rfl ?_
  exact q_iret G dX5_thrown_4 hret (by omega) (by omega) (⟨rfl, rfl⟩)
set_option maxRecDepth 100000 in
set_option maxHeartbeats 4000000 in
theorem c_X5_partOf (l : Launch) (D : va_G) (cy : Nat → ClassId) (M : qM) (mo qa qb qc qf qt : Nat) (hMO : qMO M mo qa qb qc qf qt) (i k : Int) (hi : 0 ≤ i ∧ i < 64) (hk : r32 k) : qCt l D cy yX5_partOf cX5_partOf 3 (some .long) { frames := 0, cells := 0, slots := 0, locals := 0 } 0 0 [.ref mo, .int (qI (i)), .int (qI (k))] M (fun v M' => v = some (.long (qL (if k = 0 then mL M qa i.toNat else if k = 1 then mL M qb i.toNat else mL M qc i.toNat))) ∧ M' = M) := by
  refine qCt_of (lv0 := [(0, .ref mo), (1, .int (qI (i))), (2, .int (qI (k)))]) (by decide) rfl (Nat.le_of_ble_eq_true rfl) ?_
  intro p e s m args below meth c G hname hret
  obtain ⟨hF, ⟨r2, r3, r4, r5, r8⟩, ⟨a2, a3, a4, a5, a8⟩, ⟨n1, n2, n3, n4, n5, n6⟩⟩ := id hMO
  refine q_iload_n G 2 2 dX5_partOf_0 rfl rfl ?_
  refine q_if_ne (tgt := 13) G dX5_partOf_1 (by decide) (by first | assumption | omega) (fun c1 => ?_) (fun c1 => ?_)
  · refine q_iload_n G 2 2 dX5_partOf_13 rfl rfl ?_
    refine q_iconst G dX5_partOf_14 ?_
    refine q_icmp_ne (tgt := 27) G dX5_partOf_15 (by decide) (by first | assumption | omega) (by first | assumption | omega) (fun c2 => ?_) (fun c2 => ?_)
    · refine q_aload_n G 0 0 dX5_partOf_27 rfl rfl ?_
      refine q_gt (v := .ref qc) G dX5_partOf_28 fl_X5_16 hF (by decide) rfl (congrArg va_rf r4) ?_
      refine q_iload_n G 1 1 dX5_partOf_31 rfl rfl ?_
      refine q_laload G dX5_partOf_32 a4.1 a4.2.1 (by first | assumption | omega) (show (i) < ((mN M qc : Nat) : Int) by rw [a4.2.2]; omega) (show mN M qc < 2147483648 by rw [a4.2.2]; decide) ?_
      exact q_lret G dX5_partOf_33 hret (by omega) (by omega) (⟨by first | (rw [if_pos]; omega) | (rw [if_neg, if_pos] <;> omega) | (rw [if_neg, if_neg] <;> omega), rfl⟩)
    · refine q_aload_n G 0 0 dX5_partOf_18 rfl rfl ?_
      refine q_gt (v := .ref qb) G dX5_partOf_19 fl_X5_13 hF (by decide) rfl (congrArg va_rf r3) ?_
      refine q_iload_n G 1 1 dX5_partOf_22 rfl rfl ?_
      refine q_laload G dX5_partOf_23 a3.1 a3.2.1 (by first | assumption | omega) (show (i) < ((mN M qb : Nat) : Int) by rw [a3.2.2]; omega) (show mN M qb < 2147483648 by rw [a3.2.2]; decide) ?_
      refine q_goto (tgt := 33) G dX5_partOf_24 (by decide) ?_
      exact q_lret G dX5_partOf_33 hret (by omega) (by omega) (⟨by first | (rw [if_pos]; omega) | (rw [if_neg, if_pos] <;> omega) | (rw [if_neg, if_neg] <;> omega), rfl⟩)
  · refine q_aload_n G 0 0 dX5_partOf_4 rfl rfl ?_
    refine q_gt (v := .ref qa) G dX5_partOf_5 fl_X5_7 hF (by decide) rfl (congrArg va_rf r2) ?_
    refine q_iload_n G 1 1 dX5_partOf_8 rfl rfl ?_
    refine q_laload G dX5_partOf_9 a2.1 a2.2.1 (by first | assumption | omega) (show (i) < ((mN M qa : Nat) : Int) by rw [a2.2.2]; omega) (show mN M qa < 2147483648 by rw [a2.2.2]; decide) ?_
    refine q_goto (tgt := 33) G dX5_partOf_10 (by decide) ?_
    exact q_lret G dX5_partOf_33 hret (by omega) (by omega) (⟨by first | (rw [if_pos]; omega) | (rw [if_neg, if_pos] <;> omega) | (rw [if_neg, if_neg] <;> omega), rfl⟩)
def mixF (h : Int) (t : qT3) : Int := mixN (mixN h t.1) t.2.1
set_option maxRecDepth 100000 in
set_option maxHeartbeats 4000000 in
theorem c_X5_mixForm (l : Launch) (D : va_G) (cy : Nat → ClassId) (M : qM) (mo qa qb qc qf qt : Nat) (hMO : qMO M mo qa qb qc qf qt) (x i : Int) (hi : 0 ≤ i ∧ i < 64) : qCt l D cy yX5_mixForm cX5_mixForm 3 (some .int) { frames := 1, cells := 0, slots := 0, locals := 22 } 0 0 [.ref mo, .int (qI (x)), .int (qI (i))] M (fun v M' => v = some (.int (qI (mixF x (gM (mL M) qa qb qc i.toNat)))) ∧ M' = M) := by
  refine qCt_of (lv0 := [(0, .ref mo), (1, .int (qI (x))), (2, .int (qI (i)))]) (by decide) rfl (Nat.le_of_ble_eq_true rfl) ?_
  intro p e s m args below meth c G hname hret
  obtain ⟨hF, ⟨r2, r3, r4, r5, r8⟩, ⟨a2, a3, a4, a5, a8⟩, ⟨n1, n2, n3, n4, n5, n6⟩⟩ := id hMO
  refine q_iload_n G 1 1 dX5_mixForm_0 rfl rfl ?_
  refine q_aload_n G 0 0 dX5_mixForm_1 rfl rfl ?_
  refine q_gt (v := .ref qa) G dX5_mixForm_2 fl_X5_7 hF (by decide) rfl (congrArg va_rf r2) ?_
  refine q_iload_n G 2 2 dX5_mixForm_5 rfl rfl ?_
  refine q_laload G dX5_mixForm_6 a2.1 a2.2.1 (by first | assumption | omega) (show (i) < ((mN M qa : Nat) : Int) by rw [a2.2.2]; omega) (show mN M qa < 2147483648 by rw [a2.2.2]; decide) ?_
  refine q_l2i G dX5_mixForm_7 ?_
  refine q_callS (As := [.int (qI (x)), .int (qI (mL M qa (Int.toNat (i))))]) (rest := []) G dX5_mixForm_8 cw_X5_74 (c_X5_mix l D cy M (x) (mL M qa (Int.toNat (i)))) rfl rfl (Nat.le_of_ble_eq_true rfl) rfl rfl ⟨Nat.le_of_ble_eq_true rfl, Nat.le_of_ble_eq_true rfl⟩ ⟨by decide, by decide⟩ (fun v9 M9 hq9 => ?_)
  obtain ⟨rfl, e9⟩ := hq9
  refine q_mem e9 ?_
  refine q_st (st2 := [.int (qI (mixN (x) (mL M qa (Int.toNat (i)))))]) rfl ?_
  refine q_aload_n G 0 0 dX5_mixForm_11 rfl rfl ?_
  refine q_gt (v := .ref qb) G dX5_mixForm_12 fl_X5_13 hF (by decide) rfl (congrArg va_rf r3) ?_
  refine q_iload_n G 2 2 dX5_mixForm_15 rfl rfl ?_
  refine q_laload G dX5_mixForm_16 a3.1 a3.2.1 (by first | assumption | omega) (show (i) < ((mN M qb : Nat) : Int) by rw [a3.2.2]; omega) (show mN M qb < 2147483648 by rw [a3.2.2]; decide) ?_
  refine q_l2i G dX5_mixForm_17 ?_
  refine q_callS (As := [.int (qI (mixN (x) (mL M qa (Int.toNat (i))))), .int (qI (mL M qb (Int.toNat (i))))]) (rest := []) G dX5_mixForm_18 cw_X5_74 (c_X5_mix l D cy M (mixN (x) (mL M qa (Int.toNat (i)))) (mL M qb (Int.toNat (i)))) rfl rfl (Nat.le_of_ble_eq_true rfl) rfl rfl ⟨Nat.le_of_ble_eq_true rfl, Nat.le_of_ble_eq_true rfl⟩ ⟨by decide, by decide⟩ (fun v9 M9 hq9 => ?_)
  obtain ⟨rfl, e9⟩ := hq9
  refine q_mem e9 ?_
  refine q_st (st2 := [.int (qI (mixN (mixN (x) (mL M qa (Int.toNat (i)))) (mL M qb (Int.toNat (i)))))]) rfl ?_
  exact q_iret G dX5_mixForm_21 hret (by omega) (by omega) (⟨rfl, rfl⟩)
set_option maxRecDepth 100000 in
set_option maxHeartbeats 4000000 in
theorem l_rest5 {p : Program} {e : Env} {s : State} {m : MethodId} {args : Array Value} {below : List Frame} {meth : Method} {c : Code} (l : Launch) (D : va_G) (cy : Nat → ClassId) (M : qM) (dd pr : Int) (hdd : 0 ≤ dd ∧ dd ≤ 1000000) (hpr : 2 ≤ pr) (hpr2 : pr ≤ 1000000000) (G : qG p s m args meth c cX5_restOf 4 yX5_restOf.cls D cy (qA (mP M) s.heap.size)) (hret : meth.sig.returnType = (some .int)) : ∀ (w9 : Nat) (i : Nat), (dd - i).toNat < w9 → (i : Int) ≤ dd → qK p l e { frames := 0, cells := 0, slots := 0, locals := 0 } s m args below meth c (MQ below (qQ D cy (mP M) (fun v M' => v = some (.int (qI (rstN dd.toNat pr))) ∧ M' = M)) args s 0 0 (qA (mP M) s.heap.size)) 4 D cy (qA (mP M) s.heap.size) 0 0 4 [(3, .int (qI ((i : Int)))), (2, .int (qI (rstN i pr))), (1, .int (qI (pr))), (0, .int (qI (dd)))] [] (M) := by
  intro w9
  induction w9 with
  | zero => intro i h9; exact absurd h9 (Nat.not_lt_zero _)
  | succ w9 ih =>
    intro i hm hI
    have hin := rstN_in i hpr
    refine q_iload_n G 0 3 dX5_restOf_4 rfl rfl ?_
    refine q_iload_n G 3 0 dX5_restOf_5 rfl rfl ?_
    refine q_icmp_ge (tgt := 21) G dX5_restOf_6 (by decide) (by omega) (by omega) (fun c1 => ?_) (fun c1 => ?_)
    · refine q_iload_n G 1 2 dX5_restOf_21 rfl rfl ?_
      exact q_iret G dX5_restOf_22 hret (by omega) (by omega) (⟨by rw [show i = dd.toNat by omega], rfl⟩)
    · refine q_iconst G dX5_restOf_9 ?_
      refine q_iload_n G 1 2 dX5_restOf_10 rfl rfl ?_
      refine q_imul G dX5_restOf_11 ?_
      refine q_iload_n G 2 1 dX5_restOf_12 rfl rfl ?_
      refine q_irem G dX5_restOf_13 (by omega) (by omega) (by omega) ?_
      refine q_topI (z2 := rstN (i + 1) pr) (Int.tmod_eq_emod_of_nonneg (by omega)) ?_
      refine q_istore_n (lv' := [(2, .int (qI (rstN (i + 1) pr))), (3, .int (qI ((i : Int)))), (1, .int (qI (pr))), (0, .int (qI (dd)))]) G 2 dX5_restOf_14 rfl (by decide) rfl ?_
      refine q_iinc (lv' := [(3, .int (qI (((i : Int)) + 1))), (2, .int (qI (rstN (i + 1) pr))), (1, .int (qI (pr))), (0, .int (qI (dd)))]) G 1 dX5_restOf_15 rfl (by decide) rfl ?_
      refine q_goto (tgt := 4) G dX5_restOf_18 (by decide) ?_
      refine q_lvs [0, 1, 2, 3] rfl ?_
      exact ih (i + 1) (by omega) (by omega)
set_option maxRecDepth 100000 in
set_option maxHeartbeats 4000000 in
theorem c_X5_restOf (l : Launch) (D : va_G) (cy : Nat → ClassId) (M : qM) (dd pr : Int) (hdd : 0 ≤ dd ∧ dd ≤ 1000000) (hpr : 2 ≤ pr) (hpr2 : pr ≤ 1000000000) : qCt l D cy yX5_restOf cX5_restOf 4 (some .int) { frames := 0, cells := 0, slots := 0, locals := 0 } 0 0 [.int (qI (dd)), .int (qI (pr))] M (fun v M' => v = some (.int (qI (rstN dd.toNat pr))) ∧ M' = M) := by
  refine qCt_of (lv0 := [(0, .int (qI (dd))), (1, .int (qI (pr)))]) (by decide) rfl (Nat.le_of_ble_eq_true rfl) ?_
  intro p e s m args below meth c G hname hret
  refine q_iconst G dX5_restOf_0 ?_
  refine q_istore_n (lv' := [(2, .int (qI (1))), (0, .int (qI (dd))), (1, .int (qI (pr)))]) G 2 dX5_restOf_1 rfl (by decide) rfl ?_
  refine q_iconst G dX5_restOf_2 ?_
  refine q_istore_n (lv' := [(3, .int (qI (0))), (2, .int (qI (1))), (0, .int (qI (dd))), (1, .int (qI (pr)))]) G 3 dX5_restOf_3 rfl (by decide) rfl ?_
  refine q_lvs [0, 1, 3, 2] rfl ?_
  exact l_rest5 l D cy M dd pr hdd hpr hpr2 G hret _ 0 (Nat.lt_succ_self _) (by omega)
theorem gcd_md {x y : Int} (hx : 0 ≤ x) (hy : 0 ≤ y) : Int.gcd y (x % y) = Int.gcd x y := by
  obtain ⟨n, rfl⟩ : ∃ n : Nat, x = n := ⟨x.toNat, by omega⟩
  obtain ⟨m, rfl⟩ : ∃ m : Nat, y = m := ⟨y.toNat, by omega⟩
  rw [← Int.natCast_emod]
  show Nat.gcd m (n % m) = Nat.gcd n m
  rw [Nat.gcd_comm m (n % m), ← Nat.gcd_rec, Nat.gcd_comm]
def po_div (M : qM) (x y : Int) : Option Value → qM → Prop := fun v M' => v = some (.long (qL (Int.gcd x y))) ∧ M' = M
set_option maxRecDepth 100000 in
set_option maxHeartbeats 4000000 in
theorem l_div {p : Program} {e : Env} {s : State} {m : MethodId} {args : Array Value} {below : List Frame} {meth : Method} {c : Code} (l : Launch) (D : va_G) (cy : Nat → ClassId) (M : qM) (x y : Int) (G : qG p s m args meth c cX5_divisor 10 yX5_divisor.cls D cy (qA (mP M) s.heap.size)) (hret : meth.sig.returnType = (some .long)) : ∀ (w9 : Nat) (x1 y1 : Int), y1.toNat < w9 → (0 ≤ x1 ∧ 0 ≤ y1 ∧ x1 < 9223372036854775808 ∧ y1 < 9223372036854775808 ∧ Int.gcd x1 y1 = Int.gcd x y) → qK p l e { frames := 0, cells := 0, slots := 0, locals := 0 } s m args below meth c (MQ below (qQ D cy (mP M) (po_div M x y)) args s 0 0 (qA (mP M) s.heap.size)) 10 D cy (qA (mP M) s.heap.size) 0 0 28 [(6, .long (qL (y1))), (4, .long (qL (x1)))] [] (M) := by
  intro w9
  induction w9 with
  | zero => intro x1 y1 h9; exact absurd h9 (Nat.not_lt_zero _)
  | succ w9 ih =>
    intro x1 y1 hm hI
    obtain ⟨k1, k2, k3, k4, -⟩ := id hI
    refine q_lload G 0 dX5_divisor_28 rfl ?_
    refine q_lconst (z := 0) G dX5_divisor_30 (by decide +kernel) ?_
    refine q_lcmp_eq (tgt := 53) G dX5_divisor_31 dX5_divisor_32 (by decide) (by first | assumption | omega) (by first | assumption | omega) (fun c1 => ?_) (fun c1 => ?_)
    · refine q_lload G 1 dX5_divisor_53 rfl ?_
      exact q_lret G dX5_divisor_55 hret (by omega) (by omega) (⟨by rw [← hI.2.2.2.2, show y1 = 0 by assumption, Int.gcd_zero, Int.natAbs_of_nonneg hI.1], rfl⟩)
    · have ht : x1.tmod y1 = x1 % y1 := Int.tmod_eq_emod_of_nonneg (by omega)
      have ht1 := Int.emod_nonneg x1 (show y1 ≠ 0 by omega)
      have ht2 := Int.emod_lt_of_pos x1 (show 0 < y1 by omega)
      refine q_lload G 1 dX5_divisor_35 rfl ?_
      refine q_lload G 0 dX5_divisor_37 rfl ?_
      refine q_lrem G dX5_divisor_39 (by first | assumption | omega) (by first | assumption | omega) (by first | assumption | omega) ?_
      refine q_lstore (lv' := [(8, .long (qL ((x1).tmod y1))), (6, .long (qL (y1))), (4, .long (qL (x1)))]) G dX5_divisor_40 (by decide) rfl ?_
      refine q_lload G 1 dX5_divisor_42 rfl ?_
      refine q_lstore (lv' := [(4, .long (qL (y1))), (8, .long (qL ((x1).tmod y1))), (6, .long (qL (y1)))]) G dX5_divisor_44 (by decide) rfl ?_
      refine q_lload G 1 dX5_divisor_46 rfl ?_
      refine q_lstore (lv' := [(6, .long (qL ((x1).tmod y1))), (4, .long (qL (y1))), (8, .long (qL ((x1).tmod y1)))]) G dX5_divisor_48 (by decide) rfl ?_
      refine q_goto (tgt := 28) G dX5_divisor_50 (by decide) ?_
      refine q_lvs [0, 1] rfl ?_
      exact ih _ _ (by omega) ⟨by omega, by omega, by omega, by omega, by rw [← hI.2.2.2.2, ht]; exact gcd_md hI.1 hI.2.1⟩
set_option maxRecDepth 100000 in
set_option maxHeartbeats 4000000 in
theorem c_X5_divisor (l : Launch) (D : va_G) (cy : Nat → ClassId) (M : qM) (x y : Int) (hx : r63 x) (hy : r63 y) : qCt l D cy yX5_divisor cX5_divisor 10 (some .long) { frames := 0, cells := 0, slots := 0, locals := 0 } 0 0 [.long (qL (x)), .long (qL (y))] M (po_div M x y) := by
  refine qCt_of (lv0 := [(0, .long (qL (x))), (2, .long (qL (y)))]) (by decide) rfl (Nat.le_of_ble_eq_true rfl) ?_
  intro p e s m args below meth c G hname hret
  refine q_lload_n G 0 0 dX5_divisor_0 rfl rfl ?_
  refine q_lconst (z := 0) G dX5_divisor_1 (by decide +kernel) ?_
  refine q_lcmp_ge (tgt := 11) G dX5_divisor_2 dX5_divisor_3 (by decide) (by first | assumption | omega) (by first | assumption | omega) (fun c1 => ?_) (fun c1 => ?_)
  · refine q_lload_n G 0 0 dX5_divisor_11 rfl rfl ?_
    refine q_lstore (lv' := [(4, .long (qL (x))), (0, .long (qL (x))), (2, .long (qL (y)))]) G dX5_divisor_12 (by decide) rfl ?_
    refine q_lload_n G 2 2 dX5_divisor_14 rfl rfl ?_
    refine q_lconst (z := 0) G dX5_divisor_15 (by decide +kernel) ?_
    refine q_lcmp_ge (tgt := 25) G dX5_divisor_16 dX5_divisor_17 (by decide) (by first | assumption | omega) (by first | assumption | omega) (fun c2 => ?_) (fun c2 => ?_)
    · refine q_lload_n G 2 2 dX5_divisor_25 rfl rfl ?_
      refine q_lstore (lv' := [(6, .long (qL (y))), (4, .long (qL (x))), (0, .long (qL (x))), (2, .long (qL (y)))]) G dX5_divisor_26 (by decide) rfl ?_
      refine q_lvs [0, 1] rfl ?_
      exact l_div l D cy M x y G hret _ _ _ (Nat.lt_succ_self _) ⟨by omega, by omega, by omega, by omega, by simp only [Int.gcd_neg, Int.neg_gcd]⟩
    · refine q_lload_n G 2 2 dX5_divisor_20 rfl rfl ?_
      refine q_lneg G dX5_divisor_21 ?_
      refine q_goto (tgt := 26) G dX5_divisor_22 (by decide) ?_
      refine q_lstore (lv' := [(6, .long (qL (-y))), (4, .long (qL (x))), (0, .long (qL (x))), (2, .long (qL (y)))]) G dX5_divisor_26 (by decide) rfl ?_
      refine q_lvs [0, 1] rfl ?_
      exact l_div l D cy M x y G hret _ _ _ (Nat.lt_succ_self _) ⟨by omega, by omega, by omega, by omega, by simp only [Int.gcd_neg, Int.neg_gcd]⟩
  · refine q_lload_n G 0 0 dX5_divisor_6 rfl rfl ?_
    refine q_lneg G dX5_divisor_7 ?_
    refine q_goto (tgt := 12) G dX5_divisor_8 (by decide) ?_
    refine q_lstore (lv' := [(4, .long (qL (-x))), (0, .long (qL (x))), (2, .long (qL (y)))]) G dX5_divisor_12 (by decide) rfl ?_
    refine q_lload_n G 2 2 dX5_divisor_14 rfl rfl ?_
    refine q_lconst (z := 0) G dX5_divisor_15 (by decide +kernel) ?_
    refine q_lcmp_ge (tgt := 25) G dX5_divisor_16 dX5_divisor_17 (by decide) (by first | assumption | omega) (by first | assumption | omega) (fun c3 => ?_) (fun c3 => ?_)
    · refine q_lload_n G 2 2 dX5_divisor_25 rfl rfl ?_
      refine q_lstore (lv' := [(6, .long (qL (y))), (4, .long (qL (-x))), (0, .long (qL (x))), (2, .long (qL (y)))]) G dX5_divisor_26 (by decide) rfl ?_
      refine q_lvs [0, 1] rfl ?_
      exact l_div l D cy M x y G hret _ _ _ (Nat.lt_succ_self _) ⟨by omega, by omega, by omega, by omega, by simp only [Int.gcd_neg, Int.neg_gcd]⟩
    · refine q_lload_n G 2 2 dX5_divisor_20 rfl rfl ?_
      refine q_lneg G dX5_divisor_21 ?_
      refine q_goto (tgt := 26) G dX5_divisor_22 (by decide) ?_
      refine q_lstore (lv' := [(6, .long (qL (-y))), (4, .long (qL (-x))), (0, .long (qL (x))), (2, .long (qL (y)))]) G dX5_divisor_26 (by decide) rfl ?_
      refine q_lvs [0, 1] rfl ?_
      exact l_div l D cy M x y G hret _ _ _ (Nat.lt_succ_self _) ⟨by omega, by omega, by omega, by omega, by simp only [Int.gcd_neg, Int.neg_gcd]⟩
