/-! what the leaf methods answer -/
abbrev isRd (a b c : Int) : Prop := -a < b ∧ b ≤ a ∧ a ≤ c ∧ (a = c → 0 ≤ b)
abbrev r63 (z : Int) : Prop := -9223372036854775807 ≤ z ∧ z < 9223372036854775808
def quo (p q : Int) : Int := if q = 0 then 0 else p.tdiv q
def rmd (p q : Int) : Int := if q = 0 then 0 else if p.tmod q < 0 then p.tmod q + q else p.tmod q
theorem tmod_abs (x y : Int) : (x.tmod y).natAbs ≤ x.natAbs := by
  rw [Int.natAbs_tmod]; exact Nat.mod_le _ _
theorem r64_tmod {x y : Int} (h : r64 x) : r64 (x.tmod y) := by
  have h1 := tmod_abs x y
  rcases Int.le_total 0 x with h0 | h0
  · have := Int.tmod_nonneg y h0; omega
  · have h3 : (-x).tmod y = -(x.tmod y) := Int.neg_tmod x y
    have := Int.tmod_nonneg (a := -x) y (by omega); omega
theorem r32_tmod {x y : Int} (h : r32 x) : r32 (x.tmod y) := by
  have h1 := tmod_abs x y
  rcases Int.le_total 0 x with h0 | h0
  · have := Int.tmod_nonneg y h0; omega
  · have h3 : (-x).tmod y = -(x.tmod y) := Int.neg_tmod x y
    have := Int.tmod_nonneg (a := -x) y (by omega); omega
/-- to mix, as numbers -/
def mixN (h v : Int) : Int := qxor (qxor h v * 1540483477) (qushr (qxor h v * 1540483477) 15)
theorem mixN_r (h v : Int) : r32 (mixN h v) := qxor_r _ _
set_option maxRecDepth 100000 in
set_option maxHeartbeats 4000000 in
theorem c_X4_quotient (l : Launch) (D : va_G) (cy : Nat → ClassId) (M : qM) (x y : Int) (hx : r64 x) (hy : r64 y) : qCt l D cy yX4_quotient cX4_quotient 4 (some .long) { frames := 0, cells := 0, slots := 0, locals := 0 } 0 0 [.long (qL (x)), .long (qL (y))] M (fun v M' => v = some (.long (qL (quo x y))) ∧ M' = M) := by
  refine qCt_of (lv0 := [(0, .long (qL (x))), (2, .long (qL (y)))]) (by decide) rfl (Nat.le_of_ble_eq_true rfl) ?_
  intro p e s m args below meth c G hname hret
  refine q_lload_n G 1 2 dX4_quotient_0 rfl rfl ?_
  refine q_lconst (z := 0) G dX4_quotient_1 (by decide +kernel) ?_
  refine q_lcmp_ne (tgt := 10) G dX4_quotient_2 dX4_quotient_3 (by decide) (by first | assumption | omega) (by first | assumption | omega) (fun c1 => ?_) (fun c1 => ?_)
  · refine q_lload_n G 0 0 dX4_quotient_10 rfl rfl ?_
    refine q_lload_n G 1 2 dX4_quotient_11 rfl rfl ?_
    refine q_ldiv G dX4_quotient_12 (by first | assumption | omega) (by first | assumption | omega) (by first | assumption | omega) ?_
    exact q_lret G dX4_quotient_13 hret (by omega) (by omega) (⟨by unfold quo; first | (rw [if_pos]; omega) | (rw [if_neg]; omega), rfl⟩)
  · refine q_lconst (z := 0) G dX4_quotient_6 (by decide +kernel) ?_
    refine q_goto (tgt := 13) G dX4_quotient_7 (by decide) ?_
    exact q_lret G dX4_quotient_13 hret (by omega) (by omega) (⟨by unfold quo; first | (rw [if_pos]; omega) | (rw [if_neg]; omega), rfl⟩)
set_option maxRecDepth 100000 in
set_option maxHeartbeats 4000000 in
theorem c_X4_remainder (l : Launch) (D : va_G) (cy : Nat → ClassId) (M : qM) (x y : Int) (hx : r64 x) (hy : r64 y) : qCt l D cy yX4_remainder cX4_remainder 6 (some .long) { frames := 0, cells := 0, slots := 0, locals := 0 } 0 0 [.long (qL (x)), .long (qL (y))] M (fun v M' => v = some (.long (qL (rmd x y))) ∧ M' = M) := by
  refine qCt_of (lv0 := [(0, .long (qL (x))), (2, .long (qL (y)))]) (by decide) rfl (Nat.le_of_ble_eq_true rfl) ?_
  intro p e s m args below meth c G hname hret
  refine q_lload_n G 1 2 dX4_remainder_0 rfl rfl ?_
  refine q_lconst (z := 0) G dX4_remainder_1 (by decide +kernel) ?_
  refine q_lcmp_ne (tgt := 10) G dX4_remainder_2 dX4_remainder_3 (by decide) (by first | assumption | omega | exact r64_tmod (by assumption)) (by first | assumption | omega | exact r64_tmod (by assumption)) (fun c1 => ?_) (fun c1 => ?_)
  · refine q_lload_n G 0 0 dX4_remainder_10 rfl rfl ?_
    refine q_lload_n G 1 2 dX4_remainder_11 rfl rfl ?_
    refine q_lrem G dX4_remainder_12 (by first | assumption | omega | exact r64_tmod (by assumption)) (by first | assumption | omega | exact r64_tmod (by assumption)) (by first | assumption | omega | exact r64_tmod (by assumption)) ?_
    refine q_lstore (lv' := [(4, .long (qL ((x).tmod y))), (0, .long (qL (x))), (2, .long (qL (y)))]) G dX4_remainder_13 (by decide) rfl ?_
    refine q_lload G 0 dX4_remainder_15 rfl ?_
    refine q_lconst (z := 0) G dX4_remainder_17 (by decide +kernel) ?_
    refine q_lcmp_ge (tgt := 29) G dX4_remainder_18 dX4_remainder_19 (by decide) (by first | assumption | omega | exact r64_tmod (by assumption)) (by first | assumption | omega | exact r64_tmod (by assumption)) (fun c2 => ?_) (fun c2 => ?_)
    · refine q_lload G 0 dX4_remainder_29 rfl ?_
      exact q_lret G dX4_remainder_31 hret (by omega) (by omega) (⟨by unfold rmd; first | (exfalso; omega) | (rw [if_pos]; omega) | (rw [if_neg, if_pos] <;> omega) | (rw [if_neg, if_neg] <;> omega), rfl⟩)
    · refine q_lload G 0 dX4_remainder_22 rfl ?_
      refine q_lload_n G 2 2 dX4_remainder_24 rfl rfl ?_
      refine q_ladd G dX4_remainder_25 ?_
      refine q_goto (tgt := 31) G dX4_remainder_26 (by decide) ?_
      exact q_lret G dX4_remainder_31 hret (by omega) (by omega) (⟨by unfold rmd; first | (exfalso; omega) | (rw [if_pos]; omega) | (rw [if_neg, if_pos] <;> omega) | (rw [if_neg, if_neg] <;> omega), rfl⟩)
  · refine q_lconst (z := 0) G dX4_remainder_6 (by decide +kernel) ?_
    refine q_goto (tgt := 13) G dX4_remainder_7 (by decide) ?_
    refine q_lstore (lv' := [(4, .long (qL (0))), (0, .long (qL (x))), (2, .long (qL (y)))]) G dX4_remainder_13 (by decide) rfl ?_
    refine q_lload G 0 dX4_remainder_15 rfl ?_
    refine q_lconst (z := 0) G dX4_remainder_17 (by decide +kernel) ?_
    refine q_lcmp_ge (tgt := 29) G dX4_remainder_18 dX4_remainder_19 (by decide) (by first | assumption | omega | exact r64_tmod (by assumption)) (by first | assumption | omega | exact r64_tmod (by assumption)) (fun c3 => ?_) (fun c3 => ?_)
    · refine q_lload G 0 dX4_remainder_29 rfl ?_
      exact q_lret G dX4_remainder_31 hret (by omega) (by omega) (⟨by unfold rmd; first | (exfalso; omega) | (rw [if_pos]; omega) | (rw [if_neg, if_pos] <;> omega) | (rw [if_neg, if_neg] <;> omega), rfl⟩)
    · refine q_lload G 0 dX4_remainder_22 rfl ?_
      refine q_lload_n G 2 2 dX4_remainder_24 rfl rfl ?_
      refine q_ladd G dX4_remainder_25 ?_
      refine q_goto (tgt := 31) G dX4_remainder_26 (by decide) ?_
      exact q_lret G dX4_remainder_31 hret (by omega) (by omega) (⟨by unfold rmd; first | (exfalso; omega) | (rw [if_pos]; omega) | (rw [if_neg, if_pos] <;> omega) | (rw [if_neg, if_neg] <;> omega), rfl⟩)
set_option maxRecDepth 100000 in
set_option maxHeartbeats 4000000 in
theorem c_X4_mixed (l : Launch) (D : va_G) (cy : Nat → ClassId) (M : qM) (x y : Int) : qCt l D cy yX4_mixed cX4_mixed 3 (some .int) { frames := 0, cells := 0, slots := 0, locals := 0 } 0 0 [.int (qI (x)), .int (qI (y))] M (fun v M' => v = some (.int (qI (mixN x y))) ∧ M' = M) := by
  refine qCt_of (lv0 := [(0, .int (qI (x))), (1, .int (qI (y)))]) (by decide) rfl (Nat.le_of_ble_eq_true rfl) ?_
  intro p e s m args below meth c G hname hret
  refine q_iload_n G 0 0 dX4_mixed_0 rfl rfl ?_
  refine q_iload_n G 1 1 dX4_mixed_1 rfl rfl ?_
  refine q_ixor G dX4_mixed_2 ?_
  refine q_ldc (z := 1540483477) G dX4_mixed_3 tw_329 (by decide +kernel) ?_
  refine q_imul G dX4_mixed_5 ?_
  refine q_istore_n (lv' := [(2, .int (qI ((qxor x y) * 1540483477))), (0, .int (qI (x))), (1, .int (qI (y)))]) G 2 dX4_mixed_6 rfl (by decide) rfl ?_
  refine q_iload_n G 0 2 dX4_mixed_7 rfl rfl ?_
  refine q_iload_n G 0 2 dX4_mixed_8 rfl rfl ?_
  refine q_bipush G dX4_mixed_9 (by decide +kernel) ?_
  refine q_iushr G dX4_mixed_11 ?_
  refine q_ixor G dX4_mixed_12 ?_
  exact q_iret G dX4_mixed_13 hret (by omega) (by omega) (⟨rfl, rfl⟩)
set_option maxRecDepth 100000 in
set_option maxHeartbeats 4000000 in
theorem c_X1_isReduced (l : Launch) (D : va_G) (cy : Nat → ClassId) (M : qM) (h : Nat) (hO : qO M h 1) (ha : r63 (mL M h 0)) (hb : r63 (mL M h 1)) (hc : r63 (mL M h 2)) : qCt l D cy yX1_isReduced cX1_isReduced 1 (some .boolean) { frames := 0, cells := 0, slots := 0, locals := 0 } 0 0 [.ref h] M (fun v M' => v = some (.int (qI (if isRd (mL M h 0) (mL M h 1) (mL M h 2) then 1 else 0))) ∧ M' = M) := by
  refine qCt_of (lv0 := [(0, .ref h)]) (by decide) rfl (Nat.le_of_ble_eq_true rfl) ?_
  intro p e s m args below meth c G hname hret
  refine q_aload_n G 0 0 dX1_isReduced_0 rfl rfl ?_
  refine q_gt (v := .long (qL (mL M h 0))) G dX1_isReduced_1 fl_X1_7 hO (by decide) rfl rfl ?_
  refine q_lneg G dX1_isReduced_4 ?_
  refine q_aload_n G 0 0 dX1_isReduced_5 rfl rfl ?_
  refine q_gt (v := .long (qL (mL M h 1))) G dX1_isReduced_6 fl_X1_13 hO (by decide) rfl rfl ?_
  refine q_lcmp_ge (tgt := 62) G dX1_isReduced_9 dX1_isReduced_10 (by decide) (by first | assumption | omega) (by first | assumption | omega) (fun c1 => ?_) (fun c1 => ?_)
  · refine q_iconst G dX1_isReduced_62 ?_
    exact q_zret G dX1_isReduced_63 hret (by decide +kernel) (by omega) (by omega) (⟨by first | (rw [if_pos]; omega) | (rw [if_neg]; omega), rfl⟩)
  · refine q_aload_n G 0 0 dX1_isReduced_13 rfl rfl ?_
    refine q_gt (v := .long (qL (mL M h 1))) G dX1_isReduced_14 fl_X1_13 hO (by decide) rfl rfl ?_
    refine q_aload_n G 0 0 dX1_isReduced_17 rfl rfl ?_
    refine q_gt (v := .long (qL (mL M h 0))) G dX1_isReduced_18 fl_X1_7 hO (by decide) rfl rfl ?_
    refine q_lcmp_gt (tgt := 62) G dX1_isReduced_21 dX1_isReduced_22 (by decide) (by first | assumption | omega) (by first | assumption | omega) (fun c2 => ?_) (fun c2 => ?_)
    · refine q_iconst G dX1_isReduced_62 ?_
      exact q_zret G dX1_isReduced_63 hret (by decide +kernel) (by omega) (by omega) (⟨by first | (rw [if_pos]; omega) | (rw [if_neg]; omega), rfl⟩)
    · refine q_aload_n G 0 0 dX1_isReduced_25 rfl rfl ?_
      refine q_gt (v := .long (qL (mL M h 0))) G dX1_isReduced_26 fl_X1_7 hO (by decide) rfl rfl ?_
      refine q_aload_n G 0 0 dX1_isReduced_29 rfl rfl ?_
      refine q_gt (v := .long (qL (mL M h 2))) G dX1_isReduced_30 fl_X1_16 hO (by decide) rfl rfl ?_
      refine q_lcmp_gt (tgt := 62) G dX1_isReduced_33 dX1_isReduced_34 (by decide) (by first | assumption | omega) (by first | assumption | omega) (fun c3 => ?_) (fun c3 => ?_)
      · refine q_iconst G dX1_isReduced_62 ?_
        exact q_zret G dX1_isReduced_63 hret (by decide +kernel) (by omega) (by omega) (⟨by first | (rw [if_pos]; omega) | (rw [if_neg]; omega), rfl⟩)
      · refine q_aload_n G 0 0 dX1_isReduced_37 rfl rfl ?_
        refine q_gt (v := .long (qL (mL M h 0))) G dX1_isReduced_38 fl_X1_7 hO (by decide) rfl rfl ?_
        refine q_aload_n G 0 0 dX1_isReduced_41 rfl rfl ?_
        refine q_gt (v := .long (qL (mL M h 2))) G dX1_isReduced_42 fl_X1_16 hO (by decide) rfl rfl ?_
        refine q_lcmp_ne (tgt := 58) G dX1_isReduced_45 dX1_isReduced_46 (by decide) (by first | assumption | omega) (by first | assumption | omega) (fun c4 => ?_) (fun c4 => ?_)
        · refine q_iconst G dX1_isReduced_58 ?_
          refine q_goto (tgt := 63) G dX1_isReduced_59 (by decide) ?_
          exact q_zret G dX1_isReduced_63 hret (by decide +kernel) (by omega) (by omega) (⟨by first | (rw [if_pos]; omega) | (rw [if_neg]; omega), rfl⟩)
        · refine q_aload_n G 0 0 dX1_isReduced_49 rfl rfl ?_
          refine q_gt (v := .long (qL (mL M h 1))) G dX1_isReduced_50 fl_X1_13 hO (by decide) rfl rfl ?_
          refine q_lconst (z := 0) G dX1_isReduced_53 (by decide +kernel) ?_
          refine q_lcmp_lt (tgt := 62) G dX1_isReduced_54 dX1_isReduced_55 (by decide) (by first | assumption | omega) (by first | assumption | omega) (fun c5 => ?_) (fun c5 => ?_)
          · refine q_iconst G dX1_isReduced_62 ?_
            exact q_zret G dX1_isReduced_63 hret (by decide +kernel) (by omega) (by omega) (⟨by first | (rw [if_pos]; omega) | (rw [if_neg]; omega), rfl⟩)
          · refine q_iconst G dX1_isReduced_58 ?_
            refine q_goto (tgt := 63) G dX1_isReduced_59 (by decide) ?_
            exact q_zret G dX1_isReduced_63 hret (by decide +kernel) (by omega) (by omega) (⟨by first | (rw [if_pos]; omega) | (rw [if_neg]; omega), rfl⟩)
set_option maxRecDepth 100000 in
set_option maxHeartbeats 4000000 in
theorem c_X1_isSame (l : Launch) (D : va_G) (cy : Nat → ClassId) (M : qM) (h g : Nat) (hO : qO M h 1) (hG : qO M g 1) (h0 : r64 (mL M h 0)) (h1 : r64 (mL M h 1)) (h2 : r64 (mL M h 2)) (g0 : r64 (mL M g 0)) (g1 : r64 (mL M g 1)) (g2 : r64 (mL M g 2)) : qCt l D cy yX1_isSame cX1_isSame 2 (some .boolean) { frames := 0, cells := 0, slots := 0, locals := 0 } 0 0 [.ref h, .ref g] M (fun v M' => v = some (.int (qI (if mL M h 0 = mL M g 0 ∧ mL M h 1 = mL M g 1 ∧ mL M h 2 = mL M g 2 then 1 else 0))) ∧ M' = M) := by
  refine qCt_of (lv0 := [(0, .ref h), (1, .ref g)]) (by decide) rfl (Nat.le_of_ble_eq_true rfl) ?_
  intro p e s m args below meth c G hname hret
  refine q_aload_n G 0 0 dX1_isSame_0 rfl rfl ?_
  refine q_gt (v := .long (qL (mL M h 0))) G dX1_isSame_1 fl_X1_7 hO (by decide) rfl rfl ?_
  refine q_aload_n G 1 1 dX1_isSame_4 rfl rfl ?_
  refine q_gt (v := .long (qL (mL M g 0))) G dX1_isSame_5 fl_X1_7 hG (by decide) rfl rfl ?_
  refine q_lcmp_ne (tgt := 40) G dX1_isSame_8 dX1_isSame_9 (by decide) (by first | assumption | omega) (by first | assumption | omega) (fun c1 => ?_) (fun c1 => ?_)
  · refine q_iconst G dX1_isSame_40 ?_
    exact q_zret G dX1_isSame_41 hret (by decide +kernel) (by omega) (by omega) (⟨by first | (rw [if_pos]; omega) | (rw [if_neg]; omega), rfl⟩)
  · refine q_aload_n G 0 0 dX1_isSame_12 rfl rfl ?_
    refine q_gt (v := .long (qL (mL M h 1))) G dX1_isSame_13 fl_X1_13 hO (by decide) rfl rfl ?_
    refine q_aload_n G 1 1 dX1_isSame_16 rfl rfl ?_
    refine q_gt (v := .long (qL (mL M g 1))) G dX1_isSame_17 fl_X1_13 hG (by decide) rfl rfl ?_
    refine q_lcmp_ne (tgt := 40) G dX1_isSame_20 dX1_isSame_21 (by decide) (by first | assumption | omega) (by first | assumption | omega) (fun c2 => ?_) (fun c2 => ?_)
    · refine q_iconst G dX1_isSame_40 ?_
      exact q_zret G dX1_isSame_41 hret (by decide +kernel) (by omega) (by omega) (⟨by first | (rw [if_pos]; omega) | (rw [if_neg]; omega), rfl⟩)
    · refine q_aload_n G 0 0 dX1_isSame_24 rfl rfl ?_
      refine q_gt (v := .long (qL (mL M h 2))) G dX1_isSame_25 fl_X1_16 hO (by decide) rfl rfl ?_
      refine q_aload_n G 1 1 dX1_isSame_28 rfl rfl ?_
      refine q_gt (v := .long (qL (mL M g 2))) G dX1_isSame_29 fl_X1_16 hG (by decide) rfl rfl ?_
      refine q_lcmp_ne (tgt := 40) G dX1_isSame_32 dX1_isSame_33 (by decide) (by first | assumption | omega) (by first | assumption | omega) (fun c3 => ?_) (fun c3 => ?_)
      · refine q_iconst G dX1_isSame_40 ?_
        exact q_zret G dX1_isSame_41 hret (by decide +kernel) (by omega) (by omega) (⟨by first | (rw [if_pos]; omega) | (rw [if_neg]; omega), rfl⟩)
      · refine q_iconst G dX1_isSame_36 ?_
        refine q_goto (tgt := 41) G dX1_isSame_37 (by decide) ?_
        exact q_zret G dX1_isSame_41 hret (by decide +kernel) (by omega) (by omega) (⟨by first | (rw [if_pos]; omega) | (rw [if_neg]; omega), rfl⟩)
set_option maxRecDepth 100000 in
set_option maxHeartbeats 4000000 in
theorem c_X1_part (l : Launch) (D : va_G) (cy : Nat → ClassId) (M : qM) (h : Nat) (k : Int) (hO : qO M h 1) (hk : r32 k) : qCt l D cy yX1_part cX1_part 2 (some .long) { frames := 0, cells := 0, slots := 0, locals := 0 } 0 0 [.ref h, .int (qI (k))] M (fun v M' => v = some (.long (qL (if k = 0 then mL M h 0 else if k = 1 then mL M h 1 else mL M h 2))) ∧ M' = M) := by
  refine qCt_of (lv0 := [(0, .ref h), (1, .int (qI (k)))]) (by decide) rfl (Nat.le_of_ble_eq_true rfl) ?_
  intro p e s m args below meth c G hname hret
  refine q_iload_n G 1 1 dX1_part_0 rfl rfl ?_
  refine q_if_ne (tgt := 9) G dX1_part_1 (by decide) (by first | assumption | omega) (fun c1 => ?_) (fun c1 => ?_)
  · refine q_iload_n G 1 1 dX1_part_9 rfl rfl ?_
    refine q_iconst G dX1_part_10 ?_
    refine q_icmp_ne (tgt := 21) G dX1_part_11 (by decide) (by first | assumption | omega) (by first | assumption | omega) (fun c2 => ?_) (fun c2 => ?_)
    · refine q_aload_n G 0 0 dX1_part_21 rfl rfl ?_
      refine q_gt (v := .long (qL (mL M h 2))) G dX1_part_22 fl_X1_16 hO (by decide) rfl rfl ?_
      exact q_lret G dX1_part_25 hret (by omega) (by omega) (⟨by first | (rw [if_pos]; omega) | (rw [if_neg, if_pos] <;> omega) | (rw [if_neg, if_neg] <;> omega), rfl⟩)
    · refine q_aload_n G 0 0 dX1_part_14 rfl rfl ?_
      refine q_gt (v := .long (qL (mL M h 1))) G dX1_part_15 fl_X1_13 hO (by decide) rfl rfl ?_
      refine q_goto (tgt := 25) G dX1_part_18 (by decide) ?_
      exact q_lret G dX1_part_25 hret (by omega) (by omega) (⟨by first | (rw [if_pos]; omega) | (rw [if_neg, if_pos] <;> omega) | (rw [if_neg, if_neg] <;> omega), rfl⟩)
  · refine q_aload_n G 0 0 dX1_part_4 rfl rfl ?_
    refine q_gt (v := .long (qL (mL M h 0))) G dX1_part_5 fl_X1_7 hO (by decide) rfl rfl ?_
    exact q_lret G dX1_part_8 hret (by omega) (by omega) (⟨by first | (rw [if_pos]; omega) | (rw [if_neg, if_pos] <;> omega) | (rw [if_neg, if_neg] <;> omega), rfl⟩)
/-- a form's three numbers put -/
def stF (L : Nat → Nat → Int) (a : Nat) (x y z : Int) : Nat → Nat → Int := up2 (up2 (up2 L a 0 x) a 1 y) a 2 z
theorem stF_0 (L : Nat → Nat → Int) (a : Nat) (x y z : Int) : stF L a x y z a 0 = x := by simp [stF, up2]
theorem stF_1 (L : Nat → Nat → Int) (a : Nat) (x y z : Int) : stF L a x y z a 1 = y := by simp [stF, up2]
theorem stF_2 (L : Nat → Nat → Int) (a : Nat) (x y z : Int) : stF L a x y z a 2 = z := by simp [stF, up2]
theorem stF_n (L : Nat → Nat → Int) {a b : Nat} (x y z : Int) (h : b ≠ a) (k : Nat) : stF L a x y z b k = L b k := by simp [stF, up2, h]
theorem stF_k (L : Nat → Nat → Int) {a : Nat} (x y z : Int) (b : Nat) {k : Nat} (h : 3 ≤ k) : stF L a x y z b k = L b k := by
  have h0 : k ≠ 0 := by omega
  have h1 : k ≠ 1 := by omega
  have h2 : k ≠ 2 := by omega
  simp [stF, up2, h0, h1, h2]
theorem stF_stF (L : Nat → Nat → Int) (a : Nat) (x y z x' y' z' : Int) : stF (stF L a x y z) a x' y' z' = stF L a x' y' z' := by
  funext b k
  simp only [stF, up2]
  repeat' split
  all_goals first | rfl | omega
theorem stF_self (L : Nat → Nat → Int) (a : Nat) : stF L a (L a 0) (L a 1) (L a 2) = L := by
  funext b k
  simp only [stF, up2]
  split
  · next h => rw [h.1, h.2]
  · split
    · next h => rw [h.1, h.2]
    · split
      · next h => rw [h.1, h.2]
      · rfl
theorem up2_up2 {α : Type} (f : Nat → Nat → α) (a k : Nat) (v w : α) : up2 (up2 f a k v) a k w = up2 f a k w := by
  funext b j
  simp only [up2]
  split <;> rfl
set_option maxRecDepth 100000 in
set_option maxHeartbeats 4000000 in
theorem c_X1_become (l : Launch) (D : va_G) (cy : Nat → ClassId) (M : qM) (h g : Nat) (hO : qO M h 1) (hG : qO M g 1) : qCt l D cy yX1_become cX1_become 2 none { frames := 0, cells := 0, slots := 0, locals := 0 } 0 0 [.ref h, .ref g] M (fun v M' => v = none ∧ M' = wL M (stF (mL M) h (mL M g 0) (mL M g 1) (mL M g 2))) := by
  refine qCt_of (lv0 := [(0, .ref h), (1, .ref g)]) (by decide) rfl (Nat.le_of_ble_eq_true rfl) ?_
  intro p e s m args below meth c G hname hret
  refine q_aload_n G 0 0 dX1_become_0 rfl rfl ?_
  refine q_aload_n G 1 1 dX1_become_1 rfl rfl ?_
  refine q_gt (v := .long (qL (mL M g 0))) G dX1_become_2 fl_X1_7 hG (by decide) rfl rfl ?_
  refine q_pL (z := mL M g 0) G dX1_become_5 (pl_X1_7 _) nf_1_0 hO (by decide) (Nat.le_of_ble_eq_true rfl) (fs_1_0 _ _ _) ?_
  refine q_aload_n G 0 0 dX1_become_8 rfl rfl ?_
  refine q_aload_n G 1 1 dX1_become_9 rfl rfl ?_
  refine q_gt (v := .long (qL (mL M g 1))) G dX1_become_10 fl_X1_13 hG (by decide) rfl (by simp [mI, mL, mR, sL, sI, sR, up2]) ?_
  refine q_pL (z := mL M g 1) G dX1_become_13 (pl_X1_13 _) nf_1_1 hO (by decide) (Nat.le_of_ble_eq_true rfl) (fs_1_1 _ _ _) ?_
  refine q_aload_n G 0 0 dX1_become_16 rfl rfl ?_
  refine q_aload_n G 1 1 dX1_become_17 rfl rfl ?_
  refine q_gt (v := .long (qL (mL M g 2))) G dX1_become_18 fl_X1_16 hG (by decide) rfl (by simp [mI, mL, mR, sL, sI, sR, up2]) ?_
  refine q_pL (z := mL M g 2) G dX1_become_21 (pl_X1_16 _) nf_1_2 hO (by decide) (Nat.le_of_ble_eq_true rfl) (fs_1_2 _ _ _) ?_
  exact q_vret G dX1_become_24 hret (by omega) (by omega) (⟨rfl, rfl⟩)
set_option maxRecDepth 100000 in
set_option maxHeartbeats 4000000 in
theorem c_X1_swapEnds (l : Launch) (D : va_G) (cy : Nat → ClassId) (M : qM) (h : Nat) (hO : qO M h 1) : qCt l D cy yX1_swapEnds cX1_swapEnds 3 none { frames := 0, cells := 0, slots := 0, locals := 0 } 0 0 [.ref h] M (fun v M' => v = none ∧ M' = wL M (stF (mL M) h (mL M h 2) (-mL M h 1) (mL M h 0))) := by
  refine qCt_of (lv0 := [(0, .ref h)]) (by decide) rfl (Nat.le_of_ble_eq_true rfl) ?_
  intro p e s m args below meth c G hname hret
  refine q_aload_n G 0 0 dX1_swapEnds_0 rfl rfl ?_
  refine q_gt (v := .long (qL (mL M h 0))) G dX1_swapEnds_1 fl_X1_7 hO (by decide) rfl rfl ?_
  refine q_lstore_n (lv' := [(1, .long (qL (mL M h 0))), (0, .ref h)]) G 1 dX1_swapEnds_4 rfl (by decide) rfl ?_
  refine q_aload_n G 1 0 dX1_swapEnds_5 rfl rfl ?_
  refine q_aload_n G 1 0 dX1_swapEnds_6 rfl rfl ?_
  refine q_gt (v := .long (qL (mL M h 2))) G dX1_swapEnds_7 fl_X1_16 hO (by decide) rfl rfl ?_
  refine q_pL (z := mL M h 2) G dX1_swapEnds_10 (pl_X1_7 _) nf_1_0 hO (by decide) (Nat.le_of_ble_eq_true rfl) (fs_1_0 _ _ _) ?_
  refine q_aload_n G 1 0 dX1_swapEnds_13 rfl rfl ?_
  refine q_aload_n G 1 0 dX1_swapEnds_14 rfl rfl ?_
  refine q_gt (v := .long (qL (mL M h 1))) G dX1_swapEnds_15 fl_X1_13 hO (by decide) rfl (by simp [mI, mL, mR, sL, sI, sR, up2]) ?_
  refine q_lneg G dX1_swapEnds_18 ?_
  refine q_pL (z := -(mL M h 1)) G dX1_swapEnds_19 (pl_X1_13 _) nf_1_1 hO (by decide) (Nat.le_of_ble_eq_true rfl) (fs_1_1 _ _ _) ?_
  refine q_aload_n G 1 0 dX1_swapEnds_22 rfl rfl ?_
  refine q_lload_n G 0 1 dX1_swapEnds_23 rfl rfl ?_
  refine q_pL (z := mL M h 0) G dX1_swapEnds_24 (pl_X1_16 _) nf_1_2 hO (by decide) (Nat.le_of_ble_eq_true rfl) (fs_1_2 _ _ _) ?_
  exact q_vret G dX1_swapEnds_27 hret (by omega) (by omega) (⟨rfl, rfl⟩)
set_option maxRecDepth 100000 in
set_option maxHeartbeats 4000000 in
theorem c_X5_down (l : Launch) (D : va_G) (cy : Nat → ClassId) (M : qM) (x y : Int) (hx : r64 x) (hy : r64 y) (hne : y ≠ 0) : qCt l D cy yX5_down cX5_down 6 (some .long) { frames := 0, cells := 0, slots := 0, locals := 0 } 0 0 [.long (qL (x)), .long (qL (y))] M (fun v M' => v = some (.long (qL (if x.tmod y < 0 then x.tdiv y - 1 else x.tdiv y))) ∧ M' = M) := by
  refine qCt_of (lv0 := [(0, .long (qL (x))), (2, .long (qL (y)))]) (by decide) rfl (Nat.le_of_ble_eq_true rfl) ?_
  intro p e s m args below meth c G hname hret
  refine q_lload_n G 0 0 dX5_down_0 rfl rfl ?_
  refine q_lload_n G 1 2 dX5_down_1 rfl rfl ?_
  refine q_ldiv G dX5_down_2 (by first | assumption | omega | exact r64_tmod (by assumption)) (by first | assumption | omega | exact r64_tmod (by assumption)) (by first | assumption | omega | exact r64_tmod (by assumption)) ?_
  refine q_lstore (lv' := [(4, .long (qL ((x).tdiv y))), (0, .long (qL (x))), (2, .long (qL (y)))]) G dX5_down_3 (by decide) rfl ?_
  refine q_lload_n G 1 0 dX5_down_5 rfl rfl ?_
  refine q_lload_n G 2 2 dX5_down_6 rfl rfl ?_
  refine q_lrem G dX5_down_7 (by first | assumption | omega | exact r64_tmod (by assumption)) (by first | assumption | omega | exact r64_tmod (by assumption)) (by first | assumption | omega | exact r64_tmod (by assumption)) ?_
  refine q_lconst (z := 0) G dX5_down_8 (by decide +kernel) ?_
  refine q_lcmp_ge (tgt := 20) G dX5_down_9 dX5_down_10 (by decide) (by first | assumption | omega | exact r64_tmod (by assumption)) (by first | assumption | omega | exact r64_tmod (by assumption)) (fun c1 => ?_) (fun c1 => ?_)
  · refine q_lload G 0 dX5_down_20 rfl ?_
    exact q_lret G dX5_down_22 hret (by omega) (by omega) (⟨by first | (rw [if_pos]; omega) | (rw [if_neg]; omega), rfl⟩)
  · refine q_lload G 0 dX5_down_13 rfl ?_
    refine q_lconst (z := 1) G dX5_down_15 (by decide +kernel) ?_
    refine q_lsub G dX5_down_16 ?_
    refine q_goto (tgt := 22) G dX5_down_17 (by decide) ?_
    exact q_lret G dX5_down_22 hret (by omega) (by omega) (⟨by first | (rw [if_pos]; omega) | (rw [if_neg]; omega), rfl⟩)
set_option maxRecDepth 100000 in
set_option maxHeartbeats 4000000 in
theorem c_X5_modulo (l : Launch) (D : va_G) (cy : Nat → ClassId) (M : qM) (x y : Int) (hx : r64 x) (hy : r64 y) (hne : y ≠ 0) : qCt l D cy yX5_modulo cX5_modulo 6 (some .long) { frames := 0, cells := 0, slots := 0, locals := 0 } 0 0 [.long (qL (x)), .long (qL (y))] M (fun v M' => v = some (.long (qL (if x.tmod y < 0 then x.tmod y + y else x.tmod y))) ∧ M' = M) := by
  refine qCt_of (lv0 := [(0, .long (qL (x))), (2, .long (qL (y)))]) (by decide) rfl (Nat.le_of_ble_eq_true rfl) ?_
  intro p e s m args below meth c G hname hret
  refine q_lload_n G 0 0 dX5_modulo_0 rfl rfl ?_
  refine q_lload_n G 1 2 dX5_modulo_1 rfl rfl ?_
  refine q_lrem G dX5_modulo_2 (by first | assumption | omega | exact r64_tmod (by assumption)) (by first | assumption | omega | exact r64_tmod (by assumption)) (by first | assumption | omega | exact r64_tmod (by assumption)) ?_
  refine q_lstore (lv' := [(4, .long (qL ((x).tmod y))), (0, .long (qL (x))), (2, .long (qL (y)))]) G dX5_modulo_3 (by decide) rfl ?_
  refine q_lload G 0 dX5_modulo_5 rfl ?_
  refine q_lconst (z := 0) G dX5_modulo_7 (by decide +kernel) ?_
  refine q_lcmp_ge (tgt := 19) G dX5_modulo_8 dX5_modulo_9 (by decide) (by first | assumption | omega | exact r64_tmod (by assumption)) (by first | assumption | omega | exact r64_tmod (by assumption)) (fun c1 => ?_) (fun c1 => ?_)
  · refine q_lload G 0 dX5_modulo_19 rfl ?_
    exact q_lret G dX5_modulo_21 hret (by omega) (by omega) (⟨by first | (rw [if_pos]; omega) | (rw [if_neg]; omega), rfl⟩)
  · refine q_lload G 0 dX5_modulo_12 rfl ?_
    refine q_lload_n G 2 2 dX5_modulo_14 rfl rfl ?_
    refine q_ladd G dX5_modulo_15 ?_
    refine q_goto (tgt := 21) G dX5_modulo_16 (by decide) ?_
    exact q_lret G dX5_modulo_21 hret (by omega) (by omega) (⟨by first | (rw [if_pos]; omega) | (rw [if_neg]; omega), rfl⟩)
set_option maxRecDepth 100000 in
set_option maxHeartbeats 4000000 in
theorem c_X5_valueOf (l : Launch) (D : va_G) (cy : Nat → ClassId) (M : qM) (a b c x y : Int) : qCt l D cy yX5_valueOf cX5_valueOf 10 (some .long) { frames := 0, cells := 0, slots := 0, locals := 0 } 0 0 [.long (qL (a)), .long (qL (b)), .long (qL (c)), .long (qL (x)), .long (qL (y))] M (fun v M' => v = some (.long (qL (a * x * x + b * x * y + c * y * y))) ∧ M' = M) := by
  refine qCt_of (lv0 := [(0, .long (qL (a))), (2, .long (qL (b))), (4, .long (qL (c))), (6, .long (qL (x))), (8, .long (qL (y)))]) (by decide) rfl (Nat.le_of_ble_eq_true rfl) ?_
  intro p e s m args below meth c G hname hret
  refine q_lload_n G 0 0 dX5_valueOf_0 rfl rfl ?_
  refine q_lload G 3 dX5_valueOf_1 rfl ?_
  refine q_lmul G dX5_valueOf_3 ?_
  refine q_lload G 3 dX5_valueOf_4 rfl ?_
  refine q_lmul G dX5_valueOf_6 ?_
  refine q_lload_n G 1 2 dX5_valueOf_7 rfl rfl ?_
  refine q_lload G 3 dX5_valueOf_8 rfl ?_
  refine q_lmul G dX5_valueOf_10 ?_
  refine q_lload G 4 dX5_valueOf_11 rfl ?_
  refine q_lmul G dX5_valueOf_13 ?_
  refine q_ladd G dX5_valueOf_14 ?_
  refine q_lload G 2 dX5_valueOf_15 rfl ?_
  refine q_lload G 4 dX5_valueOf_17 rfl ?_
  refine q_lmul G dX5_valueOf_19 ?_
  refine q_lload G 4 dX5_valueOf_20 rfl ?_
  refine q_lmul G dX5_valueOf_22 ?_
  refine q_ladd G dX5_valueOf_23 ?_
  exact q_lret G dX5_valueOf_24 hret (by omega) (by omega) (⟨rfl, rfl⟩)
set_option maxRecDepth 100000 in
set_option maxHeartbeats 4000000 in
theorem c_X5_mix (l : Launch) (D : va_G) (cy : Nat → ClassId) (M : qM) (x y : Int) : qCt l D cy yX5_mix cX5_mix 3 (some .int) { frames := 0, cells := 0, slots := 0, locals := 0 } 0 0 [.int (qI (x)), .int (qI (y))] M (fun v M' => v = some (.int (qI (mixN x y))) ∧ M' = M) := by
  refine qCt_of (lv0 := [(0, .int (qI (x))), (1, .int (qI (y)))]) (by decide) rfl (Nat.le_of_ble_eq_true rfl) ?_
  intro p e s m args below meth c G hname hret
  refine q_iload_n G 0 0 dX5_mix_0 rfl rfl ?_
  refine q_iload_n G 1 1 dX5_mix_1 rfl rfl ?_
  refine q_ixor G dX5_mix_2 ?_
  refine q_ldc (z := 1540483477) G dX5_mix_3 tw_660 (by decide +kernel) ?_
  refine q_imul G dX5_mix_5 ?_
  refine q_istore_n (lv' := [(2, .int (qI ((qxor x y) * 1540483477))), (0, .int (qI (x))), (1, .int (qI (y)))]) G 2 dX5_mix_6 rfl (by decide) rfl ?_
  refine q_iload_n G 0 2 dX5_mix_7 rfl rfl ?_
  refine q_iload_n G 0 2 dX5_mix_8 rfl rfl ?_
  refine q_bipush G dX5_mix_9 (by decide +kernel) ?_
  refine q_iushr G dX5_mix_11 ?_
  refine q_ixor G dX5_mix_12 ?_
  exact q_iret G dX5_mix_13 hret (by omega) (by omega) (⟨rfl, rfl⟩)
set_option maxRecDepth 100000 in
set_option maxHeartbeats 4000000 in
theorem c_X5_isMany (l : Launch) (D : va_G) (cy : Nat → ClassId) (M : qM) (n : Int) (hn : r32 n) : qCt l D cy yX5_isMany cX5_isMany 1 (some .boolean) { frames := 0, cells := 0, slots := 0, locals := 0 } 0 0 [.int (qI (n))] M (fun v M' => v = some (.int (qI (if 0 < n ∧ n < 501 then 1 else 0))) ∧ M' = M) := by
  refine qCt_of (lv0 := [(0, .int (qI (n)))]) (by decide) rfl (Nat.le_of_ble_eq_true rfl) ?_
  intro p e s m args below meth c G hname hret
  refine q_iload_n G 0 0 dX5_isMany_0 rfl rfl ?_
  refine q_if_le (tgt := 15) G dX5_isMany_1 (by decide) (by first | assumption | omega) (fun c1 => ?_) (fun c1 => ?_)
  · refine q_iconst G dX5_isMany_15 ?_
    exact q_zret G dX5_isMany_16 hret (by decide +kernel) (by omega) (by omega) (⟨by first | (rw [if_pos]; omega) | (rw [if_neg]; omega), rfl⟩)
  · refine q_iload_n G 0 0 dX5_isMany_4 rfl rfl ?_
    refine q_sipush G dX5_isMany_5 (by decide +kernel) ?_
    refine q_icmp_ge (tgt := 15) G dX5_isMany_8 (by decide) (by first | assumption | omega) (by first | assumption | omega) (fun c2 => ?_) (fun c2 => ?_)
    · refine q_iconst G dX5_isMany_15 ?_
      exact q_zret G dX5_isMany_16 hret (by decide +kernel) (by omega) (by omega) (⟨by first | (rw [if_pos]; omega) | (rw [if_neg]; omega), rfl⟩)
    · refine q_iconst G dX5_isMany_11 ?_
      refine q_goto (tgt := 16) G dX5_isMany_12 (by decide) ?_
      exact q_zret G dX5_isMany_16 hret (by decide +kernel) (by omega) (by omega) (⟨by first | (rw [if_pos]; omega) | (rw [if_neg]; omega), rfl⟩)
set_option maxRecDepth 100000 in
set_option maxHeartbeats 4000000 in
theorem c_X5_isPlace (l : Launch) (D : va_G) (cy : Nat → ClassId) (M : qM) (n : Int) (hn : r32 n) : qCt l D cy yX5_isPlace cX5_isPlace 1 (some .boolean) { frames := 0, cells := 0, slots := 0, locals := 0 } 0 0 [.int (qI (n))] M (fun v M' => v = some (.int (qI (if 0 ≤ n ∧ n < 3 then 1 else 0))) ∧ M' = M) := by
  refine qCt_of (lv0 := [(0, .int (qI (n)))]) (by decide) rfl (Nat.le_of_ble_eq_true rfl) ?_
  intro p e s m args below meth c G hname hret
  refine q_iload_n G 0 0 dX5_isPlace_0 rfl rfl ?_
  refine q_if_lt (tgt := 13) G dX5_isPlace_1 (by decide) (by first | assumption | omega) (fun c1 => ?_) (fun c1 => ?_)
  · refine q_iconst G dX5_isPlace_13 ?_
    exact q_zret G dX5_isPlace_14 hret (by decide +kernel) (by omega) (by omega) (⟨by first | (rw [if_pos]; omega) | (rw [if_neg]; omega), rfl⟩)
  · refine q_iload_n G 0 0 dX5_isPlace_4 rfl rfl ?_
    refine q_iconst G dX5_isPlace_5 ?_
    refine q_icmp_ge (tgt := 13) G dX5_isPlace_6 (by decide) (by first | assumption | omega) (by first | assumption | omega) (fun c2 => ?_) (fun c2 => ?_)
    · refine q_iconst G dX5_isPlace_13 ?_
      exact q_zret G dX5_isPlace_14 hret (by decide +kernel) (by omega) (by omega) (⟨by first | (rw [if_pos]; omega) | (rw [if_neg]; omega), rfl⟩)
    · refine q_iconst G dX5_isPlace_9 ?_
      refine q_goto (tgt := 14) G dX5_isPlace_10 (by decide) ?_
      exact q_zret G dX5_isPlace_14 hret (by decide +kernel) (by omega) (by omega) (⟨by first | (rw [if_pos]; omega) | (rw [if_neg]; omega), rfl⟩)
