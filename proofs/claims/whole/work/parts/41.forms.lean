theorem stF_012 (L : Nat → Nat → Int) (a : Nat) (x y z : Int) : up2 (up2 (up2 L a 0 x) a 1 y) a 2 z = stF L a x y z := rfl
theorem stF_1' (L : Nat → Nat → Int) (a : Nat) (y : Int) : up2 L a 1 y = stF L a (L a 0) y (L a 2) := by
  have h1 : up2 L a 1 y = up2 (stF L a (L a 0) (L a 1) (L a 2)) a 1 y := by rw [stF_self]
  rw [h1, stF_u1]
set_option maxRecDepth 100000 in
set_option maxHeartbeats 4000000 in
theorem c_X2_complete (l : Launch) (D : va_G) (cy : Nat → ClassId) (M : qM) (f h : Nat) (hF : qO M f 2) (hO : qO M h 1) (a b : Int) (r1 : r64 (b * b + mI M f 0)) (r2 : r64 (4 * a)) (r3 : r32 (mI M f 0)) : qCt l D cy yX2_complete cX2_complete 6 none { frames := 1, cells := 0, slots := 0, locals := 23 } 0 0 [.ref f, .ref h, .long (qL (a)), .long (qL (b))] M (fun v M' => v = none ∧ M' = wL M (stF (mL M) h a b (quo (b * b + mI M f 0) (4 * a)))) := by
  refine qCt_of (lv0 := [(0, .ref f), (1, .ref h), (2, .long (qL (a))), (4, .long (qL (b)))]) (by decide) rfl (Nat.le_of_ble_eq_true rfl) ?_
  intro p e s m args below meth c G hname hret
  refine q_aload_n G 1 1 dX2_complete_0 rfl rfl ?_
  refine q_lload_n G 2 2 dX2_complete_1 rfl rfl ?_
  refine q_pL (z := a) G dX2_complete_2 (pl_X2_60 _) nf_1_0 hO (by decide) (Nat.le_of_ble_eq_true rfl) (fs_1_0 _ _ _) ?_
  refine q_aload_n G 1 1 dX2_complete_5 rfl rfl ?_
  refine q_lload G 3 dX2_complete_6 rfl ?_
  refine q_pL (z := b) G dX2_complete_8 (pl_X2_64 _) nf_1_1 hO (by decide) (Nat.le_of_ble_eq_true rfl) (fs_1_1 _ _ _) ?_
  refine q_aload_n G 1 1 dX2_complete_11 rfl rfl ?_
  refine q_lload G 3 dX2_complete_12 rfl ?_
  refine q_lload G 3 dX2_complete_14 rfl ?_
  refine q_lmul G dX2_complete_16 ?_
  refine q_aload_n G 0 0 dX2_complete_17 rfl rfl ?_
  refine q_gt (v := .int (qI (mI M f 0))) G dX2_complete_18 fl_X2_9 hF (by decide) rfl rfl ?_
  refine q_i2l G dX2_complete_21 (by first | assumption | omega) ?_
  refine q_ladd G dX2_complete_22 ?_
  refine q_ldc2 (z := 4) G dX2_complete_23 tw_280 (by decide +kernel) ?_
  refine q_lload_n G 2 2 dX2_complete_26 rfl rfl ?_
  refine q_lmul G dX2_complete_27 ?_
  refine q_callSN (As := [.long (qL ((b * b) + (mI M f 0))), .long (qL (4 * a))]) (rest := [.ref h]) G dX2_complete_28 cw_X2_69 (c_X4_quotient l D cy _ _ _ (by first | assumption | omega) (by first | assumption | omega)) rfl rfl (Nat.le_of_ble_eq_true rfl) rfl rfl ⟨Nat.le_of_ble_eq_true rfl, Nat.le_of_ble_eq_true rfl⟩ ⟨by decide, by decide⟩ (fun v9 M9 hq9 => ?_)
  obtain ⟨rfl, e9⟩ := hq9
  refine q_mem e9 ?_
  refine q_st (st2 := [.long (qL (quo ((b * b) + (mI M f 0)) (4 * a))), .ref h]) rfl ?_
  refine q_pL (z := quo ((b * b) + (mI M f 0)) (4 * a)) G dX2_complete_31 (pl_X2_73 _) nf_1_2 hO (by decide) (Nat.le_of_ble_eq_true rfl) (fs_1_2 _ _ _) ?_
  exact q_vret G dX2_complete_34 hret (by omega) (by omega) (⟨rfl, rfl⟩)
set_option maxRecDepth 100000 in
set_option maxHeartbeats 4000000 in
theorem c_X2_bringBNearZero (l : Launch) (D : va_G) (cy : Nat → ClassId) (M : qM) (f h : Nat) (hF : qO M f 2) (hO : qO M h 1) (q1 : r64 (mL M h 0 - mL M h 1)) (q2 : r64 (2 * mL M h 0)) (q3 : r64 ((mL M h 0 - rmd (mL M h 0 - mL M h 1) (2 * mL M h 0)) * (mL M h 0 - rmd (mL M h 0 - mL M h 1) (2 * mL M h 0)) + mI M f 0)) (q4 : r64 (4 * mL M h 0)) (q5 : r32 (mI M f 0)) : qCt l D cy yX2_bringBNearZero cX2_bringBNearZero 2 none { frames := 1, cells := 0, slots := 0, locals := 25 } 0 0 [.ref f, .ref h] M (fun v M' => v = none ∧ M' = wL M (stF (mL M) h (mL M h 0) (mL M h 0 - rmd (mL M h 0 - mL M h 1) (2 * mL M h 0)) (quo ((mL M h 0 - rmd (mL M h 0 - mL M h 1) (2 * mL M h 0)) * (mL M h 0 - rmd (mL M h 0 - mL M h 1) (2 * mL M h 0)) + mI M f 0) (4 * mL M h 0)))) := by
  refine qCt_of (lv0 := [(0, .ref f), (1, .ref h)]) (by decide) rfl (Nat.le_of_ble_eq_true rfl) ?_
  intro p e s m args below meth c G hname hret
  refine q_aload_n G 1 1 dX2_bringBNearZero_0 rfl rfl ?_
  refine q_aload_n G 1 1 dX2_bringBNearZero_1 rfl rfl ?_
  refine q_gt (v := .long (qL (mL M h 0))) G dX2_bringBNearZero_2 fl_X2_60 hO (by decide) rfl rfl ?_
  refine q_aload_n G 1 1 dX2_bringBNearZero_5 rfl rfl ?_
  refine q_gt (v := .long (qL (mL M h 0))) G dX2_bringBNearZero_6 fl_X2_60 hO (by decide) rfl rfl ?_
  refine q_aload_n G 1 1 dX2_bringBNearZero_9 rfl rfl ?_
  refine q_gt (v := .long (qL (mL M h 1))) G dX2_bringBNearZero_10 fl_X2_64 hO (by decide) rfl rfl ?_
  refine q_lsub G dX2_bringBNearZero_13 ?_
  refine q_ldc2 (z := 2) G dX2_bringBNearZero_14 tw_284 (by decide +kernel) ?_
  refine q_aload_n G 1 1 dX2_bringBNearZero_17 rfl rfl ?_
  refine q_gt (v := .long (qL (mL M h 0))) G dX2_bringBNearZero_18 fl_X2_60 hO (by decide) rfl rfl ?_
  refine q_lmul G dX2_bringBNearZero_21 ?_
  refine q_callSN (As := [.long (qL ((mL M h 0) - (mL M h 1))), .long (qL (2 * (mL M h 0)))]) (rest := [.long (qL (mL M h 0)), .ref h]) G dX2_bringBNearZero_22 cw_X2_76 (c_X4_remainder l D cy _ _ _ (by first | assumption | omega) (by first | assumption | omega)) rfl rfl (Nat.le_of_ble_eq_true rfl) rfl rfl ⟨Nat.le_of_ble_eq_true rfl, Nat.le_of_ble_eq_true rfl⟩ ⟨by decide, by decide⟩ (fun v9 M9 hq9 => ?_)
  obtain ⟨rfl, e9⟩ := hq9
  refine q_mem e9 ?_
  refine q_st (st2 := [.long (qL (rmd ((mL M h 0) - (mL M h 1)) (2 * (mL M h 0)))), .long (qL (mL M h 0)), .ref h]) rfl ?_
  refine q_lsub G dX2_bringBNearZero_25 ?_
  refine q_pL (z := (mL M h 0) - (rmd ((mL M h 0) - (mL M h 1)) (2 * (mL M h 0)))) G dX2_bringBNearZero_26 (pl_X2_64 _) nf_1_1 hO (by decide) (Nat.le_of_ble_eq_true rfl) (fs_1_1 _ _ _) ?_
  refine q_aload_n G 1 1 dX2_bringBNearZero_29 rfl rfl ?_
  refine q_aload_n G 1 1 dX2_bringBNearZero_30 rfl rfl ?_
  refine q_gt (v := .long (qL ((mL M h 0) - (rmd ((mL M h 0) - (mL M h 1)) (2 * (mL M h 0)))))) G dX2_bringBNearZero_31 fl_X2_64 hO (by decide) rfl (by simp [mI, mL, mR, sL, sI, sR, wL, wD, stF, up2]) ?_
  refine q_aload_n G 1 1 dX2_bringBNearZero_34 rfl rfl ?_
  refine q_gt (v := .long (qL ((mL M h 0) - (rmd ((mL M h 0) - (mL M h 1)) (2 * (mL M h 0)))))) G dX2_bringBNearZero_35 fl_X2_64 hO (by decide) rfl (by simp [mI, mL, mR, sL, sI, sR, wL, wD, stF, up2]) ?_
  refine q_lmul G dX2_bringBNearZero_38 ?_
  refine q_aload_n G 0 0 dX2_bringBNearZero_39 rfl rfl ?_
  refine q_gt (v := .int (qI (mI M f 0))) G dX2_bringBNearZero_40 fl_X2_9 hF (by decide) rfl rfl ?_
  refine q_i2l G dX2_bringBNearZero_43 (by first | assumption | omega) ?_
  refine q_ladd G dX2_bringBNearZero_44 ?_
  refine q_ldc2 (z := 4) G dX2_bringBNearZero_45 tw_280 (by decide +kernel) ?_
  refine q_aload_n G 1 1 dX2_bringBNearZero_48 rfl rfl ?_
  refine q_gt (v := .long (qL (mL M h 0))) G dX2_bringBNearZero_49 fl_X2_60 hO (by decide) rfl (by simp [mI, mL, mR, sL, sI, sR, wL, wD, stF, up2]) ?_
  refine q_lmul G dX2_bringBNearZero_52 ?_
  refine q_callSN (As := [.long (qL ((((mL M h 0) - (rmd ((mL M h 0) - (mL M h 1)) (2 * (mL M h 0)))) * ((mL M h 0) - (rmd ((mL M h 0) - (mL M h 1)) (2 * (mL M h 0))))) + (mI M f 0))), .long (qL (4 * (mL M h 0)))]) (rest := [.ref h]) G dX2_bringBNearZero_53 cw_X2_69 (c_X4_quotient l D cy _ _ _ (by first | assumption | omega) (by first | assumption | omega)) rfl rfl (Nat.le_of_ble_eq_true rfl) rfl rfl ⟨Nat.le_of_ble_eq_true rfl, Nat.le_of_ble_eq_true rfl⟩ ⟨by decide, by decide⟩ (fun v9 M9 hq9 => ?_)
  obtain ⟨rfl, e9⟩ := hq9
  refine q_mem e9 ?_
  refine q_st (st2 := [.long (qL (quo ((((mL M h 0) - (rmd ((mL M h 0) - (mL M h 1)) (2 * (mL M h 0)))) * ((mL M h 0) - (rmd ((mL M h 0) - (mL M h 1)) (2 * (mL M h 0))))) + (mI M f 0)) (4 * (mL M h 0)))), .ref h]) rfl ?_
  refine q_pL (z := quo ((((mL M h 0) - (rmd ((mL M h 0) - (mL M h 1)) (2 * (mL M h 0)))) * ((mL M h 0) - (rmd ((mL M h 0) - (mL M h 1)) (2 * (mL M h 0))))) + (mI M f 0)) (4 * (mL M h 0))) G dX2_bringBNearZero_56 (pl_X2_73 _) nf_1_2 hO (by decide) (Nat.le_of_ble_eq_true rfl) (fs_1_2 _ _ _) ?_
  exact q_vret G dX2_bringBNearZero_59 hret (by omega) (by omega) (⟨rfl, by simp only [sL_wL, wL_wL, mL_wL, stF_1', stF_u2]⟩)
def po_settle (M : qM) (h : Nat) : Option Value → qM → Prop := fun v M' => v = none ∧ ∃ a b c, M' = wL M (stF (mL M) h a b c) ∧ isRd a b c ∧ 0 < a ∧ fEq (mL M h 0) (mL M h 1) (mL M h 2) a b c
theorem st_rng {x nb d : Int} (hx : 0 < x) (h : x ≤ 2147483648) (h1 : -x < nb) (h2 : nb ≤ x) (hd0 : 0 < d) (hd9 : d ≤ 1000000000) : r64 (nb * nb + d) := by
  have k1 := Int.mul_nonneg (show 0 ≤ x - nb by omega) (show 0 ≤ x + nb by omega)
  have k2 := Int.mul_le_mul h h (by omega) (by omega)
  have k3 : 0 ≤ nb * nb := by rcases Int.le_total 0 nb with h | h; exact Int.mul_nonneg h h; exact Int.mul_nonneg_of_nonpos_of_nonpos h h
  have k4 : (x - nb) * (x + nb) = x * x - nb * nb := by grind
  omega
set_option maxRecDepth 100000 in
set_option maxHeartbeats 4000000 in
theorem l_settle {p : Program} {e : Env} {s : State} {m : MethodId} {args : Array Value} {below : List Frame} {meth : Method} {c : Code} (l : Launch) (D : va_G) (cy : Nat → ClassId) (M : qM) (f h : Nat) (hF : qO M f 2) (hO : qO M h 1) (hd0 : 0 < mI M f 0) (hd9 : mI M f 0 ≤ 1000000000) (G : qG p s m args meth c cX2_settle 3 yX2_settle.cls D cy (qA (mP M) s.heap.size)) (hret : meth.sig.returnType = none) : ∀ (w9 : Nat) (n fa fb fc : Int), (100000 - n).toNat < w9 → stI (mI M f 0) (mL M h 0) (mL M h 1) (mL M h 2) n fa fb fc → qK p l e { frames := 2, cells := 0, slots := 0, locals := 46 } s m args below meth c (MQ below (qQ D cy (mP M) (po_settle M h)) args s 0 0 (qA (mP M) s.heap.size)) 3 D cy (qA (mP M) s.heap.size) 0 0 2 [(2, .int (qI (n))), (1, .ref h), (0, .ref f)] [] (wL M (stF (mL M) h fa fb fc)) := by
  intro w9
  induction w9 with
  | zero => intro n fa fb fc h9; exact absurd h9 (Nat.not_lt_zero _)
  | succ w9 ih =>
    intro n fa fb fc hm hI
    obtain ⟨p1, p2, p3, p4, p5, p6, p7, p8, p9⟩ := id hI
    refine q_iload_n G 0 2 dX2_settle_2 rfl rfl ?_
    refine q_ldc (z := 100000) G dX2_settle_3 tw_289 (by decide +kernel) ?_
    refine q_icmp_ge (tgt := 42) G dX2_settle_5 (by decide) (by have := hI.2.2.2.2.2.2.2.1; omega) (by have := hI.2.2.2.2.2.2.2.1; omega) (fun c1 => ?_) (fun c1 => ?_)
    · have hrd : isRd fa fb fc := by first | (rcases hI.2.2.2.2.2.2.2.2 with h | h | h <;> first | exact h | (exfalso; omega)) | exact Decidable.byContradiction (fun h9 => c2 (by rw [if_neg h9]))
      exact q_vret G dX2_settle_42 hret (by omega) (by omega) (⟨rfl, fa, fb, fc, rfl, hrd, hI.1, hI.2.2.2.1⟩)
    · refine q_aload_n G 1 1 dX2_settle_8 rfl rfl ?_
      refine q_callV (As := []) (rest := []) G dX2_settle_9 cw_X2_91 (c_X1_isReduced l D cy _ _ hO (by show r63 (stF _ _ _ _ _ _ _); rw [stF_0]; omega) (by show r63 (stF _ _ _ _ _ _ _); rw [stF_1]; omega) (by show r63 (stF _ _ _ _ _ _ _); rw [stF_2]; omega)) hO.1 hO.2 (by decide) rfl rfl rfl (Nat.le_of_ble_eq_true rfl) rfl rfl ⟨Nat.le_of_ble_eq_true rfl, Nat.le_of_ble_eq_true rfl⟩ ⟨by decide, by decide⟩ (fun v9 M9 hq9 => ?_)
      obtain ⟨rfl, e9⟩ := hq9
      refine q_mem e9 ?_
      refine q_st (st2 := [.int (qI (if isRd (mL (wL M (stF (mL M) h fa fb fc)) h 0) (mL (wL M (stF (mL M) h fa fb fc)) h 1) (mL (wL M (stF (mL M) h fa fb fc)) h 2) then 1 else 0))]) rfl ?_
      simp only [mL_wL, stF_0, stF_1, stF_2]
      refine q_if_ne (tgt := 42) G dX2_settle_12 (by decide) (by split <;> omega) (fun c2 => ?_) (fun c2 => ?_)
      · have hrd : isRd fa fb fc := by first | (rcases hI.2.2.2.2.2.2.2.2 with h | h | h <;> first | exact h | (exfalso; omega)) | exact Decidable.byContradiction (fun h9 => c2 (by rw [if_neg h9]))
        exact q_vret G dX2_settle_42 hret (by omega) (by omega) (⟨rfl, fa, fb, fc, rfl, hrd, hI.1, hI.2.2.2.1⟩)
      · have hnr : ¬ isRd fa fb fc := fun h9 => absurd c2 (by rw [if_pos h9]; decide)
        refine q_aload_n G 1 1 dX2_settle_15 rfl rfl ?_
        refine q_gt (v := .long (qL (fa))) G dX2_settle_16 fl_X2_60 hO (by decide) rfl (by simp [mI, mL, mR, sL, sI, sR, wL, wD, stF, up2]) ?_
        refine q_aload_n G 1 1 dX2_settle_19 rfl rfl ?_
        refine q_gt (v := .long (qL (fc))) G dX2_settle_20 fl_X2_73 hO (by decide) rfl (by simp [mI, mL, mR, sL, sI, sR, wL, wD, stF, up2]) ?_
        refine q_lcmp_lt (tgt := 31) G dX2_settle_23 dX2_settle_24 (by decide) (by omega) (by omega) (fun c3 => ?_) (fun c3 => ?_)
        · have hst := st_turn (x := fa) (y := fb) (z := fc) hd0 hd9 hI hnr (Or.inr ⟨by omega, rfl, rfl, rfl⟩)
          have hrg := st_rng (nb := fa - rmd (fa - fb) (2 * fa)) (x := fa) (by omega) (by omega) (st_near (z := fc) (d := mI M f 0) (by omega) hI.2.2.1).2.1 (st_near (z := fc) (d := mI M f 0) (by omega) hI.2.2.1).2.2 hd0 hd9
          have hw : (100000 - (n + 1)).toNat < w9 ∧ True := ⟨by have := hI.2.2.2.2.2.2.2.1; omega, trivial⟩
          refine q_aload_n G 2 0 dX2_settle_31 rfl rfl ?_
          refine q_aload_n G 1 1 dX2_settle_32 rfl rfl ?_
          refine q_callV (As := [.ref h]) (rest := []) G dX2_settle_33 cw_X2_98 (c_X2_bringBNearZero l D cy (wL M (stF (mL M) h (fa) (fb) (fc))) f h hF hO (by simp only [mL_wL, stF_0, stF_1]; omega) (by simp only [mL_wL, stF_0]; omega) (by simp only [mL_wL, stF_0, stF_1]; exact hrg) (by simp only [mL_wL, stF_0]; omega) (by show r32 (mI M f 0); omega)) hF.1 hF.2 (by decide) rfl rfl rfl (Nat.le_of_ble_eq_true rfl) rfl rfl ⟨Nat.le_of_ble_eq_true rfl, Nat.le_of_ble_eq_true rfl⟩ ⟨by decide, by decide⟩ (fun v9 M9 hq9 => ?_)
          obtain ⟨rfl, e9⟩ := hq9
          refine q_mem e9 ?_
          refine q_st (st2 := []) rfl ?_
          refine q_mem (M2 := wL M (stF (mL M) h (fa) (fa - rmd (fa - fb) (2 * fa)) (quo ((fa - rmd (fa - fb) (2 * fa)) * (fa - rmd (fa - fb) (2 * fa)) + mI M f 0) (4 * fa)))) (by simp only [mL_wL, stF_0, stF_1, stF_2, wL_wL, stF_stF]; rfl) ?_
          refine q_iinc (lv' := [(2, .int (qI (n + 1))), (1, .ref h), (0, .ref f)]) G 0 dX2_settle_36 rfl (by decide) rfl ?_
          refine q_goto (tgt := 2) G dX2_settle_39 (by decide) ?_
          refine q_lvs [0, 1, 2] rfl ?_
          exact ih _ _ _ _ hw.1 hst.1
        · have hst := st_turn (x := fc) (y := -fb) (z := fa) hd0 hd9 hI hnr (Or.inl ⟨by omega, rfl, rfl, rfl⟩)
          have hrg := st_rng (nb := fc - rmd (fc - -fb) (2 * fc)) (x := fc) (by omega) (by omega) (st_near (z := fa) (d := mI M f 0) (by omega) (by have := hI.2.2.1; grind)).2.1 (st_near (z := fa) (d := mI M f 0) (by omega) (by have := hI.2.2.1; grind)).2.2 hd0 hd9
          have hw : (100000 - (n + 1)).toNat < w9 ∧ True := ⟨by have := hI.2.2.2.2.2.2.2.1; omega, trivial⟩
          refine q_aload_n G 1 1 dX2_settle_27 rfl rfl ?_
          refine q_callV (As := []) (rest := []) G dX2_settle_28 cw_X2_95 (c_X1_swapEnds l D cy _ _ hO) hO.1 hO.2 (by decide) rfl rfl rfl (Nat.le_of_ble_eq_true rfl) rfl rfl ⟨Nat.le_of_ble_eq_true rfl, Nat.le_of_ble_eq_true rfl⟩ ⟨by decide, by decide⟩ (fun v9 M9 hq9 => ?_)
          obtain ⟨rfl, e9⟩ := hq9
          refine q_mem e9 ?_
          refine q_st (st2 := []) rfl ?_
          refine q_mem (M2 := wL M (stF (mL M) h fc (-fb) fa)) (by simp only [mL_wL, stF_0, stF_1, stF_2, wL_wL, stF_stF]) ?_
          refine q_aload_n G 2 0 dX2_settle_31 rfl rfl ?_
          refine q_aload_n G 1 1 dX2_settle_32 rfl rfl ?_
          refine q_callV (As := [.ref h]) (rest := []) G dX2_settle_33 cw_X2_98 (c_X2_bringBNearZero l D cy (wL M (stF (mL M) h (fc) (-fb) (fa))) f h hF hO (by simp only [mL_wL, stF_0, stF_1]; omega) (by simp only [mL_wL, stF_0]; omega) (by simp only [mL_wL, stF_0, stF_1]; exact hrg) (by simp only [mL_wL, stF_0]; omega) (by show r32 (mI M f 0); omega)) hF.1 hF.2 (by decide) rfl rfl rfl (Nat.le_of_ble_eq_true rfl) rfl rfl ⟨Nat.le_of_ble_eq_true rfl, Nat.le_of_ble_eq_true rfl⟩ ⟨by decide, by decide⟩ (fun v9 M9 hq9 => ?_)
          obtain ⟨rfl, e9⟩ := hq9
          refine q_mem e9 ?_
          refine q_st (st2 := []) rfl ?_
          refine q_mem (M2 := wL M (stF (mL M) h (fc) (fc - rmd (fc - -fb) (2 * fc)) (quo ((fc - rmd (fc - -fb) (2 * fc)) * (fc - rmd (fc - -fb) (2 * fc)) + mI M f 0) (4 * fc)))) (by simp only [mL_wL, stF_0, stF_1, stF_2, wL_wL, stF_stF]; rfl) ?_
          refine q_iinc (lv' := [(2, .int (qI (n + 1))), (1, .ref h), (0, .ref f)]) G 0 dX2_settle_36 rfl (by decide) rfl ?_
          refine q_goto (tgt := 2) G dX2_settle_39 (by decide) ?_
          refine q_lvs [0, 1, 2] rfl ?_
          exact ih _ _ _ _ hw.1 hst.1
