def po_find (M : qM) (h : Nat) (x y : Int) : Option Value → qM → Prop := fun v M' => v = none ∧ ∃ g u w, M' = wL M (stF (mL M) h g u w) ∧ isEu x y g u w
theorem eu_r64 {p q n hi lo f fl s sl : Int} (hp : p.natAbs < 281474976710656) (hq : q.natAbs < 281474976710656) (h : euI p q n hi lo f fl s sl) : r64 hi ∧ r64 lo := by
  obtain ⟨-, -, -, -, -, -, -, h9, h10, -⟩ := h
  have k1 : hi.natAbs < 281474976710656 := Nat.lt_of_le_of_lt h9 (Nat.max_lt.mpr ⟨hp, hq⟩)
  have k2 : lo.natAbs < 281474976710656 := Nat.lt_of_le_of_lt h10 (Nat.max_lt.mpr ⟨hp, hq⟩)
  omega
set_option maxRecDepth 100000 in
set_option maxHeartbeats 4000000 in
theorem l_find {p : Program} {e : Env} {s : State} {m : MethodId} {args : Array Value} {below : List Frame} {meth : Method} {c : Code} (l : Launch) (D : va_G) (cy : Nat → ClassId) (M : qM) (h : Nat) (hO : qO M h 0) (x y : Int) (hx : x.natAbs < 281474976710656) (hy : y.natAbs < 281474976710656) (G : qG p s m args meth c cX0_find 18 yX0_find.cls D cy (qA (mP M) s.heap.size)) (hret : meth.sig.returnType = none) : ∀ (w9 : Nat) (n hi lo f fl sd sl : Int), lo.natAbs < w9 → euI x y n hi lo f fl sd sl → qK p l e { frames := 1, cells := 0, slots := 0, locals := 23 } s m args below meth c (MQ below (qQ D cy (mP M) (po_find M h x y)) args s 0 0 (qA (mP M) s.heap.size)) 18 D cy (qA (mP M) s.heap.size) 0 0 25 [(13, .int (qI (n))), (11, .long (qL (sl))), (9, .long (qL (fl))), (7, .long (qL (lo))), (5, .long (qL (hi))), (0, .ref h)] [] (wL M (stF (mL M) h (mL M h 0) f sd)) := by
  intro w9
  induction w9 with
  | zero => intro n hi lo f fl sd sl h9; exact absurd h9 (Nat.not_lt_zero _)
  | succ w9 ih =>
    intro n hi lo f fl sd sl hm hI
    have hr := eu_r64 hx hy hI
    refine q_iload G 0 dX0_find_25 rfl ?_
    refine q_ldc (z := 100000) G dX0_find_27 tw_350 (by decide +kernel) ?_
    refine q_icmp_ge (tgt := 116) G dX0_find_29 (by decide) (by have := eu_lt hI; omega) (by have := eu_lt hI; omega) (fun c1 => ?_) (fun c1 => ?_)
    · exact absurd c1 (by have := eu_lt hI; omega)
    · refine q_lload G 3 dX0_find_32 rfl ?_
      refine q_lconst (z := 0) G dX0_find_34 (by decide +kernel) ?_
      refine q_lcmp_eq (tgt := 116) G dX0_find_35 dX0_find_36 (by decide) (by omega) (by omega) (fun c2 => ?_) (fun c2 => ?_)
      · have hI0 := hI
        rw [c2] at hI0
        refine q_lload G 4 dX0_find_116 rfl ?_
        refine q_lconst (z := 0) G dX0_find_118 (by decide +kernel) ?_
        refine q_lcmp_ge (tgt := 129) G dX0_find_119 dX0_find_120 (by decide) (by omega) (by omega) (fun c3 => ?_) (fun c3 => ?_)
        · refine q_lconst (z := 1) G dX0_find_129 (by decide +kernel) ?_
          refine q_lstore (lv' := [(13, .long (qL (1))), (11, .long (qL (sl))), (9, .long (qL (fl))), (7, .long (qL (lo))), (5, .long (qL (hi))), (0, .ref h)]) G dX0_find_130 (by decide) rfl ?_
          refine q_aload_n G 5 0 dX0_find_132 rfl rfl ?_
          refine q_lload G 0 dX0_find_133 rfl ?_
          refine q_lload G 4 dX0_find_135 rfl ?_
          refine q_lmul G dX0_find_137 ?_
          refine q_pL (z := 1 * hi) G dX0_find_138 (pl_X0_25 _) nf_0_0 hO (by decide) (Nat.le_of_ble_eq_true rfl) (fs_0_0 _ _ _) ?_
          refine q_aload_n G 5 0 dX0_find_141 rfl rfl ?_
          refine q_lload G 0 dX0_find_142 rfl ?_
          refine q_aload_n G 5 0 dX0_find_144 rfl rfl ?_
          refine q_gt (v := .long (qL (f))) G dX0_find_145 fl_X0_9 hO (by decide) rfl (by simp [mI, mL, mR, sL, sI, sR, wL, wD, stF, up2]) ?_
          refine q_lmul G dX0_find_148 ?_
          refine q_pL (z := 1 * f) G dX0_find_149 (pl_X0_9 _) nf_0_1 hO (by decide) (Nat.le_of_ble_eq_true rfl) (fs_0_1 _ _ _) ?_
          refine q_aload_n G 5 0 dX0_find_152 rfl rfl ?_
          refine q_lload G 0 dX0_find_153 rfl ?_
          refine q_aload_n G 5 0 dX0_find_155 rfl rfl ?_
          refine q_gt (v := .long (qL (sd))) G dX0_find_156 fl_X0_15 hO (by decide) rfl (by simp [mI, mL, mR, sL, sI, sR, wL, wD, stF, up2]) ?_
          refine q_lmul G dX0_find_159 ?_
          refine q_pL (z := 1 * sd) G dX0_find_160 (pl_X0_15 _) nf_0_2 hO (by decide) (Nat.le_of_ble_eq_true rfl) (fs_0_2 _ _ _) ?_
          exact q_vret G dX0_find_163 hret (by omega) (by omega) (⟨rfl, _, _, _, by simp only [sL_wL, wL_wL, mL_wL, stF_u0, stF_u1, stF_u2]; rfl, eu_end hI0 (by first | rw [if_pos (by assumption)] | rw [if_neg (Int.not_lt.mpr (by assumption))])⟩)
        · refine q_ldc2 (z := -1) G dX0_find_123 tw_352 (by decide +kernel) ?_
          refine q_goto (tgt := 130) G dX0_find_126 (by decide) ?_
          refine q_lstore (lv' := [(13, .long (qL (-1))), (11, .long (qL (sl))), (9, .long (qL (fl))), (7, .long (qL (lo))), (5, .long (qL (hi))), (0, .ref h)]) G dX0_find_130 (by decide) rfl ?_
          refine q_aload_n G 5 0 dX0_find_132 rfl rfl ?_
          refine q_lload G 0 dX0_find_133 rfl ?_
          refine q_lload G 4 dX0_find_135 rfl ?_
          refine q_lmul G dX0_find_137 ?_
          refine q_pL (z := (-1) * hi) G dX0_find_138 (pl_X0_25 _) nf_0_0 hO (by decide) (Nat.le_of_ble_eq_true rfl) (fs_0_0 _ _ _) ?_
          refine q_aload_n G 5 0 dX0_find_141 rfl rfl ?_
          refine q_lload G 0 dX0_find_142 rfl ?_
          refine q_aload_n G 5 0 dX0_find_144 rfl rfl ?_
          refine q_gt (v := .long (qL (f))) G dX0_find_145 fl_X0_9 hO (by decide) rfl (by simp [mI, mL, mR, sL, sI, sR, wL, wD, stF, up2]) ?_
          refine q_lmul G dX0_find_148 ?_
          refine q_pL (z := (-1) * f) G dX0_find_149 (pl_X0_9 _) nf_0_1 hO (by decide) (Nat.le_of_ble_eq_true rfl) (fs_0_1 _ _ _) ?_
          refine q_aload_n G 5 0 dX0_find_152 rfl rfl ?_
          refine q_lload G 0 dX0_find_153 rfl ?_
          refine q_aload_n G 5 0 dX0_find_155 rfl rfl ?_
          refine q_gt (v := .long (qL (sd))) G dX0_find_156 fl_X0_15 hO (by decide) rfl (by simp [mI, mL, mR, sL, sI, sR, wL, wD, stF, up2]) ?_
          refine q_lmul G dX0_find_159 ?_
          refine q_pL (z := (-1) * sd) G dX0_find_160 (pl_X0_15 _) nf_0_2 hO (by decide) (Nat.le_of_ble_eq_true rfl) (fs_0_2 _ _ _) ?_
          exact q_vret G dX0_find_163 hret (by omega) (by omega) (⟨rfl, _, _, _, by simp only [sL_wL, wL_wL, mL_wL, stF_u0, stF_u1, stF_u2]; rfl, eu_end hI0 (by first | rw [if_pos (by assumption)] | rw [if_neg (Int.not_lt.mpr (by assumption))])⟩)
      · have hst := eu_step hx hy hI c2
        refine q_lload G 4 dX0_find_39 rfl ?_
        refine q_lload G 3 dX0_find_41 rfl ?_
        refine q_callSN (As := [.long (qL (hi)), .long (qL (lo))]) (rest := []) G dX0_find_43 cw_X0_19 (c_X4_quotient l D cy _ _ _ hr.1 hr.2) rfl rfl (Nat.le_of_ble_eq_true rfl) rfl rfl ⟨Nat.le_of_ble_eq_true rfl, Nat.le_of_ble_eq_true rfl⟩ ⟨by decide, by decide⟩ (fun v9 M9 hq9 => ?_)
        obtain ⟨rfl, e9⟩ := hq9
        refine q_mem e9 ?_
        refine q_st (st2 := [.long (qL (quo hi lo))]) rfl ?_
        refine q_lstore (lv' := [(14, .long (qL (quo hi lo))), (13, .int (qI (n))), (11, .long (qL (sl))), (9, .long (qL (fl))), (7, .long (qL (lo))), (5, .long (qL (hi))), (0, .ref h)]) G dX0_find_46 (by decide) rfl ?_
        refine q_lload G 5 dX0_find_48 rfl ?_
        refine q_lload G 0 dX0_find_50 rfl ?_
        refine q_lload G 4 dX0_find_52 rfl ?_
        refine q_lmul G dX0_find_54 ?_
        refine q_lsub G dX0_find_55 ?_
        refine q_lstore (lv' := [(16, .long (qL (hi - ((quo hi lo) * lo)))), (14, .long (qL (quo hi lo))), (13, .int (qI (n))), (11, .long (qL (sl))), (9, .long (qL (fl))), (7, .long (qL (lo))), (5, .long (qL (hi))), (0, .ref h)]) G dX0_find_56 (by decide) rfl ?_
        refine q_lload G 5 dX0_find_58 rfl ?_
        refine q_lstore (lv' := [(5, .long (qL (lo))), (16, .long (qL (hi - ((quo hi lo) * lo)))), (14, .long (qL (quo hi lo))), (13, .int (qI (n))), (11, .long (qL (sl))), (9, .long (qL (fl))), (7, .long (qL (lo))), (0, .ref h)]) G dX0_find_60 (by decide) rfl ?_
        refine q_lload G 1 dX0_find_62 rfl ?_
        refine q_lstore (lv' := [(7, .long (qL (hi - ((quo hi lo) * lo)))), (5, .long (qL (lo))), (16, .long (qL (hi - ((quo hi lo) * lo)))), (14, .long (qL (quo hi lo))), (13, .int (qI (n))), (11, .long (qL (sl))), (9, .long (qL (fl))), (0, .ref h)]) G dX0_find_64 (by decide) rfl ?_
        refine q_aload_n G 7 0 dX0_find_66 rfl rfl ?_
        refine q_gt (v := .long (qL (f))) G dX0_find_67 fl_X0_9 hO (by decide) rfl (by simp [mI, mL, mR, sL, sI, sR, wL, wD, stF, up2]) ?_
        refine q_lload G 3 dX0_find_70 rfl ?_
        refine q_lload G 6 dX0_find_72 rfl ?_
        refine q_lmul G dX0_find_74 ?_
        refine q_lsub G dX0_find_75 ?_
        refine q_lstore (lv' := [(16, .long (qL (f - ((quo hi lo) * fl)))), (7, .long (qL (hi - ((quo hi lo) * lo)))), (5, .long (qL (lo))), (14, .long (qL (quo hi lo))), (13, .int (qI (n))), (11, .long (qL (sl))), (9, .long (qL (fl))), (0, .ref h)]) G dX0_find_76 (by decide) rfl ?_
        refine q_aload_n G 7 0 dX0_find_78 rfl rfl ?_
        refine q_lload G 6 dX0_find_79 rfl ?_
        refine q_pL (z := fl) G dX0_find_81 (pl_X0_9 _) nf_0_1 hO (by decide) (Nat.le_of_ble_eq_true rfl) (fs_0_1 _ _ _) ?_
        refine q_lload G 0 dX0_find_84 rfl ?_
        refine q_lstore (lv' := [(9, .long (qL (f - ((quo hi lo) * fl)))), (16, .long (qL (f - ((quo hi lo) * fl)))), (7, .long (qL (hi - ((quo hi lo) * lo)))), (5, .long (qL (lo))), (14, .long (qL (quo hi lo))), (13, .int (qI (n))), (11, .long (qL (sl))), (0, .ref h)]) G dX0_find_86 (by decide) rfl ?_
        refine q_aload_n G 7 0 dX0_find_88 rfl rfl ?_
        refine q_gt (v := .long (qL (sd))) G dX0_find_89 fl_X0_15 hO (by decide) rfl (by simp [mI, mL, mR, sL, sI, sR, wL, wD, stF, up2]) ?_
        refine q_lload G 4 dX0_find_92 rfl ?_
        refine q_lload G 6 dX0_find_94 rfl ?_
        refine q_lmul G dX0_find_96 ?_
        refine q_lsub G dX0_find_97 ?_
        refine q_lstore (lv' := [(16, .long (qL (sd - ((quo hi lo) * sl)))), (9, .long (qL (f - ((quo hi lo) * fl)))), (7, .long (qL (hi - ((quo hi lo) * lo)))), (5, .long (qL (lo))), (14, .long (qL (quo hi lo))), (13, .int (qI (n))), (11, .long (qL (sl))), (0, .ref h)]) G dX0_find_98 (by decide) rfl ?_
        refine q_aload_n G 7 0 dX0_find_100 rfl rfl ?_
        refine q_lload G 6 dX0_find_101 rfl ?_
        refine q_pL (z := sl) G dX0_find_103 (pl_X0_15 _) nf_0_2 hO (by decide) (Nat.le_of_ble_eq_true rfl) (fs_0_2 _ _ _) ?_
        refine q_lload G 0 dX0_find_106 rfl ?_
        refine q_lstore (lv' := [(11, .long (qL (sd - ((quo hi lo) * sl)))), (16, .long (qL (sd - ((quo hi lo) * sl)))), (9, .long (qL (f - ((quo hi lo) * fl)))), (7, .long (qL (hi - ((quo hi lo) * lo)))), (5, .long (qL (lo))), (14, .long (qL (quo hi lo))), (13, .int (qI (n))), (0, .ref h)]) G dX0_find_108 (by decide) rfl ?_
        refine q_iinc (lv' := [(13, .int (qI (n + 1))), (11, .long (qL (sd - ((quo hi lo) * sl)))), (16, .long (qL (sd - ((quo hi lo) * sl)))), (9, .long (qL (f - ((quo hi lo) * fl)))), (7, .long (qL (hi - ((quo hi lo) * lo)))), (5, .long (qL (lo))), (14, .long (qL (quo hi lo))), (0, .ref h)]) G 6 dX0_find_110 rfl (by decide) rfl ?_
        refine q_goto (tgt := 25) G dX0_find_113 (by decide) ?_
        refine q_lvs [0, 1, 3, 4, 5, 7] rfl ?_
        refine q_mem (M2 := wL M (stF (mL M) h (mL M h 0) fl sl)) (by simp only [sL_wL, wL_wL, mL_wL, stF_u0, stF_u1, stF_u2]) ?_
        exact ih _ _ _ _ _ _ _ (by have := hst.2.2; omega) hst.1
set_option maxRecDepth 100000 in
set_option maxHeartbeats 4000000 in
theorem c_X0_find (l : Launch) (D : va_G) (cy : Nat → ClassId) (M : qM) (h : Nat) (hO : qO M h 0) (x y : Int) (hx : x.natAbs < 281474976710656) (hy : y.natAbs < 281474976710656) : qCt l D cy yX0_find cX0_find 18 none { frames := 1, cells := 0, slots := 0, locals := 23 } 0 0 [.ref h, .long (qL (x)), .long (qL (y))] M (po_find M h x y) := by
  refine qCt_of (lv0 := [(0, .ref h), (1, .long (qL (x))), (3, .long (qL (y)))]) (by decide) rfl (Nat.le_of_ble_eq_true rfl) ?_
  intro p e s m args below meth c G hname hret
  refine q_lload_n G 1 1 dX0_find_0 rfl rfl ?_
  refine q_lstore (lv' := [(5, .long (qL (x))), (0, .ref h), (1, .long (qL (x))), (3, .long (qL (y)))]) G dX0_find_1 (by decide) rfl ?_
  refine q_lload_n G 3 3 dX0_find_3 rfl rfl ?_
  refine q_lstore (lv' := [(7, .long (qL (y))), (5, .long (qL (x))), (0, .ref h), (1, .long (qL (x))), (3, .long (qL (y)))]) G dX0_find_4 (by decide) rfl ?_
  refine q_lconst (z := 0) G dX0_find_6 (by decide +kernel) ?_
  refine q_lstore (lv' := [(9, .long (qL (0))), (7, .long (qL (y))), (5, .long (qL (x))), (0, .ref h), (1, .long (qL (x))), (3, .long (qL (y)))]) G dX0_find_7 (by decide) rfl ?_
  refine q_lconst (z := 1) G dX0_find_9 (by decide +kernel) ?_
  refine q_lstore (lv' := [(11, .long (qL (1))), (9, .long (qL (0))), (7, .long (qL (y))), (5, .long (qL (x))), (0, .ref h), (1, .long (qL (x))), (3, .long (qL (y)))]) G dX0_find_10 (by decide) rfl ?_
  refine q_aload_n G 4 0 dX0_find_12 rfl rfl ?_
  refine q_lconst (z := 1) G dX0_find_13 (by decide +kernel) ?_
  refine q_pL (z := 1) G dX0_find_14 (pl_X0_9 _) nf_0_1 hO (by decide) (Nat.le_of_ble_eq_true rfl) (fs_0_1 _ _ _) ?_
  refine q_aload_n G 4 0 dX0_find_17 rfl rfl ?_
  refine q_lconst (z := 0) G dX0_find_18 (by decide +kernel) ?_
  refine q_pL (z := 0) G dX0_find_19 (pl_X0_15 _) nf_0_2 hO (by decide) (Nat.le_of_ble_eq_true rfl) (fs_0_2 _ _ _) ?_
  refine q_iconst G dX0_find_22 ?_
  refine q_istore (lv' := [(13, .int (qI (0))), (11, .long (qL (1))), (9, .long (qL (0))), (7, .long (qL (y))), (5, .long (qL (x))), (0, .ref h), (1, .long (qL (x))), (3, .long (qL (y)))]) G dX0_find_23 (by decide) rfl ?_
  refine q_lvs [0, 1, 2, 3, 4, 5] rfl ?_
  refine q_mem (M2 := wL M (stF (mL M) h (mL M h 0) 1 0)) (by simp only [sL_wL, wL_wL, mL_wL, stF_12]) ?_
  exact l_find l D cy M h hO x y hx hy G hret _ _ _ _ _ _ _ _ (Nat.lt_succ_self _) (eu_init x y)
