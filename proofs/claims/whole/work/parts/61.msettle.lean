/-! the reference's way to the reduced form -/
theorem down_div {p q : Int} (hq : 0 < q) : (if p.tmod q < 0 then p.tdiv q - 1 else p.tdiv q) = p / q := by
  have h1 := eu_tm p q
  have h2 := rmd_mod (p := p) hq
  unfold rmd at h2
  rw [if_neg (show q ≠ 0 by omega)] at h2
  have h3 := Int.emod_add_mul_ediv p q
  have key : ∀ k : Int, q * (k - p / q) = 0 → k = p / q := by
    intro k hk
    rcases Int.mul_eq_zero.mp hk with h | h <;> omega
  split
  · next h => rw [if_pos h] at h2; exact key _ (by grind)
  · next h => rw [if_neg h] at h2; exact key _ (by grind)
theorem sm_norm {x y z d : Int} (hx : 0 < x) (hd : y * y - 4 * x * z = -d) :
    (y + (y + 2 * ((x - y) / (2 * x)) * x)).tdiv 2 = y + ((x - y) / (2 * x)) * x ∧ fEq x y z x (y + 2 * ((x - y) / (2 * x)) * x) (z + ((x - y) / (2 * x)) * (y + ((x - y) / (2 * x)) * x)) ∧ -x < y + 2 * ((x - y) / (2 * x)) * x ∧ y + 2 * ((x - y) / (2 * x)) * x ≤ x := by
  have h1 := Int.emod_add_mul_ediv (x - y) (2 * x)
  have h2 := Int.emod_nonneg (x - y) (show 2 * x ≠ 0 by omega)
  have h3 := Int.emod_lt_of_pos (x - y) (show 0 < 2 * x by omega)
  generalize (x - y) / (2 * x) = k at h1 ⊢
  generalize (x - y) % (2 * x) = r at h1 h2 h3
  have e1 : y + 2 * k * x = x - r := by grind
  refine ⟨?_, ?_, by omega, by omega⟩
  · have e2 : y + (y + 2 * k * x) = 2 * (y + k * x) := by grind
    rw [e2]; exact Int.mul_tdiv_cancel_left _ (by decide)
  · have h := fEq_move x y z k
    have e3 : y + 2 * x * k = y + 2 * k * x := by grind
    have e4 : z + k * y + x * k * k = z + k * (y + k * x) := by grind
    rw [e3, e4] at h; exact h
theorem st_cle2 {x y z d K : Int} (hx : 0 < x) (hy : -x ≤ y) (hy2 : y ≤ x) (hd : y * y - 4 * x * z = -d) (hd2 : d ≤ 1000000000) (hK : x ≤ K) (hK2 : 1000000000 ≤ K) : z ≤ K := by
  have h1 := Int.mul_nonneg (show 0 ≤ x - y by omega) (show 0 ≤ x + y by omega)
  refine Int.not_lt.mp (fun h2 => ?_)
  have h3 := Int.mul_le_mul_of_nonneg_left (show K + 1 ≤ z by omega) (show 0 ≤ x by omega)
  have h4 := Int.mul_le_mul_of_nonneg_left (show x ≤ K by omega) (show 0 ≤ x by omega)
  have h5 := Int.mul_le_mul_of_nonneg_left (show 1000000000 ≤ K by omega) (show 0 ≤ x by omega)
  have h6 : (x - y) * (x + y) = x * x - y * y := by grind
  have h7 : x * (K + 1) = x * K + x := by grind
  have h8 : 4 * x * z = 4 * (x * z) := by grind
  omega
/-- at the loop's head -/
def smI (d a0 b0 c0 a b c : Int) : Prop := 0 < a ∧ 0 < c ∧ b * b - 4 * a * c = -d ∧ fEq a0 b0 c0 a b c ∧ a ≤ 2305843009213693952 ∧ (-2305843009213693952 ≤ b ∧ b ≤ 2305843009213693952) ∧ c ≤ 2305843009213693952
def smU (a b : Int) : Nat := (4 * a).toNat + (if -a < b ∧ b ≤ a then 0 else 2) + (if b < 0 then 1 else 0)
theorem sm_t1 {d a0 b0 c0 a b c : Int} (hd0 : 0 < d) (hd9 : d ≤ 1000000000) (hI : smI d a0 b0 c0 a b c) (hn : ¬ (-a < b ∧ b ≤ a)) {b' c' : Int} (hb : b' = b + 2 * ((a - b) / (2 * a)) * a) (hc : c' = c + ((a - b) / (2 * a)) * ((b + b').tdiv 2)) :
    smI d a0 b0 c0 a b' c' ∧ smU a b' < smU a b := by
  obtain ⟨h1, h2, h3, h4, h5, h6, h7⟩ := hI
  obtain ⟨e1, e2, e3, e4⟩ := sm_norm h1 h3
  rw [← hb] at e1 e2 e3 e4
  rw [e1] at hc
  rw [← hc] at e2
  have hdn := (fEq_disc e2).trans h3
  refine ⟨⟨h1, st_pos h1 hdn hd0, hdn, fEq_trans h4 e2, h5, by omega, st_cle2 h1 (by omega) e4 hdn hd9 h5 (by omega)⟩, ?_⟩
  unfold smU
  rw [if_pos ⟨e3, e4⟩, if_neg hn]
  split <;> split <;> omega
theorem sm_t2 {d a0 b0 c0 a b c : Int} (hd0 : 0 < d) (hI : smI d a0 b0 c0 a b c) (hn : -a < b ∧ b ≤ a) (hr : ¬ isRd a b c) : smI d a0 b0 c0 c (-b) a ∧ smU c (-b) < smU a b := by
  obtain ⟨h1, h2, h3, h4, h5, h6, h7⟩ := hI
  refine ⟨⟨h2, h1, by rw [← h3]; grind, fEq_trans h4 (fEq_swap _ _ _), h7, by omega, h5⟩, ?_⟩
  unfold smU
  rw [if_pos hn]
  rcases Int.lt_trichotomy a c with h | h | h
  · exact absurd ⟨hn.1, hn.2, by omega, fun h9 => by omega⟩ hr
  · have hb : b < 0 := Int.not_le.mp (fun h9 => hr ⟨hn.1, hn.2, by omega, fun _ => h9⟩)
    subst h
    rw [if_pos hb, if_pos (show -a < -b ∧ -b ≤ a by omega), if_neg (show ¬ -b < 0 by omega)]
    omega
  · split <;> split <;> split <;> omega
def po_settle5 (M : qM) (qa qb qc i : Nat) : Option Value → qM → Prop := fun v M' => v = none ∧ ∃ a b c, M' = wL M (stM (mL M) qa qb qc i a b c) ∧ isRd a b c ∧ 0 < a ∧ fEq (mL M qa i) (mL M qb i) (mL M qc i) a b c
set_option maxRecDepth 100000 in
set_option maxHeartbeats 4000000 in
theorem l_settle5 {p : Program} {e : Env} {s : State} {m : MethodId} {args : Array Value} {below : List Frame} {meth : Method} {c : Code} (l : Launch) (D : va_G) (cy : Nat → ClassId) (M : qM) (mo qa qb qc qf qt : Nat) (hMO : qMO M mo qa qb qc qf qt) (i : Int) (hi : 0 ≤ i ∧ i < 64) (d : Int) (hd0 : 0 < d) (hd9 : d ≤ 1000000000) (G : qG p s m args meth c cX5_settle 6 yX5_settle.cls D cy (qA (mP M) s.heap.size)) (hret : meth.sig.returnType = none) : ∀ (w9 : Nat) (fa fb fc : Int), smU fa fb < w9 → smI d (mL M qa i.toNat) (mL M qb i.toNat) (mL M qc i.toNat) fa fb fc → qK p l e { frames := 1, cells := 0, slots := 0, locals := 27 } s m args below meth c (MQ below (qQ D cy (mP M) (po_settle5 M qa qb qc i.toNat)) args s 0 0 (qA (mP M) s.heap.size)) 6 D cy (qA (mP M) s.heap.size) 0 0 0 [(1, .int (qI (i))), (0, .ref mo)] [] (wL M (stM (mL M) qa qb qc i.toNat fa fb fc)) := by
  intro w9
  induction w9 with
  | zero => intro fa fb fc h9; exact absurd h9 (Nat.not_lt_zero _)
  | succ w9 ih =>
    intro fa fb fc hm hI
    obtain ⟨hF, ⟨r2, r3, r4, r5, r8⟩, ⟨a2, a3, a4, a5, a8⟩, ⟨n1, n2, n3, n4, n5, n6⟩⟩ := id hMO
    obtain ⟨p1, p2, p3, p4, p5, p6, p7⟩ := id hI
    refine q_aload_n G 1 0 dX5_settle_0 rfl rfl ?_
    refine q_iload_n G 0 1 dX5_settle_1 rfl rfl ?_
    refine q_callV (As := [.int (qI (i))]) (rest := []) G dX5_settle_2 cw_X5_39 (c_X5_isReduced l D cy (wL M (stM (mL M) qa qb qc i.toNat fa fb fc)) mo qa qb qc qf qt hMO i hi (by simp only [mL_wL, stM_a _ _ _ _ n1 n2, stM_b _ _ _ _ n3, stM_c]; omega) (by simp only [mL_wL, stM_a _ _ _ _ n1 n2, stM_b _ _ _ _ n3, stM_c]; omega) (by simp only [mL_wL, stM_a _ _ _ _ n1 n2, stM_b _ _ _ _ n3, stM_c]; omega)) hF.1 hF.2 (by decide) rfl rfl rfl (Nat.le_of_ble_eq_true rfl) rfl rfl ⟨Nat.le_of_ble_eq_true rfl, Nat.le_of_ble_eq_true rfl⟩ ⟨by decide, by decide⟩ (fun v9 M9 hq9 => ?_)
    obtain ⟨rfl, e9⟩ := hq9
    refine q_mem e9 ?_
    refine q_st (st2 := [.int (qI (if isRd (mL (wL M (stM (mL M) qa qb qc i.toNat fa fb fc)) qa i.toNat) (mL (wL M (stM (mL M) qa qb qc i.toNat fa fb fc)) qb i.toNat) (mL (wL M (stM (mL M) qa qb qc i.toNat fa fb fc)) qc i.toNat) then 1 else 0))]) rfl ?_
    simp only [mL_wL, stM_a _ _ _ _ n1 n2, stM_b _ _ _ _ n3, stM_c]
    refine q_if_ne (tgt := 154) G dX5_settle_5 (by decide) (by split <;> omega) (fun c1 => ?_) (fun c1 => ?_)
    · exact q_vret G dX5_settle_154 hret (by omega) (by omega) (⟨rfl, fa, fb, fc, rfl, Decidable.byContradiction (fun h9 => c1 (by rw [if_neg h9])), hI.1, hI.2.2.2.1⟩)
    · have hnr : ¬ isRd fa fb fc := fun h9 => absurd c1 (by rw [if_pos h9]; decide)
      refine q_aload_n G 1 0 dX5_settle_8 rfl rfl ?_
      refine q_gt (v := .ref qb) G dX5_settle_9 fl_X5_13 hF (by decide) rfl (congrArg va_rf r3) ?_
      refine q_iload_n G 0 1 dX5_settle_12 rfl rfl ?_
      refine q_laload G dX5_settle_13 a3.1 a3.2.1 (by first | assumption | omega) (show (i) < ((mN M qb : Nat) : Int) by rw [a3.2.2]; omega) (show mN M qb < 2147483648 by rw [a3.2.2]; decide) ?_
      refine q_topL (z2 := fb) (by simp [mI, mL, mR, sL, sI, sR, wL, wD, stF, stM, up2, n1, n1.symm, n2, n2.symm, n3, n3.symm]) ?_
      refine q_aload_n G 1 0 dX5_settle_14 rfl rfl ?_
      refine q_gt (v := .ref qa) G dX5_settle_15 fl_X5_7 hF (by decide) rfl (congrArg va_rf r2) ?_
      refine q_iload_n G 0 1 dX5_settle_18 rfl rfl ?_
      refine q_laload G dX5_settle_19 a2.1 a2.2.1 (by first | assumption | omega) (show (i) < ((mN M qa : Nat) : Int) by rw [a2.2.2]; omega) (show mN M qa < 2147483648 by rw [a2.2.2]; decide) ?_
      refine q_topL (z2 := fa) (by simp [mI, mL, mR, sL, sI, sR, wL, wD, stF, stM, up2, n1, n1.symm, n2, n2.symm, n3, n3.symm]) ?_
      refine q_lneg G dX5_settle_20 ?_
      refine q_lcmp_le (tgt := 41) G dX5_settle_21 dX5_settle_22 (by decide) (by first | assumption | omega) (by first | assumption | omega) (fun c2 => ?_) (fun c2 => ?_)
      · refine q_aload_n G 1 0 dX5_settle_41 rfl rfl ?_
        refine q_gt (v := .ref qa) G dX5_settle_42 fl_X5_7 hF (by decide) rfl (congrArg va_rf r2) ?_
        refine q_iload_n G 0 1 dX5_settle_45 rfl rfl ?_
        refine q_laload G dX5_settle_46 a2.1 a2.2.1 (by first | assumption | omega) (show (i) < ((mN M qa : Nat) : Int) by rw [a2.2.2]; omega) (show mN M qa < 2147483648 by rw [a2.2.2]; decide) ?_
        refine q_topL (z2 := fa) (by simp [mI, mL, mR, sL, sI, sR, wL, wD, stF, stM, up2, n1, n1.symm, n2, n2.symm, n3, n3.symm]) ?_
        refine q_aload_n G 1 0 dX5_settle_47 rfl rfl ?_
        refine q_gt (v := .ref qb) G dX5_settle_48 fl_X5_13 hF (by decide) rfl (congrArg va_rf r3) ?_
        refine q_iload_n G 0 1 dX5_settle_51 rfl rfl ?_
        refine q_laload G dX5_settle_52 a3.1 a3.2.1 (by first | assumption | omega) (show (i) < ((mN M qb : Nat) : Int) by rw [a3.2.2]; omega) (show mN M qb < 2147483648 by rw [a3.2.2]; decide) ?_
        refine q_topL (z2 := fb) (by simp [mI, mL, mR, sL, sI, sR, wL, wD, stF, stM, up2, n1, n1.symm, n2, n2.symm, n3, n3.symm]) ?_
        refine q_lsub G dX5_settle_53 ?_
        refine q_ldc2 (z := 2) G dX5_settle_54 tw_636 (by decide +kernel) ?_
        refine q_aload_n G 1 0 dX5_settle_57 rfl rfl ?_
        refine q_gt (v := .ref qa) G dX5_settle_58 fl_X5_7 hF (by decide) rfl (congrArg va_rf r2) ?_
        refine q_iload_n G 0 1 dX5_settle_61 rfl rfl ?_
        refine q_laload G dX5_settle_62 a2.1 a2.2.1 (by first | assumption | omega) (show (i) < ((mN M qa : Nat) : Int) by rw [a2.2.2]; omega) (show mN M qa < 2147483648 by rw [a2.2.2]; decide) ?_
        refine q_topL (z2 := fa) (by simp [mI, mL, mR, sL, sI, sR, wL, wD, stF, stM, up2, n1, n1.symm, n2, n2.symm, n3, n3.symm]) ?_
        refine q_lmul G dX5_settle_63 ?_
        refine q_callS (As := [.long (qL (fa - fb)), .long (qL (2 * fa))]) (rest := []) G dX5_settle_64 cw_X5_45 (c_X5_down l D cy (wL M (stM (mL M) qa qb qc i.toNat fa fb fc)) (fa - fb) (2 * fa) (by omega) (by omega) (by omega)) rfl rfl (Nat.le_of_ble_eq_true rfl) rfl rfl ⟨Nat.le_of_ble_eq_true rfl, Nat.le_of_ble_eq_true rfl⟩ ⟨by decide, by decide⟩ (fun v9 M9 hq9 => ?_)
        obtain ⟨rfl, e9⟩ := hq9
        refine q_mem e9 ?_
        refine q_st (st2 := [.long (qL (if (fa - fb).tmod (2 * fa) < 0 then (fa - fb).tdiv (2 * fa) - 1 else (fa - fb).tdiv (2 * fa)))]) rfl ?_
        refine q_topL (z2 := (fa - fb) / (2 * fa)) (down_div (by omega)) ?_
        obtain ⟨nn, enn⟩ : ∃ nn, nn = (fa - fb) / (2 * fa) := ⟨_, rfl⟩
        refine q_topL (z2 := nn) enn.symm ?_
        have hst := sm_t1 (b' := fb + ((2 * nn) * fa)) (c' := fc + (nn * ((fb + (fb + ((2 * nn) * fa))).tdiv 2))) hd0 hd9 hI (by omega) (by rw [enn]) (by rw [enn])
        have hst2 := hst.1.2.2.2.2.2.1
        refine q_lstore_n (lv' := [(2, .long (qL (nn))), (1, .int (qI (i))), (0, .ref mo)]) G 2 dX5_settle_67 rfl (by decide) rfl ?_
        refine q_aload_n G 2 0 dX5_settle_68 rfl rfl ?_
        refine q_gt (v := .ref qb) G dX5_settle_69 fl_X5_13 hF (by decide) rfl (congrArg va_rf r3) ?_
        refine q_iload_n G 1 1 dX5_settle_72 rfl rfl ?_
        refine q_laload G dX5_settle_73 a3.1 a3.2.1 (by first | assumption | omega) (show (i) < ((mN M qb : Nat) : Int) by rw [a3.2.2]; omega) (show mN M qb < 2147483648 by rw [a3.2.2]; decide) ?_
        refine q_topL (z2 := fb) (by simp [mI, mL, mR, sL, sI, sR, wL, wD, stF, stM, up2, n1, n1.symm, n2, n2.symm, n3, n3.symm]) ?_
        refine q_ldc2 (z := 2) G dX5_settle_74 tw_636 (by decide +kernel) ?_
        refine q_lload_n G 0 2 dX5_settle_77 rfl rfl ?_
        refine q_lmul G dX5_settle_78 ?_
        refine q_aload_n G 2 0 dX5_settle_79 rfl rfl ?_
        refine q_gt (v := .ref qa) G dX5_settle_80 fl_X5_7 hF (by decide) rfl (congrArg va_rf r2) ?_
        refine q_iload_n G 1 1 dX5_settle_83 rfl rfl ?_
        refine q_laload G dX5_settle_84 a2.1 a2.2.1 (by first | assumption | omega) (show (i) < ((mN M qa : Nat) : Int) by rw [a2.2.2]; omega) (show mN M qa < 2147483648 by rw [a2.2.2]; decide) ?_
        refine q_topL (z2 := fa) (by simp [mI, mL, mR, sL, sI, sR, wL, wD, stF, stM, up2, n1, n1.symm, n2, n2.symm, n3, n3.symm]) ?_
        refine q_lmul G dX5_settle_85 ?_
        refine q_ladd G dX5_settle_86 ?_
        refine q_lstore (lv' := [(4, .long (qL (fb + ((2 * nn) * fa)))), (2, .long (qL (nn))), (1, .int (qI (i))), (0, .ref mo)]) G dX5_settle_87 (by decide) rfl ?_
        refine q_aload_n G 3 0 dX5_settle_89 rfl rfl ?_
        refine q_iload_n G 2 1 dX5_settle_90 rfl rfl ?_
        refine q_aload_n G 3 0 dX5_settle_91 rfl rfl ?_
        refine q_gt (v := .ref qa) G dX5_settle_92 fl_X5_7 hF (by decide) rfl (congrArg va_rf r2) ?_
        refine q_iload_n G 2 1 dX5_settle_95 rfl rfl ?_
        refine q_laload G dX5_settle_96 a2.1 a2.2.1 (by first | assumption | omega) (show (i) < ((mN M qa : Nat) : Int) by rw [a2.2.2]; omega) (show mN M qa < 2147483648 by rw [a2.2.2]; decide) ?_
        refine q_topL (z2 := fa) (by simp [mI, mL, mR, sL, sI, sR, wL, wD, stF, stM, up2, n1, n1.symm, n2, n2.symm, n3, n3.symm]) ?_
        refine q_lload G 0 dX5_settle_97 rfl ?_
        refine q_aload_n G 3 0 dX5_settle_99 rfl rfl ?_
        refine q_gt (v := .ref qc) G dX5_settle_100 fl_X5_16 hF (by decide) rfl (congrArg va_rf r4) ?_
        refine q_iload_n G 2 1 dX5_settle_103 rfl rfl ?_
        refine q_laload G dX5_settle_104 a4.1 a4.2.1 (by first | assumption | omega) (show (i) < ((mN M qc : Nat) : Int) by rw [a4.2.2]; omega) (show mN M qc < 2147483648 by rw [a4.2.2]; decide) ?_
        refine q_topL (z2 := fc) (by simp [mI, mL, mR, sL, sI, sR, wL, wD, stF, stM, up2, n1, n1.symm, n2, n2.symm, n3, n3.symm]) ?_
        refine q_lload_n G 1 2 dX5_settle_105 rfl rfl ?_
        refine q_aload_n G 3 0 dX5_settle_106 rfl rfl ?_
        refine q_gt (v := .ref qb) G dX5_settle_107 fl_X5_13 hF (by decide) rfl (congrArg va_rf r3) ?_
        refine q_iload_n G 2 1 dX5_settle_110 rfl rfl ?_
        refine q_laload G dX5_settle_111 a3.1 a3.2.1 (by first | assumption | omega) (show (i) < ((mN M qb : Nat) : Int) by rw [a3.2.2]; omega) (show mN M qb < 2147483648 by rw [a3.2.2]; decide) ?_
        refine q_topL (z2 := fb) (by simp [mI, mL, mR, sL, sI, sR, wL, wD, stF, stM, up2, n1, n1.symm, n2, n2.symm, n3, n3.symm]) ?_
        refine q_lload G 0 dX5_settle_112 rfl ?_
        refine q_ladd G dX5_settle_114 ?_
        refine q_ldc2 (z := 2) G dX5_settle_115 tw_636 (by decide +kernel) ?_
        refine q_ldiv G dX5_settle_118 (by omega) (by omega) (by omega) ?_
        refine q_lmul G dX5_settle_119 ?_
        refine q_ladd G dX5_settle_120 ?_
        refine q_callV (As := [.int (qI (i)), .long (qL (fa)), .long (qL (fb + ((2 * nn) * fa))), .long (qL (fc + (nn * ((fb + (fb + ((2 * nn) * fa))).tdiv 2))))]) (rest := []) G dX5_settle_121 cw_X5_35 (c_X5_set l D cy (wL M (stM (mL M) qa qb qc i.toNat fa fb fc)) mo qa qb qc qf qt hMO i (fa) (fb + ((2 * nn) * fa)) (fc + (nn * ((fb + (fb + ((2 * nn) * fa))).tdiv 2))) hi) hF.1 hF.2 (by decide) rfl rfl rfl (Nat.le_of_ble_eq_true rfl) rfl rfl ⟨Nat.le_of_ble_eq_true rfl, Nat.le_of_ble_eq_true rfl⟩ ⟨by decide, by decide⟩ (fun v9 M9 hq9 => ?_)
        obtain ⟨rfl, e9⟩ := hq9
        refine q_mem e9 ?_
        refine q_st (st2 := []) rfl ?_
        refine q_mem (M2 := wL M (stM (mL M) qa qb qc i.toNat (fa) (fb + ((2 * nn) * fa)) (fc + (nn * ((fb + (fb + ((2 * nn) * fa))).tdiv 2))))) (by simp only [mL_wL, wL_wL, stM_stM _ _ _ _ _ _ _ _ _ _ _ n1 n2 n3]) ?_
        refine q_goto (tgt := 0) G dX5_settle_124 (by decide) ?_
        refine q_lvs [2, 3] rfl ?_
        exact ih _ _ _ (by omega) hst.1
      · refine q_aload_n G 1 0 dX5_settle_25 rfl rfl ?_
        refine q_gt (v := .ref qb) G dX5_settle_26 fl_X5_13 hF (by decide) rfl (congrArg va_rf r3) ?_
        refine q_iload_n G 0 1 dX5_settle_29 rfl rfl ?_
        refine q_laload G dX5_settle_30 a3.1 a3.2.1 (by first | assumption | omega) (show (i) < ((mN M qb : Nat) : Int) by rw [a3.2.2]; omega) (show mN M qb < 2147483648 by rw [a3.2.2]; decide) ?_
        refine q_topL (z2 := fb) (by simp [mI, mL, mR, sL, sI, sR, wL, wD, stF, stM, up2, n1, n1.symm, n2, n2.symm, n3, n3.symm]) ?_
        refine q_aload_n G 1 0 dX5_settle_31 rfl rfl ?_
        refine q_gt (v := .ref qa) G dX5_settle_32 fl_X5_7 hF (by decide) rfl (congrArg va_rf r2) ?_
        refine q_iload_n G 0 1 dX5_settle_35 rfl rfl ?_
        refine q_laload G dX5_settle_36 a2.1 a2.2.1 (by first | assumption | omega) (show (i) < ((mN M qa : Nat) : Int) by rw [a2.2.2]; omega) (show mN M qa < 2147483648 by rw [a2.2.2]; decide) ?_
        refine q_topL (z2 := fa) (by simp [mI, mL, mR, sL, sI, sR, wL, wD, stF, stM, up2, n1, n1.symm, n2, n2.symm, n3, n3.symm]) ?_
        refine q_lcmp_le (tgt := 127) G dX5_settle_37 dX5_settle_38 (by decide) (by first | assumption | omega) (by first | assumption | omega) (fun c3 => ?_) (fun c3 => ?_)
        · have hst := sm_t2 hd0 hI (by omega) (fun h9 => absurd h9 hnr)
          refine q_aload_n G 1 0 dX5_settle_127 rfl rfl ?_
          refine q_iload_n G 0 1 dX5_settle_128 rfl rfl ?_
          refine q_aload_n G 1 0 dX5_settle_129 rfl rfl ?_
          refine q_gt (v := .ref qc) G dX5_settle_130 fl_X5_16 hF (by decide) rfl (congrArg va_rf r4) ?_
          refine q_iload_n G 0 1 dX5_settle_133 rfl rfl ?_
          refine q_laload G dX5_settle_134 a4.1 a4.2.1 (by first | assumption | omega) (show (i) < ((mN M qc : Nat) : Int) by rw [a4.2.2]; omega) (show mN M qc < 2147483648 by rw [a4.2.2]; decide) ?_
          refine q_topL (z2 := fc) (by simp [mI, mL, mR, sL, sI, sR, wL, wD, stF, stM, up2, n1, n1.symm, n2, n2.symm, n3, n3.symm]) ?_
          refine q_aload_n G 1 0 dX5_settle_135 rfl rfl ?_
          refine q_gt (v := .ref qb) G dX5_settle_136 fl_X5_13 hF (by decide) rfl (congrArg va_rf r3) ?_
          refine q_iload_n G 0 1 dX5_settle_139 rfl rfl ?_
          refine q_laload G dX5_settle_140 a3.1 a3.2.1 (by first | assumption | omega) (show (i) < ((mN M qb : Nat) : Int) by rw [a3.2.2]; omega) (show mN M qb < 2147483648 by rw [a3.2.2]; decide) ?_
          refine q_topL (z2 := fb) (by simp [mI, mL, mR, sL, sI, sR, wL, wD, stF, stM, up2, n1, n1.symm, n2, n2.symm, n3, n3.symm]) ?_
          refine q_lneg G dX5_settle_141 ?_
          refine q_aload_n G 1 0 dX5_settle_142 rfl rfl ?_
          refine q_gt (v := .ref qa) G dX5_settle_143 fl_X5_7 hF (by decide) rfl (congrArg va_rf r2) ?_
          refine q_iload_n G 0 1 dX5_settle_146 rfl rfl ?_
          refine q_laload G dX5_settle_147 a2.1 a2.2.1 (by first | assumption | omega) (show (i) < ((mN M qa : Nat) : Int) by rw [a2.2.2]; omega) (show mN M qa < 2147483648 by rw [a2.2.2]; decide) ?_
          refine q_topL (z2 := fa) (by simp [mI, mL, mR, sL, sI, sR, wL, wD, stF, stM, up2, n1, n1.symm, n2, n2.symm, n3, n3.symm]) ?_
          refine q_callV (As := [.int (qI (i)), .long (qL (fc)), .long (qL (-fb)), .long (qL (fa))]) (rest := []) G dX5_settle_148 cw_X5_35 (c_X5_set l D cy (wL M (stM (mL M) qa qb qc i.toNat fa fb fc)) mo qa qb qc qf qt hMO i (fc) (-fb) (fa) hi) hF.1 hF.2 (by decide) rfl rfl rfl (Nat.le_of_ble_eq_true rfl) rfl rfl ⟨Nat.le_of_ble_eq_true rfl, Nat.le_of_ble_eq_true rfl⟩ ⟨by decide, by decide⟩ (fun v9 M9 hq9 => ?_)
          obtain ⟨rfl, e9⟩ := hq9
          refine q_mem e9 ?_
          refine q_st (st2 := []) rfl ?_
          refine q_mem (M2 := wL M (stM (mL M) qa qb qc i.toNat (fc) (-fb) (fa))) (by simp only [mL_wL, wL_wL, stM_stM _ _ _ _ _ _ _ _ _ _ _ n1 n2 n3]) ?_
          refine q_goto (tgt := 0) G dX5_settle_151 (by decide) ?_
          refine q_lvs [0, 1] rfl ?_
          exact ih _ _ _ (by omega) hst.1
        · refine q_aload_n G 1 0 dX5_settle_41 rfl rfl ?_
          refine q_gt (v := .ref qa) G dX5_settle_42 fl_X5_7 hF (by decide) rfl (congrArg va_rf r2) ?_
          refine q_iload_n G 0 1 dX5_settle_45 rfl rfl ?_
          refine q_laload G dX5_settle_46 a2.1 a2.2.1 (by first | assumption | omega) (show (i) < ((mN M qa : Nat) : Int) by rw [a2.2.2]; omega) (show mN M qa < 2147483648 by rw [a2.2.2]; decide) ?_
          refine q_topL (z2 := fa) (by simp [mI, mL, mR, sL, sI, sR, wL, wD, stF, stM, up2, n1, n1.symm, n2, n2.symm, n3, n3.symm]) ?_
          refine q_aload_n G 1 0 dX5_settle_47 rfl rfl ?_
          refine q_gt (v := .ref qb) G dX5_settle_48 fl_X5_13 hF (by decide) rfl (congrArg va_rf r3) ?_
          refine q_iload_n G 0 1 dX5_settle_51 rfl rfl ?_
          refine q_laload G dX5_settle_52 a3.1 a3.2.1 (by first | assumption | omega) (show (i) < ((mN M qb : Nat) : Int) by rw [a3.2.2]; omega) (show mN M qb < 2147483648 by rw [a3.2.2]; decide) ?_
          refine q_topL (z2 := fb) (by simp [mI, mL, mR, sL, sI, sR, wL, wD, stF, stM, up2, n1, n1.symm, n2, n2.symm, n3, n3.symm]) ?_
          refine q_lsub G dX5_settle_53 ?_
          refine q_ldc2 (z := 2) G dX5_settle_54 tw_636 (by decide +kernel) ?_
          refine q_aload_n G 1 0 dX5_settle_57 rfl rfl ?_
          refine q_gt (v := .ref qa) G dX5_settle_58 fl_X5_7 hF (by decide) rfl (congrArg va_rf r2) ?_
          refine q_iload_n G 0 1 dX5_settle_61 rfl rfl ?_
          refine q_laload G dX5_settle_62 a2.1 a2.2.1 (by first | assumption | omega) (show (i) < ((mN M qa : Nat) : Int) by rw [a2.2.2]; omega) (show mN M qa < 2147483648 by rw [a2.2.2]; decide) ?_
          refine q_topL (z2 := fa) (by simp [mI, mL, mR, sL, sI, sR, wL, wD, stF, stM, up2, n1, n1.symm, n2, n2.symm, n3, n3.symm]) ?_
          refine q_lmul G dX5_settle_63 ?_
          refine q_callS (As := [.long (qL (fa - fb)), .long (qL (2 * fa))]) (rest := []) G dX5_settle_64 cw_X5_45 (c_X5_down l D cy (wL M (stM (mL M) qa qb qc i.toNat fa fb fc)) (fa - fb) (2 * fa) (by omega) (by omega) (by omega)) rfl rfl (Nat.le_of_ble_eq_true rfl) rfl rfl ⟨Nat.le_of_ble_eq_true rfl, Nat.le_of_ble_eq_true rfl⟩ ⟨by decide, by decide⟩ (fun v9 M9 hq9 => ?_)
          obtain ⟨rfl, e9⟩ := hq9
          refine q_mem e9 ?_
          refine q_st (st2 := [.long (qL (if (fa - fb).tmod (2 * fa) < 0 then (fa - fb).tdiv (2 * fa) - 1 else (fa - fb).tdiv (2 * fa)))]) rfl ?_
          refine q_topL (z2 := (fa - fb) / (2 * fa)) (down_div (by omega)) ?_
          obtain ⟨nn, enn⟩ : ∃ nn, nn = (fa - fb) / (2 * fa) := ⟨_, rfl⟩
          refine q_topL (z2 := nn) enn.symm ?_
          have hst := sm_t1 (b' := fb + ((2 * nn) * fa)) (c' := fc + (nn * ((fb + (fb + ((2 * nn) * fa))).tdiv 2))) hd0 hd9 hI (by omega) (by rw [enn]) (by rw [enn])
          have hst2 := hst.1.2.2.2.2.2.1
          refine q_lstore_n (lv' := [(2, .long (qL (nn))), (1, .int (qI (i))), (0, .ref mo)]) G 2 dX5_settle_67 rfl (by decide) rfl ?_
          refine q_aload_n G 2 0 dX5_settle_68 rfl rfl ?_
          refine q_gt (v := .ref qb) G dX5_settle_69 fl_X5_13 hF (by decide) rfl (congrArg va_rf r3) ?_
          refine q_iload_n G 1 1 dX5_settle_72 rfl rfl ?_
          refine q_laload G dX5_settle_73 a3.1 a3.2.1 (by first | assumption | omega) (show (i) < ((mN M qb : Nat) : Int) by rw [a3.2.2]; omega) (show mN M qb < 2147483648 by rw [a3.2.2]; decide) ?_
          refine q_topL (z2 := fb) (by simp [mI, mL, mR, sL, sI, sR, wL, wD, stF, stM, up2, n1, n1.symm, n2, n2.symm, n3, n3.symm]) ?_
          refine q_ldc2 (z := 2) G dX5_settle_74 tw_636 (by decide +kernel) ?_
          refine q_lload_n G 0 2 dX5_settle_77 rfl rfl ?_
          refine q_lmul G dX5_settle_78 ?_
          refine q_aload_n G 2 0 dX5_settle_79 rfl rfl ?_
          refine q_gt (v := .ref qa) G dX5_settle_80 fl_X5_7 hF (by decide) rfl (congrArg va_rf r2) ?_
          refine q_iload_n G 1 1 dX5_settle_83 rfl rfl ?_
          refine q_laload G dX5_settle_84 a2.1 a2.2.1 (by first | assumption | omega) (show (i) < ((mN M qa : Nat) : Int) by rw [a2.2.2]; omega) (show mN M qa < 2147483648 by rw [a2.2.2]; decide) ?_
          refine q_topL (z2 := fa) (by simp [mI, mL, mR, sL, sI, sR, wL, wD, stF, stM, up2, n1, n1.symm, n2, n2.symm, n3, n3.symm]) ?_
          refine q_lmul G dX5_settle_85 ?_
          refine q_ladd G dX5_settle_86 ?_
          refine q_lstore (lv' := [(4, .long (qL (fb + ((2 * nn) * fa)))), (2, .long (qL (nn))), (1, .int (qI (i))), (0, .ref mo)]) G dX5_settle_87 (by decide) rfl ?_
          refine q_aload_n G 3 0 dX5_settle_89 rfl rfl ?_
          refine q_iload_n G 2 1 dX5_settle_90 rfl rfl ?_
          refine q_aload_n G 3 0 dX5_settle_91 rfl rfl ?_
          refine q_gt (v := .ref qa) G dX5_settle_92 fl_X5_7 hF (by decide) rfl (congrArg va_rf r2) ?_
          refine q_iload_n G 2 1 dX5_settle_95 rfl rfl ?_
          refine q_laload G dX5_settle_96 a2.1 a2.2.1 (by first | assumption | omega) (show (i) < ((mN M qa : Nat) : Int) by rw [a2.2.2]; omega) (show mN M qa < 2147483648 by rw [a2.2.2]; decide) ?_
          refine q_topL (z2 := fa) (by simp [mI, mL, mR, sL, sI, sR, wL, wD, stF, stM, up2, n1, n1.symm, n2, n2.symm, n3, n3.symm]) ?_
          refine q_lload G 0 dX5_settle_97 rfl ?_
          refine q_aload_n G 3 0 dX5_settle_99 rfl rfl ?_
          refine q_gt (v := .ref qc) G dX5_settle_100 fl_X5_16 hF (by decide) rfl (congrArg va_rf r4) ?_
          refine q_iload_n G 2 1 dX5_settle_103 rfl rfl ?_
          refine q_laload G dX5_settle_104 a4.1 a4.2.1 (by first | assumption | omega) (show (i) < ((mN M qc : Nat) : Int) by rw [a4.2.2]; omega) (show mN M qc < 2147483648 by rw [a4.2.2]; decide) ?_
          refine q_topL (z2 := fc) (by simp [mI, mL, mR, sL, sI, sR, wL, wD, stF, stM, up2, n1, n1.symm, n2, n2.symm, n3, n3.symm]) ?_
          refine q_lload_n G 1 2 dX5_settle_105 rfl rfl ?_
          refine q_aload_n G 3 0 dX5_settle_106 rfl rfl ?_
          refine q_gt (v := .ref qb) G dX5_settle_107 fl_X5_13 hF (by decide) rfl (congrArg va_rf r3) ?_
          refine q_iload_n G 2 1 dX5_settle_110 rfl rfl ?_
          refine q_laload G dX5_settle_111 a3.1 a3.2.1 (by first | assumption | omega) (show (i) < ((mN M qb : Nat) : Int) by rw [a3.2.2]; omega) (show mN M qb < 2147483648 by rw [a3.2.2]; decide) ?_
          refine q_topL (z2 := fb) (by simp [mI, mL, mR, sL, sI, sR, wL, wD, stF, stM, up2, n1, n1.symm, n2, n2.symm, n3, n3.symm]) ?_
          refine q_lload G 0 dX5_settle_112 rfl ?_
          refine q_ladd G dX5_settle_114 ?_
          refine q_ldc2 (z := 2) G dX5_settle_115 tw_636 (by decide +kernel) ?_
          refine q_ldiv G dX5_settle_118 (by omega) (by omega) (by omega) ?_
          refine q_lmul G dX5_settle_119 ?_
          refine q_ladd G dX5_settle_120 ?_
          refine q_callV (As := [.int (qI (i)), .long (qL (fa)), .long (qL (fb + ((2 * nn) * fa))), .long (qL (fc + (nn * ((fb + (fb + ((2 * nn) * fa))).tdiv 2))))]) (rest := []) G dX5_settle_121 cw_X5_35 (c_X5_set l D cy (wL M (stM (mL M) qa qb qc i.toNat fa fb fc)) mo qa qb qc qf qt hMO i (fa) (fb + ((2 * nn) * fa)) (fc + (nn * ((fb + (fb + ((2 * nn) * fa))).tdiv 2))) hi) hF.1 hF.2 (by decide) rfl rfl rfl (Nat.le_of_ble_eq_true rfl) rfl rfl ⟨Nat.le_of_ble_eq_true rfl, Nat.le_of_ble_eq_true rfl⟩ ⟨by decide, by decide⟩ (fun v9 M9 hq9 => ?_)
          obtain ⟨rfl, e9⟩ := hq9
          refine q_mem e9 ?_
          refine q_st (st2 := []) rfl ?_
          refine q_mem (M2 := wL M (stM (mL M) qa qb qc i.toNat (fa) (fb + ((2 * nn) * fa)) (fc + (nn * ((fb + (fb + ((2 * nn) * fa))).tdiv 2))))) (by simp only [mL_wL, wL_wL, stM_stM _ _ _ _ _ _ _ _ _ _ _ n1 n2 n3]) ?_
          refine q_goto (tgt := 0) G dX5_settle_124 (by decide) ?_
          refine q_lvs [2, 3] rfl ?_
          exact ih _ _ _ (by omega) hst.1
set_option maxRecDepth 100000 in
set_option maxHeartbeats 4000000 in
theorem c_X5_settle (l : Launch) (D : va_G) (cy : Nat → ClassId) (M : qM) (mo qa qb qc qf qt : Nat) (hMO : qMO M mo qa qb qc qf qt) (i : Int) (hi : 0 ≤ i ∧ i < 64) (d : Int) (hd0 : 0 < d) (hd9 : d ≤ 1000000000) (hk : smI d (mL M qa i.toNat) (mL M qb i.toNat) (mL M qc i.toNat) (mL M qa i.toNat) (mL M qb i.toNat) (mL M qc i.toNat)) : qCt l D cy yX5_settle cX5_settle 6 none { frames := 1, cells := 0, slots := 0, locals := 27 } 0 0 [.ref mo, .int (qI (i))] M (po_settle5 M qa qb qc i.toNat) := by
  refine qCt_of (lv0 := [(0, .ref mo), (1, .int (qI (i)))]) (by decide) rfl (Nat.le_of_ble_eq_true rfl) ?_
  intro p e s m args below meth c G hname hret
  refine q_lvs [1, 0] rfl ?_
  refine q_mem (M2 := wL M (stM (mL M) qa qb qc i.toNat (mL M qa i.toNat) (mL M qb i.toNat) (mL M qc i.toNat))) (by rw [stM_self]; rfl) ?_
  exact l_settle5 l D cy M mo qa qb qc qf qt hMO i hi d hd0 hd9 G hret _ _ _ _ (Nat.lt_succ_self _) hk
