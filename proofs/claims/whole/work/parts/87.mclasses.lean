noncomputable def a_17 (σ : qS) : Int := cntN (sD σ)
theorem cls_rng {a b d : Int} (ha : 1 ≤ a) (ha2 : a ≤ 130) (hb : -130 ≤ b) (hb2 : b ≤ 131) (hd : 7 ≤ d) (hd2 : d ≤ 50000) : 0 ≤ b * b + d ∧ b * b + d ≤ 70000 ∧ (b * b + d).tmod (4 * a) = (b * b + d) % (4 * a) ∧ (b * b + d).tdiv (4 * a) = (b * b + d) / (4 * a) ∧ 0 ≤ (b * b + d) / (4 * a) ∧ (b * b + d) / (4 * a) ≤ 70000 ∧ 0 ≤ (b * b + d) % (4 * a) ∧ (b * b + d) % (4 * a) < 4 * a := by
  have h1 := sq_nn b
  have h2 := sq_le (x := b) (n := 131) (by omega) hb2
  have h3 : 0 ≤ b * b + d := by omega
  have h4 := Int.ediv_nonneg h3 (show (0 : Int) ≤ 4 * a by omega)
  have h5 := Int.ediv_le_self (4 * a) h3
  exact ⟨h3, by omega, Int.tmod_eq_emod_of_nonneg h3, Int.tdiv_eq_ediv_of_nonneg h3, h4, by omega, Int.emod_nonneg _ (by omega), Int.emod_lt_of_pos _ (by omega)⟩
theorem smZ_1 (f : Int → Int) (x : Int) {n k : Nat} (h : n = k + 1) : smZ f x n = f x + smZ f (x + 1) k := by rw [h, smZ]
theorem smZ_e (f : Int → Int) (x : Int) {n : Nat} (h : n = 0) : smZ f x n = 0 := by rw [h, smZ]
theorem tri {a : Int} : 3 * a * a = 3 * (a * a) := Int.mul_assoc 3 a a
def clO (M : qM) (qa qb qc : Nat) (d a n : Int) (L : Nat → Nat → Int) : Prop := (1 ≤ a ∧ a ≤ 130) ∧ frM M L qa qb qc [60] ∧ n + smZ (fun a => smZ (fun b => wgI d a b) 1 130) a (131 - a).toNat = cntN d
def clI (M : qM) (qa qb qc : Nat) (d a b n : Int) (L : Nat → Nat → Int) : Prop := ((1 ≤ a ∧ a ≤ 130) ∧ -a + 1 ≤ b ∧ b ≤ a + 1 ∧ 3 * (a * a) ≤ d) ∧ frM M L qa qb qc [60] ∧ n + smZ (fun b => fmI d a b) b (a + 1 - b).toNat + smZ (fun a => smZ (fun b => wgI d a b) 1 130) (a + 1) (130 - a).toNat = cntN d
theorem clI_in {M : qM} {qa qb qc : Nat} {d a n : Int} {L : Nat → Nat → Int} (hd : d % 8 = 7) (h : clO M qa qb qc d a n L) (h2 : 3 * (a * a) ≤ d) : clI M qa qb qc d a (-a + 1) n L := by
  obtain ⟨⟨h3, h4⟩, h5, h6⟩ := h
  refine ⟨⟨⟨h3, h4⟩, by omega, by omega, h2⟩, h5, ?_⟩
  rw [smZ_1 _ a (show (131 - a).toNat = (130 - a).toNat + 1 by omega)] at h6
  rw [show (a + 1 - (-a + 1)).toNat = (2 * a).toNat by omega, row_a hd (by omega) h4]; omega
theorem clI_out {M : qM} {qa qb qc : Nat} {d a b n : Int} {L : Nat → Nat → Int} (hd : d ≤ 50000) (h : clI M qa qb qc d a b n L) (h2 : ¬ b ≤ a) : clO M qa qb qc d (a + 1) n L := by
  obtain ⟨⟨⟨h3, h4⟩, h7, h8, h9⟩, h5, h6⟩ := h
  have h10 := rd_sq (a := a) (n := 129) (by decide) h9 (by omega)
  refine ⟨⟨by omega, by omega⟩, h5, ?_⟩
  rw [smZ_e _ b (show (a + 1 - b).toNat = 0 by omega)] at h6
  rw [show (131 - (a + 1)).toNat = (130 - a).toNat by omega]; omega
theorem clI_st {M : qM} {qa qb qc : Nat} {d a b n n' : Int} {L L' : Nat → Nat → Int} (h : clI M qa qb qc d a b n L) (h2 : b ≤ a) (hn : n' = n + fmI d a b) (hL : frM M L' qa qb qc [60]) : clI M qa qb qc d a (b + 1) n' L' := by
  obtain ⟨⟨⟨h3, h4⟩, h7, h8, h9⟩, h5, h6⟩ := h
  refine ⟨⟨⟨h3, h4⟩, by omega, by omega, h9⟩, hL, ?_⟩
  rw [smZ_1 _ b (show (a + 1 - b).toNat = (a + 1 - (b + 1)).toNat + 1 by omega)] at h6
  omega
set_option maxRecDepth 100000 in
set_option maxHeartbeats 4000000 in
theorem l_cls_i {p : Program} {e : Env} {s : State} {m : MethodId} {args : Array Value} {below : List Frame} {meth : Method} {c : Code} (l : Launch) (D : va_G) (cy : Nat → ClassId) (M : qM) (mo qa qb qc qf qt : Nat) (hMO : qMO M mo qa qb qc qf qt) (σ : qS) (hR : RMd σ (mI M) (mL M) mo qa qb qc qf qt) (hW : WF σ) (q0 : sD σ ≠ 0 ∧ sD σ ≤ 50000) (he0 : e_17 σ = 0) (hd : dOk (sD σ)) (a : Int) (G : qG p s m args meth c cX5_classes 8 yX5_classes.cls D cy (qA (mP M) s.heap.size)) (hret : meth.sig.returnType = (some .int)) (Hk : ∀ (n b : Int) (L : Nat → Nat → Int), clI M qa qb qc (sD σ) a b n L → ¬ b ≤ a → qK p l e { frames := 1, cells := 0, slots := 0, locals := 29 } s m args below meth c (MQ below (qQ D cy (mP M) (po5 M mo qa qb qc qf qt (σ) (e_17 σ) (fun v => ∃ z, v = some (.int (qI z)) ∧ (e_17 σ = 0 → z = a_17 σ)))) args s 0 0 (qA (mP M) s.heap.size)) 8 D cy (qA (mP M) s.heap.size) 0 0 161 [(2, .long (qL (a))), (1, .int (qI (n))), (0, .ref mo)] [] (wI M (up2 (mI M) mo 0 (e_17 σ)) L)) : ∀ (w9 : Nat) (b : Int) (n : Int) (L : Nat → Nat → Int), (a + 1 - b).toNat < w9 → clI M qa qb qc (sD σ) a b n L → qK p l e { frames := 1, cells := 0, slots := 0, locals := 29 } s m args below meth c (MQ below (qQ D cy (mP M) (po5 M mo qa qb qc qf qt (σ) (e_17 σ) (fun v => ∃ z, v = some (.int (qI z)) ∧ (e_17 σ = 0 → z = a_17 σ)))) args s 0 0 (qA (mP M) s.heap.size)) 8 D cy (qA (mP M) s.heap.size) 0 0 65 [(4, .long (qL (b))), (2, .long (qL (a))), (1, .int (qI (n))), (0, .ref mo)] [] (wI M (up2 (mI M) mo 0 (e_17 σ)) (L)) := by
  intro w9
  induction w9 with
  | zero => intro b n L h9; exact absurd h9 (Nat.not_lt_zero _)
  | succ w9 ih =>
    intro b n L hm hI
    obtain ⟨hF, ⟨r2, r3, r4, r5, r8⟩, ⟨a2, a3, a4, a5, a8⟩, ⟨n1, n2, n3, n4, n5, n6⟩⟩ := id hMO
    obtain ⟨⟨k1, k6, k7, k9, k10, k11⟩, kF, kV, kC, kG⟩ := id hR
    obtain ⟨u1, u2, u3⟩ := qMO_ne hMO
    have hd7 := hd.1
    have hd8 := hd.2.2
    have k1L : L mo 1 = sD σ := by rw [hI.2.1 mo 1 (fun h9 => h9.1.elim n4 (fun h8 => h8.elim n5 n6))]; exact k1
    have hI1 := hI.1
    obtain ⟨⟨i1, i2⟩, i3, i4, i5⟩ := hI1
    obtain ⟨p1, p2, p3, p4, p5, p6, p7, p8⟩ := cls_rng (d := sD σ) i1 i2 (show -130 ≤ b by omega) (by omega) (by omega) q0.2
    clear i5
    refine q_lload G 0 dX5_classes_65 rfl ?_
    refine q_lload_n G 1 2 dX5_classes_67 rfl rfl ?_
    refine q_lcmp_gt (tgt := 161) G dX5_classes_68 dX5_classes_69 (by decide) (by omega) (by omega) (fun c1 => ?_) (fun c1 => ?_)
    · refine q_lvs [1, 2, 3] rfl ?_
      exact Hk n b L hI (by omega)
    · refine q_lload G 0 dX5_classes_72 rfl ?_
      refine q_lload G 0 dX5_classes_74 rfl ?_
      refine q_lmul G dX5_classes_76 ?_
      refine q_aload_n G 3 0 dX5_classes_77 rfl rfl ?_
      refine q_gt (v := .long (qL (sD σ))) G dX5_classes_78 fl_X5_90 hF (by decide) rfl (by simp [mI, mL, mR, sL, sI, sR, wL, wD, stF, up2, n1, n1.symm, n2, n2.symm, n3, n3.symm, u1, u1.symm, u2, u2.symm, u3, u3.symm, wI, stM, n4, n5, n6, k1L]) ?_
      refine q_ladd G dX5_classes_81 ?_
      refine q_lstore (lv' := [(6, .long (qL ((b * b) + (sD σ)))), (4, .long (qL (b))), (2, .long (qL (a))), (1, .int (qI (n))), (0, .ref mo)]) G dX5_classes_82 (by decide) rfl ?_
      refine q_lload G 0 dX5_classes_84 rfl ?_
      refine q_ldc2 (z := 4) G dX5_classes_86 tw_631 (by decide +kernel) ?_
      refine q_lload_n G 2 2 dX5_classes_89 rfl rfl ?_
      refine q_lmul G dX5_classes_90 ?_
      refine q_lrem G dX5_classes_91 (by omega) (by omega) (by omega) ?_
      refine q_lconst (z := 0) G dX5_classes_92 (by decide +kernel) ?_
      refine q_lcmp_ne (tgt := 152) G dX5_classes_93 dX5_classes_94 (by decide) (by omega) (by omega) (fun c2 => ?_) (fun c2 => ?_)
      · refine q_lload G 1 dX5_classes_152 rfl ?_
        refine q_lconst (z := 1) G dX5_classes_154 (by decide +kernel) ?_
        refine q_ladd G dX5_classes_155 ?_
        refine q_lstore (lv' := [(4, .long (qL (b + 1))), (6, .long (qL ((b * b) + (sD σ)))), (2, .long (qL (a))), (1, .int (qI (n))), (0, .ref mo)]) G dX5_classes_156 (by decide) rfl ?_
        refine q_goto (tgt := 65) G dX5_classes_158 (by decide) ?_
        have hz : fmI (sD σ) a b = 0 := bI_0 (fun h9 => by have h8 := h9.1; rw [← p3] at h8; exact absurd h8 (by assumption))
        refine q_lvs [0, 2, 3, 4] rfl ?_
        exact ih (b + 1) (n) (L) (by omega) (clI_st hI (by omega) (by rw [hz]; omega) (hI.2.1))
      · refine q_aload_n G 4 0 dX5_classes_97 rfl rfl ?_
        refine q_bipush G dX5_classes_98 (by decide +kernel) ?_
        refine q_lload_n G 2 2 dX5_classes_100 rfl rfl ?_
        refine q_lload G 1 dX5_classes_101 rfl ?_
        refine q_lload G 0 dX5_classes_103 rfl ?_
        refine q_ldc2 (z := 4) G dX5_classes_105 tw_631 (by decide +kernel) ?_
        refine q_lload_n G 2 2 dX5_classes_108 rfl rfl ?_
        refine q_lmul G dX5_classes_109 ?_
        refine q_ldiv G dX5_classes_110 (by omega) (by omega) (by omega) ?_
        refine q_callV (As := [.int (qI (60)), .long (qL (a)), .long (qL (b)), .long (qL (((b * b) + (sD σ)).tdiv (4 * a)))]) (rest := []) G dX5_classes_111 cw_X5_35 (c_X5_set l D cy (wI M (up2 (mI M) mo 0 (e_17 σ)) L) mo qa qb qc qf qt hMO 60 a b ((b * b + sD σ).tdiv (4 * a)) (by decide)) hF.1 hF.2 (by decide) rfl rfl rfl (Nat.le_of_ble_eq_true rfl) rfl rfl ⟨Nat.le_of_ble_eq_true rfl, Nat.le_of_ble_eq_true rfl⟩ ⟨by decide, by decide⟩ (fun v9 M9 hq9 => ?_)
        obtain ⟨rfl, e9⟩ := hq9
        refine q_mem e9 ?_
        refine q_st (st2 := []) rfl ?_
        refine q_mem (M2 := wI M (up2 (mI M) mo 0 (e_17 σ)) (stM L qa qb qc 60 a b ((b * b + sD σ) / (4 * a)))) (by rw [p4]; rfl) ?_
        have fr2 : frM M (stM L qa qb qc 60 a b ((b * b + sD σ) / (4 * a))) qa qb qc [60] := frM_st hI.2.1 (by simp) _ _ _
        refine q_aload_n G 4 0 dX5_classes_114 rfl rfl ?_
        refine q_bipush G dX5_classes_115 (by decide +kernel) ?_
        refine q_callV (As := [.int (qI (60))]) (rest := []) G dX5_classes_117 cw_X5_39 (c_X5_isReduced l D cy (wI M (up2 (mI M) mo 0 (e_17 σ)) (stM L qa qb qc 60 a b ((b * b + sD σ) / (4 * a)))) mo qa qb qc qf qt hMO 60 (by decide) (show r63 (stM L qa qb qc 60 a b ((b * b + sD σ) / (4 * a)) qa 60) by rw [stM_a _ _ _ _ n1 n2]; omega) (show r63 (stM L qa qb qc 60 a b ((b * b + sD σ) / (4 * a)) qb 60) by rw [stM_b _ _ _ _ n3]; omega) (show r63 (stM L qa qb qc 60 a b ((b * b + sD σ) / (4 * a)) qc 60) by rw [stM_c]; omega)) hF.1 hF.2 (by decide) rfl rfl rfl (Nat.le_of_ble_eq_true rfl) rfl rfl ⟨Nat.le_of_ble_eq_true rfl, Nat.le_of_ble_eq_true rfl⟩ ⟨by decide, by decide⟩ (fun v9 M9 hq9 => ?_)
        obtain ⟨rfl, e9⟩ := hq9
        refine q_mem e9 ?_
        refine q_st (st2 := [.int (qI (if isRd (stM L qa qb qc 60 a b ((b * b + sD σ) / (4 * a)) qa 60) (stM L qa qb qc 60 a b ((b * b + sD σ) / (4 * a)) qb 60) (stM L qa qb qc 60 a b ((b * b + sD σ) / (4 * a)) qc 60) then 1 else 0))]) rfl ?_
        refine q_if_eq (tgt := 150) G dX5_classes_120 (by decide) (by split <;> omega) (fun c3 => ?_) (fun c3 => ?_)
        · refine q_iload_n G 3 1 dX5_classes_150 rfl rfl ?_
          refine q_istore_n (lv' := [(1, .int (qI (n))), (6, .long (qL ((b * b) + (sD σ)))), (4, .long (qL (b))), (2, .long (qL (a))), (0, .ref mo)]) G 1 dX5_classes_151 rfl (by decide) rfl ?_
          refine q_lload G 2 dX5_classes_152 rfl ?_
          refine q_lconst (z := 1) G dX5_classes_154 (by decide +kernel) ?_
          refine q_ladd G dX5_classes_155 ?_
          refine q_lstore (lv' := [(4, .long (qL (b + 1))), (1, .int (qI (n))), (6, .long (qL ((b * b) + (sD σ)))), (2, .long (qL (a))), (0, .ref mo)]) G dX5_classes_156 (by decide) rfl ?_
          refine q_goto (tgt := 65) G dX5_classes_158 (by decide) ?_
          have hz : fmI (sD σ) a b = 0 := bI_0 (fun h9 => by first | (have h8 := h9.2.2; rw [← gcd_fPr] at h8; omega) | (have h8 := ite0 (by assumption); rw [stM_a _ _ _ _ n1 n2, stM_b _ _ _ _ n3, stM_c] at h8; exact h8 h9.2.1))
          refine q_lvs [0, 3, 1, 4] rfl ?_
          exact ih (b + 1) (n) (stM L qa qb qc 60 a b ((b * b + sD σ) / (4 * a))) (by omega) (clI_st hI (by omega) (by rw [hz]; omega) (fr2))
        · refine q_lload_n G 2 2 dX5_classes_123 rfl rfl ?_
          refine q_lload G 1 dX5_classes_124 rfl ?_
          refine q_callS (As := [.long (qL (a)), .long (qL (b))]) (rest := []) G dX5_classes_126 cw_X5_48 (c_X5_divisor l D cy (wI M (up2 (mI M) mo 0 (e_17 σ)) (stM L qa qb qc 60 a b ((b * b + sD σ) / (4 * a)))) a b (by omega) (by omega)) rfl rfl (Nat.le_of_ble_eq_true rfl) rfl rfl ⟨Nat.le_of_ble_eq_true rfl, Nat.le_of_ble_eq_true rfl⟩ ⟨by decide, by decide⟩ (fun v9 M9 hq9 => ?_)
          obtain ⟨rfl, e9⟩ := hq9
          refine q_mem e9 ?_
          refine q_st (st2 := [.long (qL ((Int.gcd a b : Int)))]) rfl ?_
          have hg1 := gcd_r (x := a) (y := b) (N := 200) (by omega) (by omega) (by omega) (by omega)
          refine q_aload_n G 4 0 dX5_classes_129 rfl rfl ?_
          refine q_gt (v := .ref qc) G dX5_classes_130 fl_X5_16 hF (by decide) rfl (congrArg va_rf r4) ?_
          refine q_bipush G dX5_classes_133 (by decide +kernel) ?_
          refine q_laload G dX5_classes_135 a4.1 a4.2.1 (by first | assumption | omega) (show (60) < ((mN M qc : Nat) : Int) by rw [a4.2.2]; omega) (show mN M qc < 2147483648 by rw [a4.2.2]; decide) ?_
          refine q_topL (z2 := (b * b + sD σ) / (4 * a)) (stM_c _ _ _ _) ?_
          refine q_callS (As := [.long (qL ((Int.gcd a b : Int))), .long (qL ((b * b + sD σ) / (4 * a)))]) (rest := []) G dX5_classes_136 cw_X5_48 (c_X5_divisor l D cy (wI M (up2 (mI M) mo 0 (e_17 σ)) (stM L qa qb qc 60 a b ((b * b + sD σ) / (4 * a)))) (Int.gcd a b : Int) ((b * b + sD σ) / (4 * a)) (by omega) (by omega)) rfl rfl (Nat.le_of_ble_eq_true rfl) rfl rfl ⟨Nat.le_of_ble_eq_true rfl, Nat.le_of_ble_eq_true rfl⟩ ⟨by decide, by decide⟩ (fun v9 M9 hq9 => ?_)
          obtain ⟨rfl, e9⟩ := hq9
          refine q_mem e9 ?_
          refine q_st (st2 := [.long (qL ((Int.gcd (Int.gcd a b : Int) ((b * b + sD σ) / (4 * a)) : Int)))]) rfl ?_
          have hg2 := gcd_r (x := (Int.gcd a b : Int)) (y := (b * b + sD σ) / (4 * a)) (N := 70000) (by omega) (by omega) (by omega) (by omega)
          refine q_lconst (z := 1) G dX5_classes_139 (by decide +kernel) ?_
          refine q_lcmp_ne (tgt := 150) G dX5_classes_140 dX5_classes_141 (by decide) (by omega) (by omega) (fun c4 => ?_) (fun c4 => ?_)
          · refine q_iload_n G 3 1 dX5_classes_150 rfl rfl ?_
            refine q_istore_n (lv' := [(1, .int (qI (n))), (6, .long (qL ((b * b) + (sD σ)))), (4, .long (qL (b))), (2, .long (qL (a))), (0, .ref mo)]) G 1 dX5_classes_151 rfl (by decide) rfl ?_
            refine q_lload G 2 dX5_classes_152 rfl ?_
            refine q_lconst (z := 1) G dX5_classes_154 (by decide +kernel) ?_
            refine q_ladd G dX5_classes_155 ?_
            refine q_lstore (lv' := [(4, .long (qL (b + 1))), (1, .int (qI (n))), (6, .long (qL ((b * b) + (sD σ)))), (2, .long (qL (a))), (0, .ref mo)]) G dX5_classes_156 (by decide) rfl ?_
            refine q_goto (tgt := 65) G dX5_classes_158 (by decide) ?_
            have hz : fmI (sD σ) a b = 0 := bI_0 (fun h9 => by first | (have h8 := h9.2.2; rw [← gcd_fPr] at h8; omega) | (have h8 := ite0 (by assumption); rw [stM_a _ _ _ _ n1 n2, stM_b _ _ _ _ n3, stM_c] at h8; exact h8 h9.2.1))
            refine q_lvs [0, 3, 1, 4] rfl ?_
            exact ih (b + 1) (n) (stM L qa qb qc 60 a b ((b * b + sD σ) / (4 * a))) (by omega) (clI_st hI (by omega) (by rw [hz]; omega) (fr2))
          · refine q_iload_n G 3 1 dX5_classes_144 rfl rfl ?_
            refine q_iconst G dX5_classes_145 ?_
            refine q_iadd G dX5_classes_146 ?_
            refine q_goto (tgt := 151) G dX5_classes_147 (by decide) ?_
            refine q_istore_n (lv' := [(1, .int (qI (n + 1))), (6, .long (qL ((b * b) + (sD σ)))), (4, .long (qL (b))), (2, .long (qL (a))), (0, .ref mo)]) G 1 dX5_classes_151 rfl (by decide) rfl ?_
            refine q_lload G 2 dX5_classes_152 rfl ?_
            refine q_lconst (z := 1) G dX5_classes_154 (by decide +kernel) ?_
            refine q_ladd G dX5_classes_155 ?_
            refine q_lstore (lv' := [(4, .long (qL (b + 1))), (1, .int (qI (n + 1))), (6, .long (qL ((b * b) + (sD σ)))), (2, .long (qL (a))), (0, .ref mo)]) G dX5_classes_156 (by decide) rfl ?_
            refine q_goto (tgt := 65) G dX5_classes_158 (by decide) ?_
            have hz : fmI (sD σ) a b = 1 := bI_1 ⟨by rw [← p3]; assumption, by have h8 := ite1 (by assumption); rw [stM_a _ _ _ _ n1 n2, stM_b _ _ _ _ n3, stM_c] at h8; exact h8, by rw [← gcd_fPr]; omega⟩
            refine q_lvs [0, 3, 1, 4] rfl ?_
            exact ih (b + 1) (n + 1) (stM L qa qb qc 60 a b ((b * b + sD σ) / (4 * a))) (by omega) (clI_st hI (by omega) (by rw [hz]) (fr2))
set_option maxRecDepth 100000 in
set_option maxHeartbeats 4000000 in
theorem l_cls_o {p : Program} {e : Env} {s : State} {m : MethodId} {args : Array Value} {below : List Frame} {meth : Method} {c : Code} (l : Launch) (D : va_G) (cy : Nat → ClassId) (M : qM) (mo qa qb qc qf qt : Nat) (hMO : qMO M mo qa qb qc qf qt) (σ : qS) (hR : RMd σ (mI M) (mL M) mo qa qb qc qf qt) (hW : WF σ) (q0 : sD σ ≠ 0 ∧ sD σ ≤ 50000) (he0 : e_17 σ = 0) (hd : dOk (sD σ)) (G : qG p s m args meth c cX5_classes 8 yX5_classes.cls D cy (qA (mP M) s.heap.size)) (hret : meth.sig.returnType = (some .int)) : ∀ (w9 : Nat) (a : Int) (n : Int) (L : Nat → Nat → Int), (131 - a).toNat < w9 → clO M qa qb qc (sD σ) a n L → qK p l e { frames := 1, cells := 0, slots := 0, locals := 29 } s m args below meth c (MQ below (qQ D cy (mP M) (po5 M mo qa qb qc qf qt (σ) (e_17 σ) (fun v => ∃ z, v = some (.int (qI z)) ∧ (e_17 σ = 0 → z = a_17 σ)))) args s 0 0 (qA (mP M) s.heap.size)) 8 D cy (qA (mP M) s.heap.size) 0 0 44 [(2, .long (qL (a))), (1, .int (qI (n))), (0, .ref mo)] [] (wI M (up2 (mI M) mo 0 (e_17 σ)) (L)) := by
  intro w9
  induction w9 with
  | zero => intro a n L h9; exact absurd h9 (Nat.not_lt_zero _)
  | succ w9 ih =>
    intro a n L hm hI
    obtain ⟨hF, ⟨r2, r3, r4, r5, r8⟩, ⟨a2, a3, a4, a5, a8⟩, ⟨n1, n2, n3, n4, n5, n6⟩⟩ := id hMO
    obtain ⟨⟨k1, k6, k7, k9, k10, k11⟩, kF, kV, kC, kG⟩ := id hR
    obtain ⟨u1, u2, u3⟩ := qMO_ne hMO
    have hd7 := hd.1
    have hd8 := hd.2.2
    have k1L : L mo 1 = sD σ := by rw [hI.2.1 mo 1 (fun h9 => h9.1.elim n4 (fun h8 => h8.elim n5 n6))]; exact k1
    have htr := tri (a := a)
    have hsq := sq_le (x := a) (n := 131) (by have := hI.1; omega) (by have := hI.1; omega)
    have hsq0 := sq_nn a
    have i1 := hI.1.1
    have i2 := hI.1.2
    have ih2 : ∀ (n : Int) (L : Nat → Nat → Int), clO M qa qb qc (sD σ) (a + 1) n L → qK p l e { frames := 1, cells := 0, slots := 0, locals := 29 } s m args below meth c (MQ below (qQ D cy (mP M) (po5 M mo qa qb qc qf qt (σ) (e_17 σ) (fun v => ∃ z, v = some (.int (qI z)) ∧ (e_17 σ = 0 → z = a_17 σ)))) args s 0 0 (qA (mP M) s.heap.size)) 8 D cy (qA (mP M) s.heap.size) 0 0 161 [(2, .long (qL (a))), (1, .int (qI (n))), (0, .ref mo)] [] (wI M (up2 (mI M) mo 0 (e_17 σ)) L) := by
      intro n L h7
      refine q_lload_n G 0 2 dX5_classes_161 rfl rfl ?_
      refine q_lconst (z := 1) G dX5_classes_162 (by decide +kernel) ?_
      refine q_ladd G dX5_classes_163 ?_
      refine q_lstore_n (lv' := [(2, .long (qL (a + 1))), (1, .int (qI (n))), (0, .ref mo)]) G 2 dX5_classes_164 rfl (by decide) rfl ?_
      refine q_goto (tgt := 44) G dX5_classes_165 (by decide) ?_
      refine q_lvs [0, 1, 2] rfl ?_
      exact ih (a + 1) n L (by have := h7.1; omega) h7
    refine q_ldc2 (z := 3) G dX5_classes_44 tw_793 (by decide +kernel) ?_
    refine q_lload_n G 0 2 dX5_classes_47 rfl rfl ?_
    refine q_lmul G dX5_classes_48 ?_
    refine q_lload_n G 0 2 dX5_classes_49 rfl rfl ?_
    refine q_lmul G dX5_classes_50 ?_
    refine q_aload_n G 2 0 dX5_classes_51 rfl rfl ?_
    refine q_gt (v := .long (qL (sD σ))) G dX5_classes_52 fl_X5_90 hF (by decide) rfl (by simp [mI, mL, mR, sL, sI, sR, wL, wD, stF, up2, n1, n1.symm, n2, n2.symm, n3, n3.symm, u1, u1.symm, u2, u2.symm, u3, u3.symm, wI, stM, n4, n5, n6, k1L]) ?_
    refine q_lcmp_gt (tgt := 168) G dX5_classes_55 dX5_classes_56 (by decide) (by omega) (by omega) (fun c1 => ?_) (fun c1 => ?_)
    · refine q_iload_n G 1 1 dX5_classes_168 rfl rfl ?_
      exact q_iret G dX5_classes_169 hret (by omega) (by omega) (⟨up2 (mI M) mo 0 (e_17 σ), L, rfl, frR_L (M := M) (frR_I (frR_rf _ _ _ _ _ _ _ _) mo 0 _ (Or.inl rfl)) rfl hI.2.1, up2_s _ _ _ _, RM_G (M := M) (RM_0 hR _ u1 u2) n4 n5 n6 hI.2.1 (by intro y hy; simp at hy; omega), ⟨_, rfl, fun _ => by have h6 := hI.2.2; rw [cnt_out i1 (by omega)] at h6; unfold a_17; omega⟩⟩)
    · refine q_lload_n G 0 2 dX5_classes_59 rfl rfl ?_
      refine q_lneg G dX5_classes_60 ?_
      refine q_lconst (z := 1) G dX5_classes_61 (by decide +kernel) ?_
      refine q_ladd G dX5_classes_62 ?_
      refine q_lstore (lv' := [(4, .long (qL ((-a) + 1))), (2, .long (qL (a))), (1, .int (qI (n))), (0, .ref mo)]) G dX5_classes_63 (by decide) rfl ?_
      refine q_lvs [0, 1, 2, 3] rfl ?_
      refine l_cls_i l D cy M mo qa qb qc qf qt hMO σ hR hW q0 he0 hd a G hret ?_ _ (-a + 1) n L (Nat.lt_succ_self _) (clI_in hd.2.2 hI (by omega))
      intro n b L hI2 hb2
      exact ih2 n L (clI_out q0.2 hI2 hb2)
set_option maxRecDepth 100000 in
set_option maxHeartbeats 4000000 in
theorem j_X5_classes {p : Program} {e : Env} {s : State} {m : MethodId} {args : Array Value} {below : List Frame} {meth : Method} {c : Code} (l : Launch) (D : va_G) (cy : Nat → ClassId) (M : qM) (mo qa qb qc qf qt : Nat) (hMO : qMO M mo qa qb qc qf qt) (σ : qS) (hR : RMd σ (mI M) (mL M) mo qa qb qc qf qt) (hW : WF σ) (G : qG p s m args meth c cX5_classes 8 yX5_classes.cls D cy (qA (mP M) s.heap.size)) (hret : meth.sig.returnType = (some .int)) : qK p l e { frames := 1, cells := 0, slots := 0, locals := 29 } s m args below meth c (MQ below (qQ D cy (mP M) (po5 M mo qa qb qc qf qt (σ) (e_17 σ) (fun v => ∃ z, v = some (.int (qI z)) ∧ (e_17 σ = 0 → z = a_17 σ)))) args s 0 0 (qA (mP M) s.heap.size)) 8 D cy (qA (mP M) s.heap.size) 0 0 28 [(0, .ref mo)] [.int (qI (e_17 σ)), .ref mo] (M) := by
  obtain ⟨hF, ⟨r2, r3, r4, r5, r8⟩, ⟨a2, a3, a4, a5, a8⟩, ⟨n1, n2, n3, n4, n5, n6⟩⟩ := id hMO
  obtain ⟨⟨k1, k6, k7, k9, k10, k11⟩, kF, kV, kC, kG⟩ := id hR
  obtain ⟨u1, u2, u3⟩ := qMO_ne hMO
  obtain ⟨w1, w2, w3⟩ := WF_n hW
  refine q_pI (z := e_17 σ) G dX5_classes_28 (pl_X5_27 _) nf_5_0 hF (by decide) (Nat.le_of_ble_eq_true rfl) (fs_5_0 _ _ _) ?_
  refine q_aload_n G 0 0 dX5_classes_31 rfl rfl ?_
  refine q_gt (v := .int (qI (e_17 σ))) G dX5_classes_32 fl_X5_27 hF (by decide) rfl (by simp [mI, mL, mR, sL, sI, sR, wL, wD, stF, up2, n1, n1.symm, n2, n2.symm, n3, n3.symm, u1, u1.symm, u2, u2.symm, u3, u3.symm]) ?_
  refine q_if_le (tgt := 40) G dX5_classes_35 (by decide) (by unfold e_17; omega) (fun c1 => ?_) (fun c1 => ?_)
  · have q0 : sD σ ≠ 0 ∧ sD σ ≤ 50000 := by unfold e_17 at c1; omega
    have he0 : e_17 σ = 0 := by have : 0 ≤ e_17 σ := (by unfold e_17; omega); omega
    have hd : dOk (sD σ) := by rcases hW.1 with h9 | h9; exact absurd h9 q0.1; exact h9
    have hd7 := hd.1
    refine q_iconst G dX5_classes_40 ?_
    refine q_istore_n (lv' := [(1, .int (qI (0))), (0, .ref mo)]) G 1 dX5_classes_41 rfl (by decide) rfl ?_
    refine q_lconst (z := 1) G dX5_classes_42 (by decide +kernel) ?_
    refine q_lstore_n (lv' := [(2, .long (qL (1))), (1, .int (qI (0))), (0, .ref mo)]) G 2 dX5_classes_43 rfl (by decide) rfl ?_
    refine q_lvs [0, 1, 2] rfl ?_
    exact l_cls_o l D cy M mo qa qb qc qf qt hMO σ hR hW q0 he0 hd G hret _ 1 0 (mL M) (Nat.lt_succ_self _) ⟨by decide, frM_rf M qa qb qc _, by rw [cnt_a, show (131 - 1 : Int).toNat = 130 from rfl]; omega⟩
  · refine q_iconst G dX5_classes_38 ?_
    exact q_iret G dX5_classes_39 hret (by omega) (by omega) (⟨up2 (mI M) mo 0 (e_17 σ), mL M, rfl, frR_I (frR_rf _ _ _ _ _ _ _ _) mo 0 _ (Or.inl rfl), up2_s _ _ _ _, RM_0 hR _ u1 u2, ⟨_, rfl, fun h9 => absurd h9 (by omega)⟩⟩)
set_option maxRecDepth 100000 in
set_option maxHeartbeats 4000000 in
theorem c_X5_classes (l : Launch) (D : va_G) (cy : Nat → ClassId) (M : qM) (mo qa qb qc qf qt : Nat) (hMO : qMO M mo qa qb qc qf qt) (σ : qS) (hR : RMd σ (mI M) (mL M) mo qa qb qc qf qt) (hW : WF σ) : qCt l D cy yX5_classes cX5_classes 8 (some .int) { frames := 1, cells := 0, slots := 0, locals := 29 } 0 0 [.ref mo] M (po5 M mo qa qb qc qf qt (σ) (e_17 σ) (fun v => ∃ z, v = some (.int (qI z)) ∧ (e_17 σ = 0 → z = a_17 σ))) := by
  refine qCt_of (lv0 := [(0, .ref mo)]) (by decide) rfl (Nat.le_of_ble_eq_true rfl) ?_
  intro p e s m args below meth c G hname hret
  obtain ⟨hF, ⟨r2, r3, r4, r5, r8⟩, ⟨a2, a3, a4, a5, a8⟩, ⟨n1, n2, n3, n4, n5, n6⟩⟩ := id hMO
  obtain ⟨⟨k1, k6, k7, k9, k10, k11⟩, kF, kV, kC, kG⟩ := id hR
  obtain ⟨u1, u2, u3⟩ := qMO_ne hMO
  obtain ⟨w1, w2, w3⟩ := WF_n hW
  refine q_aload_n G 0 0 dX5_classes_0 rfl rfl ?_
  refine q_aload_n G 0 0 dX5_classes_1 rfl rfl ?_
  refine q_callV (As := []) (rest := [.ref mo]) G dX5_classes_2 cw_X5_101 (c_X5_isAny l D cy M mo qa qb qc qf qt hMO (by omega)) hF.1 hF.2 (by decide) rfl rfl rfl (Nat.le_of_ble_eq_true rfl) rfl rfl ⟨Nat.le_of_ble_eq_true rfl, Nat.le_of_ble_eq_true rfl⟩ ⟨by decide, by decide⟩ (fun v9 M9 hq9 => ?_)
  obtain ⟨rfl, e9⟩ := hq9
  refine q_mem e9 ?_
  refine q_st (st2 := [.int (qI (if 0 < mL M mo 1 then 1 else 0)), .ref mo]) rfl ?_
  refine q_if_ne (tgt := 12) G dX5_classes_5 (by decide) (by first | assumption | omega) (fun c1 => ?_) (fun c1 => ?_)
  · refine q_aload_n G 0 0 dX5_classes_12 rfl rfl ?_
    refine q_gt (v := .long (qL (mL M mo 1))) G dX5_classes_13 fl_X5_90 hF (by decide) rfl rfl ?_
    refine q_ldc2 (z := 50000) G dX5_classes_16 tw_792 (by decide +kernel) ?_
    refine q_lcmp_le (tgt := 27) G dX5_classes_19 dX5_classes_20 (by decide) (by omega) (by omega) (fun c2 => ?_) (fun c2 => ?_)
    · refine q_iconst G dX5_classes_27 ?_
      refine q_topI (z2 := e_17 σ) (by unfold e_17; omega) ?_
      refine q_lvs [0] rfl ?_
      exact j_X5_classes l D cy M mo qa qb qc qf qt hMO σ hR hW  G hret
    · refine q_iconst G dX5_classes_23 ?_
      refine q_goto (tgt := 28) G dX5_classes_24 (by decide) ?_
      refine q_topI (z2 := e_17 σ) (by unfold e_17; omega) ?_
      refine q_lvs [0] rfl ?_
      exact j_X5_classes l D cy M mo qa qb qc qf qt hMO σ hR hW  G hret
  · refine q_iconst G dX5_classes_8 ?_
    refine q_goto (tgt := 28) G dX5_classes_9 (by decide) ?_
    refine q_topI (z2 := e_17 σ) (by unfold e_17; omega) ?_
    refine q_lvs [0] rfl ?_
    exact j_X5_classes l D cy M mo qa qb qc qf qt hMO σ hR hW  G hret
