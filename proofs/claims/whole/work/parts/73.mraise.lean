def po_raise5 (M : qM) (qa qb qc : Nat) (d : Int) (k : Nat) (t : qT3) : Option Value → qM → Prop := fun v M' => v = none ∧ ∃ L, M' = wL M L ∧ frM M L qa qb qc [58, 59, 56, 57, k] ∧ gM L qa qb qc k = t ∧ gd d t
def raI (M : qM) (qa qb qc : Nat) (d : Int) (t : qT3) (bits : Int) (L : Nat → Nat → Int) (k : Nat) : Prop := (0 ≤ bits ∧ bits < 2147483648 ∧ bits < 2 ^ k ∧ k ≤ 31) ∧ frM M L qa qb qc [58, 59, 56, 57] ∧ gd d (gM L qa qb qc 57) ∧ gd d (gM L qa qb qc 56) ∧ pwN (k + 1) bits.toNat (gM L qa qb qc 57) (gM L qa qb qc 56) = t
theorem raI_k {M : qM} {qa qb qc : Nat} {d : Int} {t : qT3} {bits : Int} {L : Nat → Nat → Int} {k : Nat} (h : raI M qa qb qc d t bits L k) (h0 : 0 < bits) : ∃ j, k = j + 1 ∧ bits / 2 < 2 ^ j := by
  obtain ⟨⟨h1, h2, h3, h4⟩, -⟩ := h
  have : k ≠ 0 := by
    rintro rfl
    rw [Int.pow_zero] at h3; omega
  obtain ⟨j, rfl⟩ : ∃ j, k = j + 1 := ⟨k - 1, by omega⟩
  refine ⟨j, rfl, ?_⟩
  rw [Int.pow_succ] at h3
  generalize (2 : Int) ^ j = w at h3 ⊢
  omega
theorem pwN_0 (k : Nat) (b s : qT3) : pwN k 0 b s = s := by
  cases k with
  | zero => rfl
  | succ k => unfold pwN; rw [if_pos rfl]
theorem pwN_s {k n : Nat} (b s : qT3) (h : n ≠ 0) : pwN (k + 1) n b s = pwN k (n / 2) (mulT b b) (if n % 2 = 1 then mulT s b else s) := by
  rw [pwN, if_neg h]
set_option maxRecDepth 100000 in
set_option maxHeartbeats 4000000 in
theorem l_raise5 {p : Program} {e : Env} {s : State} {m : MethodId} {args : Array Value} {below : List Frame} {meth : Method} {c : Code} (l : Launch) (D : va_G) (cy : Nat → ClassId) (M : qM) (mo qa qb qc qf qt : Nat) (hMO : qMO M mo qa qb qc qf qt) (d : Int) (hd : dOk d) (k : Int) (hk : 0 ≤ k ∧ k < 64) (t : qT3) (G : qG p s m args meth c cX5_raiseTo 5 yX5_raiseTo.cls D cy (qA (mP M) s.heap.size)) (hret : meth.sig.returnType = none) : ∀ (w9 : Nat) (bits : Int) (L : Nat → Nat → Int) (kk : Nat), bits.toNat < w9 → raI M qa qb qc d t bits L kk → qK p l e { frames := 4, cells := 0, slots := 0, locals := 135 } s m args below meth c (MQ below (qQ D cy (mP M) (po_raise5 M qa qb qc d k.toNat t)) args s 0 0 (qA (mP M) s.heap.size)) 5 D cy (qA (mP M) s.heap.size) 0 0 24 [(4, .int (qI (bits))), (3, .int (qI (k))), (0, .ref mo)] [] (wL M L) := by
  intro w9
  induction w9 with
  | zero => intro bits L kk h9; exact absurd h9 (Nat.not_lt_zero _)
  | succ w9 ih =>
    intro bits L kk hm hI
    obtain ⟨hF, ⟨r2, r3, r4, r5, r8⟩, ⟨a2, a3, a4, a5, a8⟩, ⟨n1, n2, n3, n4, n5, n6⟩⟩ := id hMO
    have hb1 : bits < 2147483648 := hI.1.2.1
    have hk1 : kk ≤ 31 := hI.1.2.2.2
    refine q_iload G 0 dX5_raiseTo_24 rfl ?_
    refine q_if_le (tgt := 71) G dX5_raiseTo_26 (by decide) (by have := hI.1.1; omega) (fun c1 => ?_) (fun c1 => ?_)
    · refine q_aload_n G 2 0 dX5_raiseTo_71 rfl rfl ?_
      refine q_bipush G dX5_raiseTo_72 (by decide +kernel) ?_
      refine q_iload_n G 1 3 dX5_raiseTo_74 rfl rfl ?_
      refine q_callV (As := [.int (qI (56)), .int (qI (k))]) (rest := []) G dX5_raiseTo_75 cw_X5_62 (c_X5_copy l D cy (wL M L) mo qa qb qc qf qt hMO 56 k (by decide) hk) hF.1 hF.2 (by decide) rfl rfl rfl (Nat.le_of_ble_eq_true rfl) rfl rfl ⟨Nat.le_of_ble_eq_true rfl, Nat.le_of_ble_eq_true rfl⟩ ⟨by decide, by decide⟩ (fun v9 M9 hq9 => ?_)
      obtain ⟨rfl, e9⟩ := hq9
      refine q_mem e9 ?_
      refine q_st (st2 := []) rfl ?_
      refine q_mem (M2 := wL M (stM L qa qb qc k.toNat (L qa 56) (L qb 56) (L qc 56))) rfl ?_
      exact q_vret G dX5_raiseTo_78 hret (by omega) (by omega) (⟨rfl, _, rfl, frM_st (frM_w hI.2.1 (by intro x hx; simp at hx ⊢; omega)) (by simp) _ _ _, by rw [gM_s _ _ _ _ n1 n2 n3]; have h6 := hI.2.2.2.2; rw [show bits.toNat = 0 by omega, pwN_0] at h6; exact h6, by have h6 := hI.2.2.2.2; rw [show bits.toNat = 0 by omega, pwN_0] at h6; rw [← h6]; exact hI.2.2.2.1⟩)
    · obtain ⟨j1, rfl, hj⟩ := raI_k hI c1
      have h6 := hI.2.2.2.2
      rw [pwN_s _ _ (show bits.toNat ≠ 0 by clear hj h6; omega), show bits.toNat / 2 = (bits / 2).toNat by clear hj h6; omega] at h6
      refine q_iload G 0 dX5_raiseTo_29 rfl ?_
      refine q_iconst G dX5_raiseTo_31 ?_
      refine q_irem G dX5_raiseTo_32 (by clear hj h6; omega) (by clear hj h6; omega) (by clear hj h6; omega) ?_
      refine q_topI (z2 := bits % 2) (Int.tmod_eq_emod_of_nonneg (by clear hj h6; omega)) ?_
      refine q_iconst G dX5_raiseTo_33 ?_
      refine q_icmp_ne (tgt := 47) G dX5_raiseTo_34 (by decide) (by clear hj h6; omega) (by clear hj h6; omega) (fun c2 => ?_) (fun c2 => ?_)
      · refine q_iload G 0 dX5_raiseTo_47 rfl ?_
        refine q_iconst G dX5_raiseTo_49 ?_
        refine q_idiv G dX5_raiseTo_50 (by clear hj h6; omega) (by clear hj h6; omega) (by clear hj h6; omega) ?_
        refine q_topI (z2 := bits / 2) (Int.tdiv_eq_ediv_of_nonneg (by clear hj h6; omega)) ?_
        refine q_istore (lv' := [(4, .int (qI (bits / 2))), (3, .int (qI (k))), (0, .ref mo)]) G dX5_raiseTo_51 (by decide) rfl ?_
        refine q_iload G 0 dX5_raiseTo_53 rfl ?_
        refine q_if_le (tgt := 24) G dX5_raiseTo_55 (by decide) (by clear hj h6; omega) (fun c3 => ?_) (fun c3 => ?_)
        · refine q_lvs [0, 1, 2] rfl ?_
          exact ih (bits / 2) L j1 (by clear hj h6; omega) ⟨⟨by clear hj h6; omega, by clear hj h6; omega, hj, by clear hj h6; omega⟩, hI.2.1, hI.2.2.1, hI.2.2.2.1, (by rw [if_neg (show ¬ bits.toNat % 2 = 1 by clear hj h6; omega)] at h6; rw [show (bits / 2).toNat = 0 by clear hj h6; omega, pwN_0] at h6; rw [show (bits / 2).toNat = 0 by clear hj h6; omega, pwN_0]; exact h6)⟩
        · refine q_aload_n G 2 0 dX5_raiseTo_58 rfl rfl ?_
          refine q_bipush G dX5_raiseTo_59 (by decide +kernel) ?_
          refine q_bipush G dX5_raiseTo_61 (by decide +kernel) ?_
          refine q_bipush G dX5_raiseTo_63 (by decide +kernel) ?_
          refine q_callV (As := [.int (qI (57)), .int (qI (57)), .int (qI (57))]) (rest := []) G dX5_raiseTo_65 cw_X5_69 (c_X5_times l D cy (wL M L) mo qa qb qc qf qt hMO d hd 57 57 57 (by decide) (by decide) (by decide) (by decide) hI.2.2.1 hI.2.2.1) hF.1 hF.2 (by decide) rfl rfl rfl (Nat.le_of_ble_eq_true rfl) rfl rfl ⟨Nat.le_of_ble_eq_true rfl, Nat.le_of_ble_eq_true rfl⟩ ⟨by decide, by decide⟩ (fun v9 M9 hq9 => ?_)
          obtain ⟨rfl, L2, e9, fr2, v2, g2, d2⟩ := hq9
          refine q_st (st2 := []) rfl ?_
          refine q_mem (M2 := wL M L2) e9 ?_
          have fm2 : frM M L2 qa qb qc [58, 59, 56, 57] := frM_c hI.2.1 (frM_w fr2 (by intro x hx; simp at hx ⊢; omega))
          have hs2 : gM L2 qa qb qc 56 = gM L qa qb qc 56 := frM_g fr2 (by simp)
          have hb2 : gM L2 qa qb qc 57 = mulT (gM L qa qb qc 57) (gM L qa qb qc 57) := v2.trans (by rfl)
          refine q_goto (tgt := 24) G dX5_raiseTo_68 (by decide) ?_
          refine q_lvs [0, 1, 2] rfl ?_
          exact ih (bits / 2) L2 j1 (by clear hj h6; omega) ⟨⟨by clear hj h6; omega, by clear hj h6; omega, hj, by clear hj h6; omega⟩, fm2, g2, (by rw [hs2]; exact hI.2.2.2.1), (by rw [if_neg (show ¬ bits.toNat % 2 = 1 by clear hj h6; omega)] at h6; rw [hb2, hs2]; exact h6)⟩
      · refine q_aload_n G 2 0 dX5_raiseTo_37 rfl rfl ?_
        refine q_bipush G dX5_raiseTo_38 (by decide +kernel) ?_
        refine q_bipush G dX5_raiseTo_40 (by decide +kernel) ?_
        refine q_bipush G dX5_raiseTo_42 (by decide +kernel) ?_
        refine q_callV (As := [.int (qI (56)), .int (qI (57)), .int (qI (56))]) (rest := []) G dX5_raiseTo_44 cw_X5_69 (c_X5_times l D cy (wL M L) mo qa qb qc qf qt hMO d hd 56 57 56 (by decide) (by decide) (by decide) (by decide) hI.2.2.2.1 hI.2.2.1) hF.1 hF.2 (by decide) rfl rfl rfl (Nat.le_of_ble_eq_true rfl) rfl rfl ⟨Nat.le_of_ble_eq_true rfl, Nat.le_of_ble_eq_true rfl⟩ ⟨by decide, by decide⟩ (fun v9 M9 hq9 => ?_)
        obtain ⟨rfl, L1, e9, fr1, v1, g1, d1⟩ := hq9
        refine q_st (st2 := []) rfl ?_
        refine q_mem (M2 := wL M L1) e9 ?_
        have fm1 : frM M L1 qa qb qc [58, 59, 56, 57] := frM_c hI.2.1 (frM_w fr1 (by intro x hx; simp at hx ⊢; omega))
        have hb1 : gM L1 qa qb qc 57 = gM L qa qb qc 57 := frM_g fr1 (by simp)
        have v1b : gM L1 qa qb qc 56 = mulT (gM L qa qb qc 56) (gM L qa qb qc 57) := v1
        refine q_iload G 0 dX5_raiseTo_47 rfl ?_
        refine q_iconst G dX5_raiseTo_49 ?_
        refine q_idiv G dX5_raiseTo_50 (by clear hj h6; omega) (by clear hj h6; omega) (by clear hj h6; omega) ?_
        refine q_topI (z2 := bits / 2) (Int.tdiv_eq_ediv_of_nonneg (by clear hj h6; omega)) ?_
        refine q_istore (lv' := [(4, .int (qI (bits / 2))), (3, .int (qI (k))), (0, .ref mo)]) G dX5_raiseTo_51 (by decide) rfl ?_
        refine q_iload G 0 dX5_raiseTo_53 rfl ?_
        refine q_if_le (tgt := 24) G dX5_raiseTo_55 (by decide) (by clear hj h6; omega) (fun c4 => ?_) (fun c4 => ?_)
        · refine q_lvs [0, 1, 2] rfl ?_
          exact ih (bits / 2) L1 j1 (by clear hj h6; omega) ⟨⟨by clear hj h6; omega, by clear hj h6; omega, hj, by clear hj h6; omega⟩, fm1, (by rw [hb1]; exact hI.2.2.1), g1, (by rw [if_pos (show bits.toNat % 2 = 1 by clear hj h6; omega)] at h6; rw [show (bits / 2).toNat = 0 by clear hj h6; omega, pwN_0] at h6; rw [show (bits / 2).toNat = 0 by clear hj h6; omega, pwN_0, v1b]; exact h6)⟩
        · refine q_aload_n G 2 0 dX5_raiseTo_58 rfl rfl ?_
          refine q_bipush G dX5_raiseTo_59 (by decide +kernel) ?_
          refine q_bipush G dX5_raiseTo_61 (by decide +kernel) ?_
          refine q_bipush G dX5_raiseTo_63 (by decide +kernel) ?_
          refine q_callV (As := [.int (qI (57)), .int (qI (57)), .int (qI (57))]) (rest := []) G dX5_raiseTo_65 cw_X5_69 (c_X5_times l D cy (wL M L1) mo qa qb qc qf qt hMO d hd 57 57 57 (by decide) (by decide) (by decide) (by decide) (show gd d (gM L1 qa qb qc 57) by rw [hb1]; exact hI.2.2.1) (show gd d (gM L1 qa qb qc 57) by rw [hb1]; exact hI.2.2.1)) hF.1 hF.2 (by decide) rfl rfl rfl (Nat.le_of_ble_eq_true rfl) rfl rfl ⟨Nat.le_of_ble_eq_true rfl, Nat.le_of_ble_eq_true rfl⟩ ⟨by decide, by decide⟩ (fun v9 M9 hq9 => ?_)
          obtain ⟨rfl, L2, e9, fr2, v2, g2, d2⟩ := hq9
          refine q_st (st2 := []) rfl ?_
          refine q_mem (M2 := wL M L2) e9 ?_
          have fm2 : frM M L2 qa qb qc [58, 59, 56, 57] := frM_c fm1 (frM_w fr2 (by intro x hx; simp at hx ⊢; omega))
          have hs2 : gM L2 qa qb qc 56 = gM L1 qa qb qc 56 := frM_g fr2 (by simp)
          have hb2 : gM L2 qa qb qc 57 = mulT (gM L qa qb qc 57) (gM L qa qb qc 57) := v2.trans (by show mulT (gM L1 qa qb qc 57) (gM L1 qa qb qc 57) = _; rw [hb1])
          refine q_goto (tgt := 24) G dX5_raiseTo_68 (by decide) ?_
          refine q_lvs [0, 1, 2] rfl ?_
          exact ih (bits / 2) L2 j1 (by clear hj h6; omega) ⟨⟨by clear hj h6; omega, by clear hj h6; omega, hj, by clear hj h6; omega⟩, fm2, g2, (by rw [hs2]; exact g1), (by rw [if_pos (show bits.toNat % 2 = 1 by clear hj h6; omega)] at h6; rw [hb2, hs2, v1b]; exact h6)⟩
set_option maxRecDepth 100000 in
set_option maxHeartbeats 4000000 in
theorem c_X5_raiseTo (l : Launch) (D : va_G) (cy : Nat → ClassId) (M : qM) (mo qa qb qc qf qt : Nat) (hMO : qMO M mo qa qb qc qf qt) (d : Int) (hd : dOk d) (hun : gM (mL M) qa qb qc 54 = unT d) (i n k : Int) (hi : 0 ≤ i ∧ i < 64) (hk : 0 ≤ k ∧ k < 64) (hn : 0 ≤ n ∧ n < 2147483648) (gi : gd d (gM (mL M) qa qb qc i.toNat)) : qCt l D cy yX5_raiseTo cX5_raiseTo 5 none { frames := 4, cells := 0, slots := 0, locals := 135 } 0 0 [.ref mo, .int (qI (i)), .int (qI (n)), .int (qI (k))] M (po_raise5 M qa qb qc d k.toNat (powT (unT d) (gM (mL M) qa qb qc i.toNat) n)) := by
  refine qCt_of (lv0 := [(0, .ref mo), (1, .int (qI (i))), (2, .int (qI (n))), (3, .int (qI (k)))]) (by decide) rfl (Nat.le_of_ble_eq_true rfl) ?_
  intro p e s m args below meth c G hname hret
  obtain ⟨hF, ⟨r2, r3, r4, r5, r8⟩, ⟨a2, a3, a4, a5, a8⟩, ⟨n1, n2, n3, n4, n5, n6⟩⟩ := id hMO
  refine q_aload_n G 0 0 dX5_raiseTo_0 rfl rfl ?_
  refine q_iload_n G 1 1 dX5_raiseTo_1 rfl rfl ?_
  refine q_bipush G dX5_raiseTo_2 (by decide +kernel) ?_
  refine q_callV (As := [.int (qI (i)), .int (qI (57))]) (rest := []) G dX5_raiseTo_4 cw_X5_62 (c_X5_copy l D cy M mo qa qb qc qf qt hMO i 57 hi (by decide)) hF.1 hF.2 (by decide) rfl rfl rfl (Nat.le_of_ble_eq_true rfl) rfl rfl ⟨Nat.le_of_ble_eq_true rfl, Nat.le_of_ble_eq_true rfl⟩ ⟨by decide, by decide⟩ (fun v9 M9 hq9 => ?_)
  obtain ⟨rfl, e9⟩ := hq9
  refine q_mem e9 ?_
  refine q_st (st2 := []) rfl ?_
  refine q_mem (M2 := wL M (stM (mL M) qa qb qc 57 (mL M qa i.toNat) (mL M qb i.toNat) (mL M qc i.toNat))) rfl ?_
  refine q_aload_n G 0 0 dX5_raiseTo_7 rfl rfl ?_
  refine q_bipush G dX5_raiseTo_8 (by decide +kernel) ?_
  refine q_callV (As := [.int (qI (57))]) (rest := []) G dX5_raiseTo_10 cw_X5_58 (c_X5_settle l D cy (wL M (stM (mL M) qa qb qc 57 (mL M qa i.toNat) (mL M qb i.toNat) (mL M qc i.toNat))) mo qa qb qc qf qt hMO 57 (by decide) d (by have := hd.1; omega) hd.2.1 (by show smI d (stM _ _ _ _ 57 _ _ _ qa 57) (stM _ _ _ _ 57 _ _ _ qb 57) (stM _ _ _ _ 57 _ _ _ qc 57) (stM _ _ _ _ 57 _ _ _ qa 57) (stM _ _ _ _ 57 _ _ _ qb 57) (stM _ _ _ _ 57 _ _ _ qc 57); rw [stM_a _ _ _ _ n1 n2, stM_b _ _ _ _ n3, stM_c]; exact gd_smI (by have := hd.1; omega) gi)) hF.1 hF.2 (by decide) rfl rfl rfl (Nat.le_of_ble_eq_true rfl) rfl rfl ⟨Nat.le_of_ble_eq_true rfl, Nat.le_of_ble_eq_true rfl⟩ ⟨by decide, by decide⟩ (fun v9 M9 hq9 => ?_)
  obtain ⟨rfl, la, lb, lc, e9, rd1, ps1, eq1⟩ := hq9
  refine q_st (st2 := []) rfl ?_
  refine q_mem (M2 := wL M (stM (mL M) qa qb qc 57 (la) (lb) (lc))) (by rw [e9]; simp only [Int.reduceToNat, mL_wL, wL_wL, stM_stM _ _ _ _ _ _ _ _ _ _ _ n1 n2 n3]) ?_
  replace eq1 : fEq (mL M qa i.toNat) (mL M qb i.toNat) (mL M qc i.toNat) la lb lc := by have h9 := eq1; simp only [mL_wL, Int.reduceToNat, stM_a _ _ _ _ n1 n2, stM_b _ _ _ _ n3, stM_c] at h9; exact h9
  have hrd : rdOf (gM (mL M) qa qb qc i.toNat) (la, lb, lc) := ⟨rd1, ps1, eq1⟩
  refine q_aload_n G 0 0 dX5_raiseTo_13 rfl rfl ?_
  refine q_bipush G dX5_raiseTo_14 (by decide +kernel) ?_
  refine q_bipush G dX5_raiseTo_16 (by decide +kernel) ?_
  refine q_callV (As := [.int (qI (54)), .int (qI (56))]) (rest := []) G dX5_raiseTo_18 cw_X5_62 (c_X5_copy l D cy (wL M (stM (mL M) qa qb qc 57 (la) (lb) (lc))) mo qa qb qc qf qt hMO 54 56 (by decide) (by decide)) hF.1 hF.2 (by decide) rfl rfl rfl (Nat.le_of_ble_eq_true rfl) rfl rfl ⟨Nat.le_of_ble_eq_true rfl, Nat.le_of_ble_eq_true rfl⟩ ⟨by decide, by decide⟩ (fun v9 M9 hq9 => ?_)
  obtain ⟨rfl, e9⟩ := hq9
  refine q_mem e9 ?_
  refine q_st (st2 := []) rfl ?_
  refine q_mem (M2 := wL M (stM (stM (mL M) qa qb qc 57 (la) (lb) (lc)) qa qb qc 56 (mL M qa 54) (mL M qb 54) (mL M qc 54))) (by show wL M (stM (stM (mL M) qa qb qc 57 (la) (lb) (lc)) qa qb qc 56 (stM _ _ _ _ _ _ _ _ qa 54) (stM _ _ _ _ _ _ _ _ qb 54) (stM _ _ _ _ _ _ _ _ qc 54)) = _; rw [stM_n _ _ _ _ (fun h9 => absurd h9.2 (by decide)), stM_n _ _ _ _ (fun h9 => absurd h9.2 (by decide)), stM_n _ _ _ _ (fun h9 => absurd h9.2 (by decide))]) ?_
  refine q_iload_n G 2 2 dX5_raiseTo_21 rfl rfl ?_
  refine q_istore (lv' := [(4, .int (qI (n))), (0, .ref mo), (1, .int (qI (i))), (2, .int (qI (n))), (3, .int (qI (k)))]) G dX5_raiseTo_22 (by decide) rfl ?_
  have hg7 : gM (stM (stM (mL M) qa qb qc 57 (la) (lb) (lc)) qa qb qc 56 (mL M qa 54) (mL M qb 54) (mL M qc 54)) qa qb qc 57 = (la, lb, lc) := by rw [gM_n _ _ _ _ (by decide), gM_s _ _ _ _ n1 n2 n3]
  have hg6 : gM (stM (stM (mL M) qa qb qc 57 (la) (lb) (lc)) qa qb qc 56 (mL M qa 54) (mL M qb 54) (mL M qc 54)) qa qb qc 56 = unT d := by rw [gM_s _ _ _ _ n1 n2 n3]; exact hun
  have hug := (unT_gd hd).1
  refine q_lvs [0, 4, 1] rfl ?_
  exact l_raise5 l D cy M mo qa qb qc qf qt hMO d hd k hk _ G hret _ n (stM (stM (mL M) qa qb qc 57 (la) (lb) (lc)) qa qb qc 56 (mL M qa 54) (mL M qb 54) (mL M qc 54)) 31 (Nat.lt_succ_self _) ⟨⟨hn.1, hn.2, by have := hn.2; omega, Nat.le_refl _⟩, frM_st (frM_st (frM_rf M qa qb qc _) (by simp) _ _ _) (by simp) _ _ _, by rw [hg7]; exact rdOf_gd hd.2.1 gi hrd, by rw [hg6]; exact hug, by rw [hg7, hg6]; exact pwN_red hd gi hug hrd 32 n.toNat⟩
