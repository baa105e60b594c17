theorem WF_n {σ : qS} (h : WF σ) : (sD σ = 0 ∨ (7 ≤ sD σ ∧ sD σ ≤ 1000000000 ∧ sD σ % 8 = 7)) ∧ (0 ≤ sB σ ∧ sB σ ≤ 16) ∧ (sU σ = 0 ∨ sU σ = 1) := ⟨h.1, ⟨h.2.1.1, h.2.1.2.1⟩, h.2.2.1⟩
theorem gd_r {d : Int} (hd0 : 0 < d) {L : Nat → Nat → Int} {qa qb qc i : Nat} (g : gd d (gM L qa qb qc i)) : r63 (L qa i) ∧ r63 (L qb i) ∧ r63 (L qc i) := by
  obtain ⟨⟨h1, h2, h3, h4, h5⟩, -⟩ := g
  have h1' : 0 < L qa i := h1
  have h2' : L qb i * L qb i - 4 * L qa i * L qc i = -d := h2
  have h3' : L qa i ≤ 2147483648 := h3
  have h4' : -2305843009213693952 ≤ L qb i ∧ L qb i ≤ 2305843009213693952 := h4
  have h5' : L qc i ≤ 2305843009213693952 := h5
  have h6 := st_pos h1' h2' hd0
  clear h1 h2 h3 h4 h5 h2'
  omega
theorem qand_65535 (x : Int) : 0 ≤ qand x 65535 ∧ qand x 65535 ≤ 65535 := by
  obtain ⟨j, hj, e9⟩ := pk_andE (qI x) (m := qI 65535) 16 (by decide)
  unfold qand
  rw [e9, nI_toInt (by omega)]
  omega
def po_pr (M : qM) (x : Int) : Option Value → qM → Prop := fun v M' => v = some (.int (qI x)) ∧ M' = M
set_option maxRecDepth 100000 in
set_option maxHeartbeats 4000000 in
theorem l_pr5 {p : Program} {e : Env} {s : State} {m : MethodId} {args : Array Value} {below : List Frame} {meth : Method} {c : Code} (l : Launch) (D : va_G) (cy : Nat → ClassId) (M : qM) (mo : Nat) (x y t n : Int) (hn : 0 ≤ n ∧ n ≤ 65538) (G : qG p s m args meth c cX5_primeOf 5 yX5_primeOf.cls D cy (qA (mP M) s.heap.size)) (hret : meth.sig.returnType = (some .int)) : ∀ (w9 : Nat) (cd : Int), (65540 - cd).toNat < w9 → lpI n cd → qK p l e { frames := 2, cells := 0, slots := 0, locals := 44 } s m args below meth c (MQ below (qQ D cy (mP M) (po_pr M (lpN n))) args s 0 0 (qA (mP M) s.heap.size)) 5 D cy (qA (mP M) s.heap.size) 0 0 22 [(4, .int (qI (cd))), (3, .int (qI (t))), (2, .int (qI (y))), (1, .int (qI (x))), (0, .ref mo)] [] (M) := by
  intro w9
  induction w9 with
  | zero => intro cd h9; exact absurd h9 (Nat.not_lt_zero _)
  | succ w9 ih =>
    intro cd hm hI
    obtain ⟨hi2, hi3, -⟩ := id hI
    refine q_iload G 0 dX5_primeOf_22 rfl ?_
    refine q_callS (As := [.int (qI (cd))]) (rest := []) G dX5_primeOf_24 cw_X5_82 (c_X5_isPrime l D cy M cd (by omega)) rfl rfl (Nat.le_of_ble_eq_true rfl) rfl rfl ⟨Nat.le_of_ble_eq_true rfl, Nat.le_of_ble_eq_true rfl⟩ ⟨by decide, by decide⟩ (fun v9 M9 hq9 => ?_)
    obtain ⟨⟨z9, rfl, hz⟩, e9⟩ := hq9
    refine q_st (st2 := [.int (qI (z9))]) rfl ?_
    refine q_mem e9 ?_
    refine q_if_ne (tgt := 36) G dX5_primeOf_27 (by decide) (by omega) (fun c1 => ?_) (fun c1 => ?_)
    · refine q_iload G 0 dX5_primeOf_36 rfl ?_
      exact q_iret G dX5_primeOf_38 hret (by omega) (by omega) (⟨by rw [lpN_eq (x := cd) ⟨by omega, by omega, by rcases hz with ⟨h7, h8⟩ | ⟨h7, h8⟩; exact h8; exact absurd h7 (by omega), hI.2.2⟩], rfl⟩)
    · refine q_iinc (lv' := [(4, .int (qI (cd + 1))), (3, .int (qI (t))), (2, .int (qI (y))), (1, .int (qI (x))), (0, .ref mo)]) G 0 dX5_primeOf_30 rfl (by decide) rfl ?_
      refine q_goto (tgt := 22) G dX5_primeOf_33 (by decide) ?_
      refine q_lvs [0, 1, 2, 3, 4] rfl ?_
      have hnp : ¬ prm cd := by rcases hz with ⟨h7, h8⟩ | ⟨h7, h8⟩; exact absurd h7 (by omega); exact h8
      have hne : cd ≠ 65539 := fun h9 => hnp (by rw [h9]; exact prm_65539)
      exact ih (cd + 1) (by omega) ⟨by omega, by omega, fun j h1 h2 => by rcases (show j < cd ∨ j = cd by omega) with h3 | h3; exact hI.2.2 j h1 h3; rw [h3]; exact hnp⟩
set_option maxRecDepth 100000 in
set_option maxHeartbeats 4000000 in
theorem c_X5_primeOf (l : Launch) (D : va_G) (cy : Nat → ClassId) (M : qM) (mo qa qb qc qf qt : Nat) (hMO : qMO M mo qa qb qc qf qt) (x y t : Int) (hx : 0 ≤ x ∧ x < 64) (hy : 0 ≤ y ∧ y < 64) : qCt l D cy yX5_primeOf cX5_primeOf 5 (some .int) { frames := 2, cells := 0, slots := 0, locals := 44 } 0 0 [.ref mo, .int (qI (x)), .int (qI (y)), .int (qI (t))] M (po_pr M (prmT (gM (mL M) qa qb qc x.toNat) (gM (mL M) qa qb qc y.toNat) t)) := by
  refine qCt_of (lv0 := [(0, .ref mo), (1, .int (qI (x))), (2, .int (qI (y))), (3, .int (qI (t)))]) (by decide) rfl (Nat.le_of_ble_eq_true rfl) ?_
  intro p e s m args below meth c G hname hret
  obtain ⟨hF, ⟨r2, r3, r4, r5, r8⟩, ⟨a2, a3, a4, a5, a8⟩, ⟨n1, n2, n3, n4, n5, n6⟩⟩ := id hMO
  refine q_iconst G dX5_primeOf_0 ?_
  refine q_aload_n G 0 0 dX5_primeOf_1 rfl rfl ?_
  refine q_aload_n G 0 0 dX5_primeOf_2 rfl rfl ?_
  refine q_iconst G dX5_primeOf_3 ?_
  refine q_iload_n G 1 1 dX5_primeOf_4 rfl rfl ?_
  refine q_callV (As := [.int (qI (2)), .int (qI (x))]) (rest := [.ref mo, .int (qI (3))]) G dX5_primeOf_5 cw_X5_78 (c_X5_mixForm l D cy M mo qa qb qc qf qt hMO 2 x hx) hF.1 hF.2 (by decide) rfl rfl rfl (Nat.le_of_ble_eq_true rfl) rfl rfl ⟨Nat.le_of_ble_eq_true rfl, Nat.le_of_ble_eq_true rfl⟩ ⟨by decide, by decide⟩ (fun v9 M9 hq9 => ?_)
  obtain ⟨rfl, e9⟩ := hq9
  refine q_mem e9 ?_
  refine q_st (st2 := [.int (qI (mixF 2 (gM (mL M) qa qb qc x.toNat))), .ref mo, .int (qI (3))]) rfl ?_
  refine q_iload_n G 2 2 dX5_primeOf_8 rfl rfl ?_
  refine q_callV (As := [.int (qI (mixF 2 (gM (mL M) qa qb qc x.toNat))), .int (qI (y))]) (rest := [.int (qI (3))]) G dX5_primeOf_9 cw_X5_78 (c_X5_mixForm l D cy M mo qa qb qc qf qt hMO (mixF 2 (gM (mL M) qa qb qc x.toNat)) y hy) hF.1 hF.2 (by decide) rfl rfl rfl (Nat.le_of_ble_eq_true rfl) rfl rfl ⟨Nat.le_of_ble_eq_true rfl, Nat.le_of_ble_eq_true rfl⟩ ⟨by decide, by decide⟩ (fun v9 M9 hq9 => ?_)
  obtain ⟨rfl, e9⟩ := hq9
  refine q_mem e9 ?_
  refine q_st (st2 := [.int (qI (mixF (mixF 2 (gM (mL M) qa qb qc x.toNat)) (gM (mL M) qa qb qc y.toNat))), .int (qI (3))]) rfl ?_
  refine q_iload_n G 3 3 dX5_primeOf_12 rfl rfl ?_
  refine q_callS (As := [.int (qI (mixF (mixF 2 (gM (mL M) qa qb qc x.toNat)) (gM (mL M) qa qb qc y.toNat))), .int (qI (t))]) (rest := [.int (qI (3))]) G dX5_primeOf_13 cw_X5_74 (c_X5_mix l D cy M (mixF (mixF 2 (gM (mL M) qa qb qc x.toNat)) (gM (mL M) qa qb qc y.toNat)) (t)) rfl rfl (Nat.le_of_ble_eq_true rfl) rfl rfl ⟨Nat.le_of_ble_eq_true rfl, Nat.le_of_ble_eq_true rfl⟩ ⟨by decide, by decide⟩ (fun v9 M9 hq9 => ?_)
  obtain ⟨rfl, e9⟩ := hq9
  refine q_mem e9 ?_
  refine q_st (st2 := [.int (qI (mixN (mixF (mixF 2 (gM (mL M) qa qb qc x.toNat)) (gM (mL M) qa qb qc y.toNat)) (t))), .int (qI (3))]) rfl ?_
  refine q_ldc (z := 65535) G dX5_primeOf_16 tw_665 (by decide +kernel) ?_
  refine q_iand G dX5_primeOf_18 ?_
  refine q_iadd G dX5_primeOf_19 ?_
  refine q_istore (lv' := [(4, .int (qI (3 + (qand (mixN (mixF (mixF 2 (gM (mL M) qa qb qc x.toNat)) (gM (mL M) qa qb qc y.toNat)) (t)) 65535)))), (0, .ref mo), (1, .int (qI (x))), (2, .int (qI (y))), (3, .int (qI (t)))]) G dX5_primeOf_20 (by decide) rfl ?_
  have hb := qand_65535 (mixN (mixF (mixF 2 (gM (mL M) qa qb qc x.toNat)) (gM (mL M) qa qb qc y.toNat)) t)
  refine q_lvs [0, 4, 3, 2, 1] rfl ?_
  exact l_pr5 l D cy M mo x y t (3 + qand (mixN (mixF (mixF 2 (gM (mL M) qa qb qc x.toNat)) (gM (mL M) qa qb qc y.toNat)) t) 65535) (by omega) G hret _ (3 + qand (mixN (mixF (mixF 2 (gM (mL M) qa qb qc x.toNat)) (gM (mL M) qa qb qc y.toNat)) t) 65535) (Nat.lt_succ_self _) ⟨by omega, by omega, fun j h1 h2 => absurd h1 (by omega)⟩
set_option maxRecDepth 100000 in
set_option maxHeartbeats 4000000 in
theorem c_X5_place (l : Launch) (D : va_G) (cy : Nat → ClassId) (M : qM) (mo qa qb qc qf qt : Nat) (hMO : qMO M mo qa qb qc qf qt) (σ : qS) (hR : RMd σ (mI M) (mL M) mo qa qb qc qf qt) (hW : WF σ) (r : Int) (hr : r32 r) : qCt l D cy yX5_place cX5_place 2 (some .int) { frames := 0, cells := 0, slots := 0, locals := 0 } 0 0 [.ref mo, .int (qI (r))] M (po_pr M (if isPl σ r then plN r else -1)) := by
  refine qCt_of (lv0 := [(0, .ref mo), (1, .int (qI (r)))]) (by decide) rfl (Nat.le_of_ble_eq_true rfl) ?_
  intro p e s m args below meth c G hname hret
  obtain ⟨hF, ⟨r2, r3, r4, r5, r8⟩, ⟨a2, a3, a4, a5, a8⟩, ⟨n1, n2, n3, n4, n5, n6⟩⟩ := id hMO
  obtain ⟨⟨k1, k6, k7, k9, k10, k11⟩, kF, kV, kC, kG⟩ := id hR
  obtain ⟨u1, u2, u3⟩ := qMO_ne hMO
  obtain ⟨w1, w2, w3⟩ := WF_n hW
  refine q_iload_n G 1 1 dX5_place_0 rfl rfl ?_
  refine q_iconst G dX5_place_1 ?_
  refine q_icmp_ne (tgt := 18) G dX5_place_2 (by decide) (by first | assumption | omega) (by first | assumption | omega) (fun c1 => ?_) (fun c1 => ?_)
  · refine q_iload_n G 1 1 dX5_place_18 rfl rfl ?_
    refine q_if_lt (tgt := 39) G dX5_place_19 (by decide) (by first | assumption | omega) (fun c2 => ?_) (fun c2 => ?_)
    · refine q_iconst G dX5_place_39 ?_
      exact q_iret G dX5_place_40 hret (by omega) (by omega) (⟨by first | (rw [if_pos (show isPl σ r by omega)]; unfold plN; first | rw [if_pos (by omega)] | rw [if_neg (by omega)]) | rw [if_neg (show ¬ isPl σ r by omega)], rfl⟩)
    · refine q_iload_n G 1 1 dX5_place_22 rfl rfl ?_
      refine q_aload_n G 0 0 dX5_place_23 rfl rfl ?_
      refine q_gt (v := .int (qI (mI M mo 7))) G dX5_place_24 fl_X5_94 hF (by decide) rfl rfl ?_
      refine q_icmp_ge (tgt := 39) G dX5_place_27 (by decide) (by first | assumption | omega) (by first | assumption | omega) (fun c3 => ?_) (fun c3 => ?_)
      · refine q_iconst G dX5_place_39 ?_
        exact q_iret G dX5_place_40 hret (by omega) (by omega) (⟨by first | (rw [if_pos (show isPl σ r by omega)]; unfold plN; first | rw [if_pos (by omega)] | rw [if_neg (by omega)]) | rw [if_neg (show ¬ isPl σ r by omega)], rfl⟩)
      · refine q_bipush G dX5_place_30 (by decide +kernel) ?_
        refine q_iconst G dX5_place_32 ?_
        refine q_iload_n G 1 1 dX5_place_33 rfl rfl ?_
        refine q_imul G dX5_place_34 ?_
        refine q_iadd G dX5_place_35 ?_
        refine q_goto (tgt := 40) G dX5_place_36 (by decide) ?_
        exact q_iret G dX5_place_40 hret (by omega) (by omega) (⟨by first | (rw [if_pos (show isPl σ r by omega)]; unfold plN; first | rw [if_pos (by omega)] | rw [if_neg (by omega)]) | rw [if_neg (show ¬ isPl σ r by omega)], rfl⟩)
  · refine q_aload_n G 0 0 dX5_place_5 rfl rfl ?_
    refine q_gt (v := .int (qI (mI M mo 6))) G dX5_place_6 fl_X5_86 hF (by decide) rfl rfl ?_
    refine q_if_eq (tgt := 16) G dX5_place_9 (by decide) (by first | assumption | omega) (fun c4 => ?_) (fun c4 => ?_)
    · refine q_iconst G dX5_place_16 ?_
      exact q_iret G dX5_place_17 hret (by omega) (by omega) (⟨by first | (rw [if_pos (show isPl σ r by omega)]; unfold plN; first | rw [if_pos (by omega)] | rw [if_neg (by omega)]) | rw [if_neg (show ¬ isPl σ r by omega)], rfl⟩)
    · refine q_iconst G dX5_place_12 ?_
      refine q_goto (tgt := 17) G dX5_place_13 (by decide) ?_
      exact q_iret G dX5_place_17 hret (by omega) (by omega) (⟨by first | (rw [if_pos (show isPl σ r by omega)]; unfold plN; first | rw [if_pos (by omega)] | rw [if_neg (by omega)]) | rw [if_neg (show ¬ isPl σ r by omega)], rfl⟩)
set_option maxRecDepth 100000 in
set_option maxHeartbeats 4000000 in
theorem c_X5_rounds (l : Launch) (D : va_G) (cy : Nat → ClassId) (M : qM) (mo qa qb qc qf qt : Nat) (hMO : qMO M mo qa qb qc qf qt) (σ : qS) (hR : RMd σ (mI M) (mL M) mo qa qb qc qf qt) (hW : WF σ) : qCt l D cy yX5_rounds cX5_rounds 1 (some .int) { frames := 0, cells := 0, slots := 0, locals := 0 } 0 0 [.ref mo] M (po5 M mo qa qb qc qf qt (σ) (0) (fun v => v = some (.int (qI (sB σ))))) := by
  refine qCt_of (lv0 := [(0, .ref mo)]) (by decide) rfl (Nat.le_of_ble_eq_true rfl) ?_
  intro p e s m args below meth c G hname hret
  obtain ⟨hF, ⟨r2, r3, r4, r5, r8⟩, ⟨a2, a3, a4, a5, a8⟩, ⟨n1, n2, n3, n4, n5, n6⟩⟩ := id hMO
  obtain ⟨⟨k1, k6, k7, k9, k10, k11⟩, kF, kV, kC, kG⟩ := id hR
  obtain ⟨u1, u2, u3⟩ := qMO_ne hMO
  obtain ⟨w1, w2, w3⟩ := WF_n hW
  refine q_aload_n G 0 0 dX5_rounds_0 rfl rfl ?_
  refine q_iconst G dX5_rounds_1 ?_
  refine q_pI (z := 0) G dX5_rounds_2 (pl_X5_27 _) nf_5_0 hF (by decide) (Nat.le_of_ble_eq_true rfl) (fs_5_0 _ _ _) ?_
  refine q_aload_n G 0 0 dX5_rounds_5 rfl rfl ?_
  refine q_gt (v := .int (qI (mI M mo 7))) G dX5_rounds_6 fl_X5_94 hF (by decide) rfl (by simp [mI, mL, mR, sL, sI, sR, wL, wD, stF, up2, n1, n1.symm, n2, n2.symm, n3, n3.symm, u1, u1.symm, u2, u2.symm, u3, u3.symm]) ?_
  exact q_iret G dX5_rounds_9 hret (by omega) (by omega) (⟨up2 (mI M) mo 0 (0), mL M, rfl, frR_I (frR_rf _ _ _ _ _ _ _ _) mo 0 _ (Or.inl rfl), up2_s _ _ _ _, RM_0 hR _ u1 u2, by rw [k7]⟩)
set_option maxRecDepth 100000 in
set_option maxHeartbeats 4000000 in
theorem c_X5_drop (l : Launch) (D : va_G) (cy : Nat → ClassId) (M : qM) (mo qa qb qc qf qt : Nat) (hMO : qMO M mo qa qb qc qf qt) (σ : qS) (hR : RMd σ (mI M) (mL M) mo qa qb qc qf qt) (hW : WF σ) : qCt l D cy yX5_drop cX5_drop 2 (some .boolean) { frames := 0, cells := 0, slots := 0, locals := 0 } 0 0 [.ref mo] M (po5 M mo qa qb qc qf qt (setU σ 0) (0) (fun v => v = some (.int (qI (sU σ))))) := by
  refine qCt_of (lv0 := [(0, .ref mo)]) (by decide) rfl (Nat.le_of_ble_eq_true rfl) ?_
  intro p e s m args below meth c G hname hret
  obtain ⟨hF, ⟨r2, r3, r4, r5, r8⟩, ⟨a2, a3, a4, a5, a8⟩, ⟨n1, n2, n3, n4, n5, n6⟩⟩ := id hMO
  obtain ⟨⟨k1, k6, k7, k9, k10, k11⟩, kF, kV, kC, kG⟩ := id hR
  obtain ⟨u1, u2, u3⟩ := qMO_ne hMO
  obtain ⟨w1, w2, w3⟩ := WF_n hW
  refine q_aload_n G 0 0 dX5_drop_0 rfl rfl ?_
  refine q_iconst G dX5_drop_1 ?_
  refine q_pI (z := 0) G dX5_drop_2 (pl_X5_27 _) nf_5_0 hF (by decide) (Nat.le_of_ble_eq_true rfl) (fs_5_0 _ _ _) ?_
  refine q_aload_n G 0 0 dX5_drop_5 rfl rfl ?_
  refine q_gt (v := .int (qI (mI M mo 6))) G dX5_drop_6 fl_X5_86 hF (by decide) rfl (by simp [mI, mL, mR, sL, sI, sR, wL, wD, stF, up2, n1, n1.symm, n2, n2.symm, n3, n3.symm, u1, u1.symm, u2, u2.symm, u3, u3.symm]) ?_
  refine q_istore_n (lv' := [(1, .int (qI (mI M mo 6))), (0, .ref mo)]) G 1 dX5_drop_9 rfl (by decide) rfl ?_
  refine q_aload_n G 1 0 dX5_drop_10 rfl rfl ?_
  refine q_iconst G dX5_drop_11 ?_
  refine q_pI (z := 0) G dX5_drop_12 pl_X5_86f nf_5_6 hF (by decide) (Nat.le_of_ble_eq_true rfl) (fs_5_6 _ _ _) ?_
  refine q_iload_n G 0 1 dX5_drop_15 rfl rfl ?_
  exact q_zret G dX5_drop_16 hret (by rw [k6]; rcases w3 with h | h <;> rw [h] <;> decide +kernel) (by omega) (by omega) (⟨up2 (up2 (mI M) mo 0 (0)) mo 6 0, mL M, rfl, frR_I (frR_I (frR_rf _ _ _ _ _ _ _ _) mo 0 _ (Or.inl rfl)) mo 6 _ (Or.inl rfl), by rw [up2_k _ _ (by decide), up2_s], RM_6 (RM_0 hR _ u1 u2) _ u1 u2, by rw [k6]⟩)
set_option maxRecDepth 100000 in
set_option maxHeartbeats 4000000 in
theorem j_X5_told {p : Program} {e : Env} {s : State} {m : MethodId} {args : Array Value} {below : List Frame} {meth : Method} {c : Code} (l : Launch) (D : va_G) (cy : Nat → ClassId) (M : qM) (mo qa qb qc qf qt : Nat) (hMO : qMO M mo qa qb qc qf qt) (σ : qS) (hR : RMd σ (mI M) (mL M) mo qa qb qc qf qt) (hW : WF σ) (r k : Int) (hr : r32 r) (hk : r32 k) (G : qG p s m args meth c cX5_told 3 yX5_told.cls D cy (qA (mP M) s.heap.size)) (hret : meth.sig.returnType = (some .int)) : qK p l e { frames := 1, cells := 0, slots := 0, locals := 21 } s m args below meth c (MQ below (qQ D cy (mP M) (po5 M mo qa qb qc qf qt (σ) (e_7 σ r k) (fun v => ∃ z, v = some (.int (qI z)) ∧ (e_7 σ r k = 0 → z = a_7 σ r k)))) args s 0 0 (qA (mP M) s.heap.size)) 3 D cy (qA (mP M) s.heap.size) 0 0 34 [(2, .int (qI (k))), (1, .int (qI (r))), (0, .ref mo)] [.int (qI (e_7 σ r k)), .ref mo] (M) := by
  obtain ⟨hF, ⟨r2, r3, r4, r5, r8⟩, ⟨a2, a3, a4, a5, a8⟩, ⟨n1, n2, n3, n4, n5, n6⟩⟩ := id hMO
  obtain ⟨⟨k1, k6, k7, k9, k10, k11⟩, kF, kV, kC, kG⟩ := id hR
  obtain ⟨u1, u2, u3⟩ := qMO_ne hMO
  obtain ⟨w1, w2, w3⟩ := WF_n hW
  refine q_pI (z := e_7 σ r k) G dX5_told_34 (pl_X5_27 _) nf_5_0 hF (by decide) (Nat.le_of_ble_eq_true rfl) (fs_5_0 _ _ _) ?_
  refine q_aload_n G 2 0 dX5_told_37 rfl rfl ?_
  refine q_gt (v := .int (qI (e_7 σ r k))) G dX5_told_38 fl_X5_27 hF (by decide) rfl (by simp [mI, mL, mR, sL, sI, sR, wL, wD, stF, up2, n1, n1.symm, n2, n2.symm, n3, n3.symm, u1, u1.symm, u2, u2.symm, u3, u3.symm]) ?_
  refine q_if_le (tgt := 46) G dX5_told_41 (by decide) (by unfold e_7; omega) (fun c1 => ?_) (fun c1 => ?_)
  · have q0 : sD σ ≠ 0 ∧ isPl σ r ∧ 0 ≤ k ∧ k ≤ 2 := by unfold e_7 at c1; omega
    refine q_aload_n G 2 0 dX5_told_46 rfl rfl ?_
    refine q_gt (v := .ref qt) G dX5_told_47 fl_X5_23 hF (by decide) rfl (congrArg va_rf r8) ?_
    refine q_iload_n G 1 1 dX5_told_50 rfl rfl ?_
    refine q_iconst G dX5_told_51 ?_
    refine q_icmp_ne (tgt := 62) G dX5_told_52 (by decide) (by first | assumption | omega) (by first | assumption | omega) (fun c2 => ?_) (fun c2 => ?_)
    · refine q_iconst G dX5_told_62 ?_
      refine q_iload_n G 1 1 dX5_told_63 rfl rfl ?_
      refine q_imul G dX5_told_64 ?_
      refine q_iload_n G 0 2 dX5_told_65 rfl rfl ?_
      refine q_iadd G dX5_told_66 ?_
      refine q_iaload G dX5_told_67 a8.1 a8.2.1 (by first | assumption | omega) (show ((3 * r) + k) < ((mN M qt : Nat) : Int) by rw [a8.2.2]; omega) (show mN M qt < 2147483648 by rw [a8.2.2]; decide) ?_
      refine q_topI (z2 := mI M qt (Int.toNat ((3 * r) + k))) (by simp [mI, mL, mR, sL, sI, sR, wL, wD, stF, stM, up2, n1, n1.symm, n2, n2.symm, n3, n3.symm, u1, u1.symm, u2, u2.symm, u3, u3.symm]) ?_
      exact q_iret G dX5_told_68 hret (by omega) (by omega) (⟨up2 (mI M) mo 0 (e_7 σ r k), mL M, rfl, frR_I (frR_rf _ _ _ _ _ _ _ _) mo 0 _ (Or.inl rfl), up2_s _ _ _ _, RM_0 hR _ u1 u2, ⟨_, rfl, fun _ => by rw [kC _ (by omega)]; unfold a_7; first | rw [if_pos (by omega)] | rw [if_neg (by omega)]⟩⟩)
    · refine q_bipush G dX5_told_55 (by decide +kernel) ?_
      refine q_iload_n G 0 2 dX5_told_57 rfl rfl ?_
      refine q_iadd G dX5_told_58 ?_
      refine q_goto (tgt := 67) G dX5_told_59 (by decide) ?_
      refine q_iaload G dX5_told_67 a8.1 a8.2.1 (by first | assumption | omega) (show (48 + k) < ((mN M qt : Nat) : Int) by rw [a8.2.2]; omega) (show mN M qt < 2147483648 by rw [a8.2.2]; decide) ?_
      refine q_topI (z2 := mI M qt (Int.toNat (48 + k))) (by simp [mI, mL, mR, sL, sI, sR, wL, wD, stF, stM, up2, n1, n1.symm, n2, n2.symm, n3, n3.symm, u1, u1.symm, u2, u2.symm, u3, u3.symm]) ?_
      exact q_iret G dX5_told_68 hret (by omega) (by omega) (⟨up2 (mI M) mo 0 (e_7 σ r k), mL M, rfl, frR_I (frR_rf _ _ _ _ _ _ _ _) mo 0 _ (Or.inl rfl), up2_s _ _ _ _, RM_0 hR _ u1 u2, ⟨_, rfl, fun _ => by rw [kC _ (by omega)]; unfold a_7; first | rw [if_pos (by omega)] | rw [if_neg (by omega)]⟩⟩)
  · refine q_iconst G dX5_told_44 ?_
    exact q_iret G dX5_told_45 hret (by omega) (by omega) (⟨up2 (mI M) mo 0 (e_7 σ r k), mL M, rfl, frR_I (frR_rf _ _ _ _ _ _ _ _) mo 0 _ (Or.inl rfl), up2_s _ _ _ _, RM_0 hR _ u1 u2, ⟨_, rfl, fun h9 => absurd h9 (by omega)⟩⟩)
set_option maxRecDepth 100000 in
set_option maxHeartbeats 4000000 in
theorem c_X5_told (l : Launch) (D : va_G) (cy : Nat → ClassId) (M : qM) (mo qa qb qc qf qt : Nat) (hMO : qMO M mo qa qb qc qf qt) (σ : qS) (hR : RMd σ (mI M) (mL M) mo qa qb qc qf qt) (hW : WF σ) (r k : Int) (hr : r32 r) (hk : r32 k) : qCt l D cy yX5_told cX5_told 3 (some .int) { frames := 1, cells := 0, slots := 0, locals := 21 } 0 0 [.ref mo, .int (qI (r)), .int (qI (k))] M (po5 M mo qa qb qc qf qt (σ) (e_7 σ r k) (fun v => ∃ z, v = some (.int (qI z)) ∧ (e_7 σ r k = 0 → z = a_7 σ r k))) := by
  refine qCt_of (lv0 := [(0, .ref mo), (1, .int (qI (r))), (2, .int (qI (k)))]) (by decide) rfl (Nat.le_of_ble_eq_true rfl) ?_
  intro p e s m args below meth c G hname hret
  obtain ⟨hF, ⟨r2, r3, r4, r5, r8⟩, ⟨a2, a3, a4, a5, a8⟩, ⟨n1, n2, n3, n4, n5, n6⟩⟩ := id hMO
  obtain ⟨⟨k1, k6, k7, k9, k10, k11⟩, kF, kV, kC, kG⟩ := id hR
  obtain ⟨u1, u2, u3⟩ := qMO_ne hMO
  obtain ⟨w1, w2, w3⟩ := WF_n hW
  refine q_aload_n G 0 0 dX5_told_0 rfl rfl ?_
  refine q_aload_n G 0 0 dX5_told_1 rfl rfl ?_
  refine q_callV (As := []) (rest := [.ref mo]) G dX5_told_2 cw_X5_101 (c_X5_isAny l D cy M mo qa qb qc qf qt hMO (by omega)) hF.1 hF.2 (by decide) rfl rfl rfl (Nat.le_of_ble_eq_true rfl) rfl rfl ⟨Nat.le_of_ble_eq_true rfl, Nat.le_of_ble_eq_true rfl⟩ ⟨by decide, by decide⟩ (fun v9 M9 hq9 => ?_)
  obtain ⟨rfl, e9⟩ := hq9
  refine q_mem e9 ?_
  refine q_st (st2 := [.int (qI (if 0 < mL M mo 1 then 1 else 0)), .ref mo]) rfl ?_
  refine q_if_ne (tgt := 12) G dX5_told_5 (by decide) (by first | assumption | omega) (fun c1 => ?_) (fun c1 => ?_)
  · refine q_aload_n G 0 0 dX5_told_12 rfl rfl ?_
    refine q_iload_n G 1 1 dX5_told_13 rfl rfl ?_
    refine q_callV (As := [.int (qI (r))]) (rest := [.ref mo]) G dX5_told_14 cw_X5_124 (c_X5_place l D cy M mo qa qb qc qf qt hMO σ hR hW (r) (by omega)) hF.1 hF.2 (by decide) rfl rfl rfl (Nat.le_of_ble_eq_true rfl) rfl rfl ⟨Nat.le_of_ble_eq_true rfl, Nat.le_of_ble_eq_true rfl⟩ ⟨by decide, by decide⟩ (fun v9 M9 hq9 => ?_)
    obtain ⟨rfl, e9⟩ := hq9
    refine q_mem e9 ?_
    refine q_st (st2 := [.int (qI (if isPl σ r then plN r else -1)), .ref mo]) rfl ?_
    refine q_if_lt (tgt := 29) G dX5_told_17 (by decide) (by unfold plN; omega) (fun c2 => ?_) (fun c2 => ?_)
    · refine q_iconst G dX5_told_29 ?_
      refine q_goto (tgt := 34) G dX5_told_30 (by decide) ?_
      refine q_topI (z2 := e_7 σ r k) (by (try unfold plN at *); unfold e_7; omega) ?_
      refine q_lvs [2, 1, 0] rfl ?_
      exact j_X5_told l D cy M mo qa qb qc qf qt hMO σ hR hW r k hr hk G hret
    · refine q_iload_n G 2 2 dX5_told_20 rfl rfl ?_
      refine q_if_lt (tgt := 29) G dX5_told_21 (by decide) (by first | assumption | omega) (fun c3 => ?_) (fun c3 => ?_)
      · refine q_iconst G dX5_told_29 ?_
        refine q_goto (tgt := 34) G dX5_told_30 (by decide) ?_
        refine q_topI (z2 := e_7 σ r k) (by (try unfold plN at *); unfold e_7; omega) ?_
        refine q_lvs [2, 1, 0] rfl ?_
        exact j_X5_told l D cy M mo qa qb qc qf qt hMO σ hR hW r k hr hk G hret
      · refine q_iload_n G 2 2 dX5_told_24 rfl rfl ?_
        refine q_iconst G dX5_told_25 ?_
        refine q_icmp_le (tgt := 33) G dX5_told_26 (by decide) (by first | assumption | omega) (by first | assumption | omega) (fun c4 => ?_) (fun c4 => ?_)
        · refine q_iconst G dX5_told_33 ?_
          refine q_topI (z2 := e_7 σ r k) (by (try unfold plN at *); unfold e_7; omega) ?_
          refine q_lvs [2, 1, 0] rfl ?_
          exact j_X5_told l D cy M mo qa qb qc qf qt hMO σ hR hW r k hr hk G hret
        · refine q_iconst G dX5_told_29 ?_
          refine q_goto (tgt := 34) G dX5_told_30 (by decide) ?_
          refine q_topI (z2 := e_7 σ r k) (by (try unfold plN at *); unfold e_7; omega) ?_
          refine q_lvs [2, 1, 0] rfl ?_
          exact j_X5_told l D cy M mo qa qb qc qf qt hMO σ hR hW r k hr hk G hret
  · refine q_iconst G dX5_told_8 ?_
    refine q_goto (tgt := 34) G dX5_told_9 (by decide) ?_
    refine q_topI (z2 := e_7 σ r k) (by (try unfold plN at *); unfold e_7; omega) ?_
    refine q_lvs [2, 1, 0] rfl ?_
    exact j_X5_told l D cy M mo qa qb qc qf qt hMO σ hR hW r k hr hk G hret
