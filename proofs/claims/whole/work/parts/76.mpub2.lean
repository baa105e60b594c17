set_option maxRecDepth 100000 in
set_option maxHeartbeats 4000000 in
theorem j_X5_form {p : Program} {e : Env} {s : State} {m : MethodId} {args : Array Value} {below : List Frame} {meth : Method} {c : Code} (l : Launch) (D : va_G) (cy : Nat → ClassId) (M : qM) (mo qa qb qc qf qt : Nat) (hMO : qMO M mo qa qb qc qf qt) (σ : qS) (hR : RMd σ (mI M) (mL M) mo qa qb qc qf qt) (hW : WF σ) (r k x : Int) (hr : r32 r) (hk : r32 k) (hx : r32 x) (G : qG p s m args meth c cX5_form 4 yX5_form.cls D cy (qA (mP M) s.heap.size)) (hret : meth.sig.returnType = (some .int)) : qK p l e { frames := 1, cells := 0, slots := 0, locals := 22 } s m args below meth c (MQ below (qQ D cy (mP M) (po5 M mo qa qb qc qf qt (σ) (e_8 σ r k x) (fun v => ∃ z, v = some (.int (qI z)) ∧ (e_8 σ r k x = 0 → z = a_8 σ r k x)))) args s 0 0 (qA (mP M) s.heap.size)) 4 D cy (qA (mP M) s.heap.size) 0 0 43 [(3, .int (qI (x))), (2, .int (qI (k))), (1, .int (qI (r))), (0, .ref mo)] [.int (qI (e_8 σ r k x)), .ref mo] (M) := by
  obtain ⟨hF, ⟨r2, r3, r4, r5, r8⟩, ⟨a2, a3, a4, a5, a8⟩, ⟨n1, n2, n3, n4, n5, n6⟩⟩ := id hMO
  obtain ⟨⟨k1, k6, k7, k9, k10, k11⟩, kF, kV, kC, kG⟩ := id hR
  obtain ⟨u1, u2, u3⟩ := qMO_ne hMO
  obtain ⟨w1, w2, w3⟩ := WF_n hW
  refine q_pI (z := e_8 σ r k x) G dX5_form_43 (pl_X5_27 _) nf_5_0 hF (by decide) (Nat.le_of_ble_eq_true rfl) (fs_5_0 _ _ _) ?_
  refine q_aload_n G 3 0 dX5_form_46 rfl rfl ?_
  refine q_gt (v := .int (qI (e_8 σ r k x))) G dX5_form_47 fl_X5_27 hF (by decide) rfl (by simp [mI, mL, mR, sL, sI, sR, wL, wD, stF, up2, n1, n1.symm, n2, n2.symm, n3, n3.symm, u1, u1.symm, u2, u2.symm, u3, u3.symm]) ?_
  refine q_if_le (tgt := 57) G dX5_form_50 (by decide) (by unfold e_8; omega) (fun c1 => ?_) (fun c1 => ?_)
  · have q0 : sD σ ≠ 0 ∧ isPl σ r ∧ 0 ≤ k ∧ k ≤ 2 ∧ 0 ≤ x ∧ x ≤ 2 := by unfold e_8 at c1; omega
    refine q_aload_n G 3 0 dX5_form_57 rfl rfl ?_
    refine q_aload_n G 3 0 dX5_form_58 rfl rfl ?_
    refine q_iload_n G 2 1 dX5_form_59 rfl rfl ?_
    refine q_callV (As := [.int (qI (r))]) (rest := [.ref mo]) G dX5_form_60 cw_X5_124 (c_X5_place l D cy (sI M mo 0 (e_8 σ r k x)) mo qa qb qc qf qt hMO σ (RM_0 hR _ u1 u2) hW r (by omega)) hF.1 hF.2 (by decide) rfl rfl rfl (Nat.le_of_ble_eq_true rfl) rfl rfl ⟨Nat.le_of_ble_eq_true rfl, Nat.le_of_ble_eq_true rfl⟩ ⟨by decide, by decide⟩ (fun v9 M9 hq9 => ?_)
    obtain ⟨rfl, e9⟩ := hq9
    refine q_st (st2 := [.int (qI (if isPl σ r then plN r else -1)), .ref mo]) rfl ?_
    refine q_mem e9 ?_
    refine q_topI (z2 := plN r) (if_pos q0.2.1) ?_
    have hp : plN r = (if r = -1 then 3 else 6 + 3 * r) := rfl
    refine q_iload_n G 1 2 dX5_form_63 rfl rfl ?_
    refine q_iadd G dX5_form_64 ?_
    refine q_iload_n G 0 3 dX5_form_65 rfl rfl ?_
    refine q_callV (As := [.int (qI ((plN r) + k)), .int (qI (x))]) (rest := []) G dX5_form_66 cw_X5_128 (c_X5_partOf l D cy (sI M mo 0 (e_8 σ r k x)) mo qa qb qc qf qt hMO (plN r + k) x (by omega) (by omega)) hF.1 hF.2 (by decide) rfl rfl rfl (Nat.le_of_ble_eq_true rfl) rfl rfl ⟨Nat.le_of_ble_eq_true rfl, Nat.le_of_ble_eq_true rfl⟩ ⟨by decide, by decide⟩ (fun v9 M9 hq9 => ?_)
    obtain ⟨rfl, e9⟩ := hq9
    refine q_mem e9 ?_
    refine q_st (st2 := [.long (qL (if x = 0 then mL M qa (plN r + k).toNat else if x = 1 then mL M qb (plN r + k).toNat else mL M qc (plN r + k).toNat))]) rfl ?_
    refine q_l2i G dX5_form_69 ?_
    exact q_iret G dX5_form_70 hret (by omega) (by omega) (⟨up2 (mI M) mo 0 (e_8 σ r k x), mL M, rfl, frR_I (frR_rf _ _ _ _ _ _ _ _) mo 0 _ (Or.inl rfl), up2_s _ _ _ _, RM_0 hR _ u1 u2, ⟨qw32 _, congrArg some (congrArg Value.int (qw32_e _).symm), fun _ => by unfold a_8; rw [← kF _ (by omega)]; rfl⟩⟩)
  · refine q_iconst G dX5_form_53 ?_
    refine q_goto (tgt := 70) G dX5_form_54 (by decide) ?_
    exact q_iret G dX5_form_70 hret (by omega) (by omega) (⟨up2 (mI M) mo 0 (e_8 σ r k x), mL M, rfl, frR_I (frR_rf _ _ _ _ _ _ _ _) mo 0 _ (Or.inl rfl), up2_s _ _ _ _, RM_0 hR _ u1 u2, ⟨_, rfl, fun h9 => absurd h9 (by omega)⟩⟩)
set_option maxRecDepth 100000 in
set_option maxHeartbeats 4000000 in
theorem c_X5_form (l : Launch) (D : va_G) (cy : Nat → ClassId) (M : qM) (mo qa qb qc qf qt : Nat) (hMO : qMO M mo qa qb qc qf qt) (σ : qS) (hR : RMd σ (mI M) (mL M) mo qa qb qc qf qt) (hW : WF σ) (r k x : Int) (hr : r32 r) (hk : r32 k) (hx : r32 x) : qCt l D cy yX5_form cX5_form 4 (some .int) { frames := 1, cells := 0, slots := 0, locals := 22 } 0 0 [.ref mo, .int (qI (r)), .int (qI (k)), .int (qI (x))] M (po5 M mo qa qb qc qf qt (σ) (e_8 σ r k x) (fun v => ∃ z, v = some (.int (qI z)) ∧ (e_8 σ r k x = 0 → z = a_8 σ r k x))) := by
  refine qCt_of (lv0 := [(0, .ref mo), (1, .int (qI (r))), (2, .int (qI (k))), (3, .int (qI (x)))]) (by decide) rfl (Nat.le_of_ble_eq_true rfl) ?_
  intro p e s m args below meth c G hname hret
  obtain ⟨hF, ⟨r2, r3, r4, r5, r8⟩, ⟨a2, a3, a4, a5, a8⟩, ⟨n1, n2, n3, n4, n5, n6⟩⟩ := id hMO
  obtain ⟨⟨k1, k6, k7, k9, k10, k11⟩, kF, kV, kC, kG⟩ := id hR
  obtain ⟨u1, u2, u3⟩ := qMO_ne hMO
  obtain ⟨w1, w2, w3⟩ := WF_n hW
  refine q_aload_n G 0 0 dX5_form_0 rfl rfl ?_
  refine q_aload_n G 0 0 dX5_form_1 rfl rfl ?_
  refine q_callV (As := []) (rest := [.ref mo]) G dX5_form_2 cw_X5_101 (c_X5_isAny l D cy M mo qa qb qc qf qt hMO (by omega)) hF.1 hF.2 (by decide) rfl rfl rfl (Nat.le_of_ble_eq_true rfl) rfl rfl ⟨Nat.le_of_ble_eq_true rfl, Nat.le_of_ble_eq_true rfl⟩ ⟨by decide, by decide⟩ (fun v9 M9 hq9 => ?_)
  obtain ⟨rfl, e9⟩ := hq9
  refine q_mem e9 ?_
  refine q_st (st2 := [.int (qI (if 0 < mL M mo 1 then 1 else 0)), .ref mo]) rfl ?_
  refine q_if_ne (tgt := 12) G dX5_form_5 (by decide) (by first | assumption | omega) (fun c1 => ?_) (fun c1 => ?_)
  · refine q_aload_n G 0 0 dX5_form_12 rfl rfl ?_
    refine q_iload_n G 1 1 dX5_form_13 rfl rfl ?_
    refine q_callV (As := [.int (qI (r))]) (rest := [.ref mo]) G dX5_form_14 cw_X5_124 (c_X5_place l D cy M mo qa qb qc qf qt hMO σ hR hW (r) (by omega)) hF.1 hF.2 (by decide) rfl rfl rfl (Nat.le_of_ble_eq_true rfl) rfl rfl ⟨Nat.le_of_ble_eq_true rfl, Nat.le_of_ble_eq_true rfl⟩ ⟨by decide, by decide⟩ (fun v9 M9 hq9 => ?_)
    obtain ⟨rfl, e9⟩ := hq9
    refine q_mem e9 ?_
    refine q_st (st2 := [.int (qI (if isPl σ r then plN r else -1)), .ref mo]) rfl ?_
    refine q_if_lt (tgt := 38) G dX5_form_17 (by decide) (by unfold plN; omega) (fun c2 => ?_) (fun c2 => ?_)
    · refine q_iconst G dX5_form_38 ?_
      refine q_goto (tgt := 43) G dX5_form_39 (by decide) ?_
      refine q_topI (z2 := e_8 σ r k x) (by (try unfold plN at *); unfold e_8; omega) ?_
      refine q_lvs [3, 2, 1, 0] rfl ?_
      exact j_X5_form l D cy M mo qa qb qc qf qt hMO σ hR hW r k x hr hk hx G hret
    · refine q_iload_n G 2 2 dX5_form_20 rfl rfl ?_
      refine q_if_lt (tgt := 38) G dX5_form_21 (by decide) (by first | assumption | omega) (fun c3 => ?_) (fun c3 => ?_)
      · refine q_iconst G dX5_form_38 ?_
        refine q_goto (tgt := 43) G dX5_form_39 (by decide) ?_
        refine q_topI (z2 := e_8 σ r k x) (by (try unfold plN at *); unfold e_8; omega) ?_
        refine q_lvs [3, 2, 1, 0] rfl ?_
        exact j_X5_form l D cy M mo qa qb qc qf qt hMO σ hR hW r k x hr hk hx G hret
      · refine q_iload_n G 2 2 dX5_form_24 rfl rfl ?_
        refine q_iconst G dX5_form_25 ?_
        refine q_icmp_gt (tgt := 38) G dX5_form_26 (by decide) (by first | assumption | omega) (by first | assumption | omega) (fun c4 => ?_) (fun c4 => ?_)
        · refine q_iconst G dX5_form_38 ?_
          refine q_goto (tgt := 43) G dX5_form_39 (by decide) ?_
          refine q_topI (z2 := e_8 σ r k x) (by (try unfold plN at *); unfold e_8; omega) ?_
          refine q_lvs [3, 2, 1, 0] rfl ?_
          exact j_X5_form l D cy M mo qa qb qc qf qt hMO σ hR hW r k x hr hk hx G hret
        · refine q_iload_n G 3 3 dX5_form_29 rfl rfl ?_
          refine q_if_lt (tgt := 38) G dX5_form_30 (by decide) (by first | assumption | omega) (fun c5 => ?_) (fun c5 => ?_)
          · refine q_iconst G dX5_form_38 ?_
            refine q_goto (tgt := 43) G dX5_form_39 (by decide) ?_
            refine q_topI (z2 := e_8 σ r k x) (by (try unfold plN at *); unfold e_8; omega) ?_
            refine q_lvs [3, 2, 1, 0] rfl ?_
            exact j_X5_form l D cy M mo qa qb qc qf qt hMO σ hR hW r k x hr hk hx G hret
          · refine q_iload_n G 3 3 dX5_form_33 rfl rfl ?_
            refine q_iconst G dX5_form_34 ?_
            refine q_icmp_le (tgt := 42) G dX5_form_35 (by decide) (by first | assumption | omega) (by first | assumption | omega) (fun c6 => ?_) (fun c6 => ?_)
            · refine q_iconst G dX5_form_42 ?_
              refine q_topI (z2 := e_8 σ r k x) (by (try unfold plN at *); unfold e_8; omega) ?_
              refine q_lvs [3, 2, 1, 0] rfl ?_
              exact j_X5_form l D cy M mo qa qb qc qf qt hMO σ hR hW r k x hr hk hx G hret
            · refine q_iconst G dX5_form_38 ?_
              refine q_goto (tgt := 43) G dX5_form_39 (by decide) ?_
              refine q_topI (z2 := e_8 σ r k x) (by (try unfold plN at *); unfold e_8; omega) ?_
              refine q_lvs [3, 2, 1, 0] rfl ?_
              exact j_X5_form l D cy M mo qa qb qc qf qt hMO σ hR hW r k x hr hk hx G hret
  · refine q_iconst G dX5_form_8 ?_
    refine q_goto (tgt := 43) G dX5_form_9 (by decide) ?_
    refine q_topI (z2 := e_8 σ r k x) (by (try unfold plN at *); unfold e_8; omega) ?_
    refine q_lvs [3, 2, 1, 0] rfl ?_
    exact j_X5_form l D cy M mo qa qb qc qf qt hMO σ hR hW r k x hr hk hx G hret
set_option maxRecDepth 100000 in
set_option maxHeartbeats 4000000 in
theorem j_X5_buffer {p : Program} {e : Env} {s : State} {m : MethodId} {args : Array Value} {below : List Frame} {meth : Method} {c : Code} (l : Launch) (D : va_G) (cy : Nat → ClassId) (M : qM) (mo qa qb qc qf qt : Nat) (hMO : qMO M mo qa qb qc qf qt) (σ : qS) (hR : RMd σ (mI M) (mL M) mo qa qb qc qf qt) (hW : WF σ) (i k : Int) (hi : r32 i) (hk : r32 k) (G : qG p s m args meth c cX5_buffer 3 yX5_buffer.cls D cy (qA (mP M) s.heap.size)) (hret : meth.sig.returnType = (some .long)) : qK p l e { frames := 1, cells := 0, slots := 0, locals := 22 } s m args below meth c (MQ below (qQ D cy (mP M) (po5 M mo qa qb qc qf qt (σ) (e_11 σ i k) (fun v => ∃ z, v = some (.long (qL z)) ∧ (e_11 σ i k = 0 → z = a_11 σ i k)))) args s 0 0 (qA (mP M) s.heap.size)) 3 D cy (qA (mP M) s.heap.size) 0 0 44 [(2, .int (qI (k))), (1, .int (qI (i))), (0, .ref mo)] [.int (qI (e_11 σ i k)), .ref mo] (M) := by
  obtain ⟨hF, ⟨r2, r3, r4, r5, r8⟩, ⟨a2, a3, a4, a5, a8⟩, ⟨n1, n2, n3, n4, n5, n6⟩⟩ := id hMO
  obtain ⟨⟨k1, k6, k7, k9, k10, k11⟩, kF, kV, kC, kG⟩ := id hR
  obtain ⟨u1, u2, u3⟩ := qMO_ne hMO
  obtain ⟨w1, w2, w3⟩ := WF_n hW
  refine q_pI (z := e_11 σ i k) G dX5_buffer_44 (pl_X5_27 _) nf_5_0 hF (by decide) (Nat.le_of_ble_eq_true rfl) (fs_5_0 _ _ _) ?_
  refine q_aload_n G 2 0 dX5_buffer_47 rfl rfl ?_
  refine q_gt (v := .int (qI (e_11 σ i k))) G dX5_buffer_48 fl_X5_27 hF (by decide) rfl (by simp [mI, mL, mR, sL, sI, sR, wL, wD, stF, up2, n1, n1.symm, n2, n2.symm, n3, n3.symm, u1, u1.symm, u2, u2.symm, u3, u3.symm]) ?_
  refine q_if_le (tgt := 58) G dX5_buffer_51 (by decide) (by unfold e_11; omega) (fun c1 => ?_) (fun c1 => ?_)
  · have q0 : sD σ ≠ 0 ∧ isSl i ∧ isSl k := by unfold e_11 at c1; omega
    refine q_aload_n G 2 0 dX5_buffer_58 rfl rfl ?_
    refine q_iload_n G 1 1 dX5_buffer_59 rfl rfl ?_
    refine q_iload_n G 0 2 dX5_buffer_60 rfl rfl ?_
    refine q_callV (As := [.int (qI (i)), .int (qI (k))]) (rest := []) G dX5_buffer_61 cw_X5_128 (c_X5_partOf l D cy (sI M mo 0 (e_11 σ i k)) mo qa qb qc qf qt hMO i k (by omega) (by omega)) hF.1 hF.2 (by decide) rfl rfl rfl (Nat.le_of_ble_eq_true rfl) rfl rfl ⟨Nat.le_of_ble_eq_true rfl, Nat.le_of_ble_eq_true rfl⟩ ⟨by decide, by decide⟩ (fun v9 M9 hq9 => ?_)
    obtain ⟨rfl, e9⟩ := hq9
    refine q_mem e9 ?_
    refine q_st (st2 := [.long (qL (if k = 0 then mL M qa i.toNat else if k = 1 then mL M qb i.toNat else mL M qc i.toNat))]) rfl ?_
    exact q_lret G dX5_buffer_64 hret (by omega) (by omega) (⟨up2 (mI M) mo 0 (e_11 σ i k), mL M, rfl, frR_I (frR_rf _ _ _ _ _ _ _ _) mo 0 _ (Or.inl rfl), up2_s _ _ _ _, RM_0 hR _ u1 u2, ⟨_, rfl, fun _ => by unfold a_11; rw [← kF _ (by omega)]; rfl⟩⟩)
  · refine q_lconst (z := 0) G dX5_buffer_54 (by decide +kernel) ?_
    refine q_goto (tgt := 64) G dX5_buffer_55 (by decide) ?_
    exact q_lret G dX5_buffer_64 hret (by omega) (by omega) (⟨up2 (mI M) mo 0 (e_11 σ i k), mL M, rfl, frR_I (frR_rf _ _ _ _ _ _ _ _) mo 0 _ (Or.inl rfl), up2_s _ _ _ _, RM_0 hR _ u1 u2, ⟨_, rfl, fun h9 => absurd h9 (by omega)⟩⟩)
set_option maxRecDepth 100000 in
set_option maxHeartbeats 4000000 in
theorem c_X5_buffer (l : Launch) (D : va_G) (cy : Nat → ClassId) (M : qM) (mo qa qb qc qf qt : Nat) (hMO : qMO M mo qa qb qc qf qt) (σ : qS) (hR : RMd σ (mI M) (mL M) mo qa qb qc qf qt) (hW : WF σ) (i k : Int) (hi : r32 i) (hk : r32 k) : qCt l D cy yX5_buffer cX5_buffer 3 (some .long) { frames := 1, cells := 0, slots := 0, locals := 22 } 0 0 [.ref mo, .int (qI (i)), .int (qI (k))] M (po5 M mo qa qb qc qf qt (σ) (e_11 σ i k) (fun v => ∃ z, v = some (.long (qL z)) ∧ (e_11 σ i k = 0 → z = a_11 σ i k))) := by
  refine qCt_of (lv0 := [(0, .ref mo), (1, .int (qI (i))), (2, .int (qI (k)))]) (by decide) rfl (Nat.le_of_ble_eq_true rfl) ?_
  intro p e s m args below meth c G hname hret
  obtain ⟨hF, ⟨r2, r3, r4, r5, r8⟩, ⟨a2, a3, a4, a5, a8⟩, ⟨n1, n2, n3, n4, n5, n6⟩⟩ := id hMO
  obtain ⟨⟨k1, k6, k7, k9, k10, k11⟩, kF, kV, kC, kG⟩ := id hR
  obtain ⟨u1, u2, u3⟩ := qMO_ne hMO
  obtain ⟨w1, w2, w3⟩ := WF_n hW
  refine q_aload_n G 0 0 dX5_buffer_0 rfl rfl ?_
  refine q_aload_n G 0 0 dX5_buffer_1 rfl rfl ?_
  refine q_callV (As := []) (rest := [.ref mo]) G dX5_buffer_2 cw_X5_101 (c_X5_isAny l D cy M mo qa qb qc qf qt hMO (by omega)) hF.1 hF.2 (by decide) rfl rfl rfl (Nat.le_of_ble_eq_true rfl) rfl rfl ⟨Nat.le_of_ble_eq_true rfl, Nat.le_of_ble_eq_true rfl⟩ ⟨by decide, by decide⟩ (fun v9 M9 hq9 => ?_)
  obtain ⟨rfl, e9⟩ := hq9
  refine q_mem e9 ?_
  refine q_st (st2 := [.int (qI (if 0 < mL M mo 1 then 1 else 0)), .ref mo]) rfl ?_
  refine q_if_ne (tgt := 12) G dX5_buffer_5 (by decide) (by first | assumption | omega) (fun c1 => ?_) (fun c1 => ?_)
  · refine q_iload_n G 1 1 dX5_buffer_12 rfl rfl ?_
    refine q_callS (As := [.int (qI (i))]) (rest := [.ref mo]) G dX5_buffer_13 cw_X5_145 (c_X5_isPlace l D cy M (i) (by omega)) rfl rfl (Nat.le_of_ble_eq_true rfl) rfl rfl ⟨Nat.le_of_ble_eq_true rfl, Nat.le_of_ble_eq_true rfl⟩ ⟨by decide, by decide⟩ (fun v9 M9 hq9 => ?_)
    obtain ⟨rfl, e9⟩ := hq9
    refine q_mem e9 ?_
    refine q_st (st2 := [.int (qI (if 0 ≤ i ∧ i < 3 then 1 else 0)), .ref mo]) rfl ?_
    refine q_if_eq (tgt := 26) G dX5_buffer_16 (by decide) (by first | assumption | omega) (fun c2 => ?_) (fun c2 => ?_)
    · refine q_iconst G dX5_buffer_26 ?_
      refine q_goto (tgt := 44) G dX5_buffer_27 (by decide) ?_
      refine q_topI (z2 := e_11 σ i k) (by unfold e_11; omega) ?_
      refine q_lvs [2, 1, 0] rfl ?_
      exact j_X5_buffer l D cy M mo qa qb qc qf qt hMO σ hR hW i k hi hk G hret
    · refine q_iload_n G 2 2 dX5_buffer_19 rfl rfl ?_
      refine q_callS (As := [.int (qI (k))]) (rest := [.ref mo]) G dX5_buffer_20 cw_X5_145 (c_X5_isPlace l D cy M (k) (by omega)) rfl rfl (Nat.le_of_ble_eq_true rfl) rfl rfl ⟨Nat.le_of_ble_eq_true rfl, Nat.le_of_ble_eq_true rfl⟩ ⟨by decide, by decide⟩ (fun v9 M9 hq9 => ?_)
      obtain ⟨rfl, e9⟩ := hq9
      refine q_mem e9 ?_
      refine q_st (st2 := [.int (qI (if 0 ≤ k ∧ k < 3 then 1 else 0)), .ref mo]) rfl ?_
      refine q_if_ne (tgt := 30) G dX5_buffer_23 (by decide) (by first | assumption | omega) (fun c3 => ?_) (fun c3 => ?_)
      · refine q_aload_n G 0 0 dX5_buffer_30 rfl rfl ?_
        refine q_gt (v := .ref qf) G dX5_buffer_31 fl_X5_19 hF (by decide) rfl (congrArg va_rf r5) ?_
        refine q_iload_n G 1 1 dX5_buffer_34 rfl rfl ?_
        refine q_baload G dX5_buffer_35 a5.1 a5.2.1 (by first | assumption | omega) (show (i) < ((mN M qf : Nat) : Int) by rw [a5.2.2]; omega) (show mN M qf < 2147483648 by rw [a5.2.2]; decide) ?_
        have kv1 := kV (Int.toNat (i)) (by omega)
        have wv1 := hW.2.2.2.1 (Int.toNat (i)) (by omega)
        refine q_if_ne (tgt := 43) G dX5_buffer_36 (by decide) (by first | assumption | omega) (fun c4 => ?_) (fun c4 => ?_)
        · refine q_iconst G dX5_buffer_43 ?_
          refine q_topI (z2 := e_11 σ i k) (by unfold e_11; omega) ?_
          refine q_lvs [2, 1, 0] rfl ?_
          exact j_X5_buffer l D cy M mo qa qb qc qf qt hMO σ hR hW i k hi hk G hret
        · refine q_iconst G dX5_buffer_39 ?_
          refine q_goto (tgt := 44) G dX5_buffer_40 (by decide) ?_
          refine q_topI (z2 := e_11 σ i k) (by unfold e_11; omega) ?_
          refine q_lvs [2, 1, 0] rfl ?_
          exact j_X5_buffer l D cy M mo qa qb qc qf qt hMO σ hR hW i k hi hk G hret
      · refine q_iconst G dX5_buffer_26 ?_
        refine q_goto (tgt := 44) G dX5_buffer_27 (by decide) ?_
        refine q_topI (z2 := e_11 σ i k) (by unfold e_11; omega) ?_
        refine q_lvs [2, 1, 0] rfl ?_
        exact j_X5_buffer l D cy M mo qa qb qc qf qt hMO σ hR hW i k hi hk G hret
  · refine q_iconst G dX5_buffer_8 ?_
    refine q_goto (tgt := 44) G dX5_buffer_9 (by decide) ?_
    refine q_topI (z2 := e_11 σ i k) (by unfold e_11; omega) ?_
    refine q_lvs [2, 1, 0] rfl ?_
    exact j_X5_buffer l D cy M mo qa qb qc qf qt hMO σ hR hW i k hi hk G hret
set_option maxRecDepth 100000 in
set_option maxHeartbeats 4000000 in
theorem j_X5_reduce {p : Program} {e : Env} {s : State} {m : MethodId} {args : Array Value} {below : List Frame} {meth : Method} {c : Code} (l : Launch) (D : va_G) (cy : Nat → ClassId) (M : qM) (mo qa qb qc qf qt : Nat) (hMO : qMO M mo qa qb qc qf qt) (σ : qS) (hR : RMd σ (mI M) (mL M) mo qa qb qc qf qt) (hW : WF σ) (i k : Int) (hi : r32 i) (hk : r32 k) (G : qG p s m args meth c cX5_reduce 3 yX5_reduce.cls D cy (qA (mP M) s.heap.size)) (hret : meth.sig.returnType = none) : qK p l e { frames := 2, cells := 0, slots := 0, locals := 52 } s m args below meth c (MQ below (qQ D cy (mP M) (po5 M mo qa qb qc qf qt (if e_11 σ i k = 0 then n_12 σ i k else σ) (e_11 σ i k) (fun v => v = none))) args s 0 0 (qA (mP M) s.heap.size)) 3 D cy (qA (mP M) s.heap.size) 0 0 44 [(2, .int (qI (k))), (1, .int (qI (i))), (0, .ref mo)] [.int (qI (e_11 σ i k)), .ref mo] (M) := by
  obtain ⟨hF, ⟨r2, r3, r4, r5, r8⟩, ⟨a2, a3, a4, a5, a8⟩, ⟨n1, n2, n3, n4, n5, n6⟩⟩ := id hMO
  obtain ⟨⟨k1, k6, k7, k9, k10, k11⟩, kF, kV, kC, kG⟩ := id hR
  obtain ⟨u1, u2, u3⟩ := qMO_ne hMO
  obtain ⟨w1, w2, w3⟩ := WF_n hW
  refine q_pI (z := e_11 σ i k) G dX5_reduce_44 (pl_X5_27 _) nf_5_0 hF (by decide) (Nat.le_of_ble_eq_true rfl) (fs_5_0 _ _ _) ?_
  refine q_aload_n G 2 0 dX5_reduce_47 rfl rfl ?_
  refine q_gt (v := .int (qI (e_11 σ i k))) G dX5_reduce_48 fl_X5_27 hF (by decide) rfl (by simp [mI, mL, mR, sL, sI, sR, wL, wD, stF, up2, n1, n1.symm, n2, n2.symm, n3, n3.symm, u1, u1.symm, u2, u2.symm, u3, u3.symm]) ?_
  refine q_if_le (tgt := 55) G dX5_reduce_51 (by decide) (by unfold e_11; omega) (fun c1 => ?_) (fun c1 => ?_)
  · have q0 : sD σ ≠ 0 ∧ isSl i ∧ isSl k ∧ sV σ i.toNat ≠ 0 := by unfold e_11 at c1; omega
    have he0 : e_11 σ i k = 0 := by have : 0 ≤ e_11 σ i k := (by unfold e_11; omega); omega
    have hd : dOk (sD σ) := by rcases hW.1 with h9 | h9; exact absurd h9 q0.1; exact h9
    have hd7 := hd.1
    have kv1 := hW.2.2.2.1 (Int.toNat i) (by omega)
    have g1 : gd (sD σ) (gM (mL M) qa qb qc (Int.toNat i)) := by rw [kF _ (by omega)]; exact hW.2.2.2.2.1 _ (Or.inl ⟨by omega, by omega⟩)
    refine q_aload_n G 2 0 dX5_reduce_55 rfl rfl ?_
    refine q_iload_n G 1 1 dX5_reduce_56 rfl rfl ?_
    refine q_iload_n G 0 2 dX5_reduce_57 rfl rfl ?_
    refine q_callV (As := [.int (qI (i)), .int (qI (k))]) (rest := []) G dX5_reduce_58 cw_X5_62 (c_X5_copy l D cy (sI M mo 0 (e_11 σ i k)) mo qa qb qc qf qt hMO i k (by omega) (by omega)) hF.1 hF.2 (by decide) rfl rfl rfl (Nat.le_of_ble_eq_true rfl) rfl rfl ⟨Nat.le_of_ble_eq_true rfl, Nat.le_of_ble_eq_true rfl⟩ ⟨by decide, by decide⟩ (fun v9 M9 hq9 => ?_)
    obtain ⟨rfl, e9⟩ := hq9
    refine q_mem e9 ?_
    refine q_st (st2 := []) rfl ?_
    refine q_mem (M2 := wL (sI M mo 0 (e_11 σ i k)) (stM (mL M) qa qb qc k.toNat (mL M qa i.toNat) (mL M qb i.toNat) (mL M qc i.toNat))) rfl ?_
    refine q_aload_n G 2 0 dX5_reduce_61 rfl rfl ?_
    refine q_iload_n G 0 2 dX5_reduce_62 rfl rfl ?_
    refine q_callV (As := [.int (qI (k))]) (rest := []) G dX5_reduce_63 cw_X5_58 (c_X5_settle l D cy (wL (sI M mo 0 (e_11 σ i k)) (stM (mL M) qa qb qc k.toNat (mL M qa i.toNat) (mL M qb i.toNat) (mL M qc i.toNat))) mo qa qb qc qf qt hMO k (by omega) (sD σ) (by omega) hd.2.1 (by show smI (sD σ) (stM _ _ _ _ k.toNat _ _ _ qa k.toNat) (stM _ _ _ _ k.toNat _ _ _ qb k.toNat) (stM _ _ _ _ k.toNat _ _ _ qc k.toNat) (stM _ _ _ _ k.toNat _ _ _ qa k.toNat) (stM _ _ _ _ k.toNat _ _ _ qb k.toNat) (stM _ _ _ _ k.toNat _ _ _ qc k.toNat); rw [stM_a _ _ _ _ n1 n2, stM_b _ _ _ _ n3, stM_c]; exact gd_smI (by omega) g1)) hF.1 hF.2 (by decide) rfl rfl rfl (Nat.le_of_ble_eq_true rfl) rfl rfl ⟨Nat.le_of_ble_eq_true rfl, Nat.le_of_ble_eq_true rfl⟩ ⟨by decide, by decide⟩ (fun v9 M9 hq9 => ?_)
    obtain ⟨rfl, la, lb, lc, e9, rd1, ps1, eq1⟩ := hq9
    refine q_st (st2 := []) rfl ?_
    refine q_mem (M2 := wL (sI M mo 0 (e_11 σ i k)) (stM (mL M) qa qb qc k.toNat (la) (lb) (lc))) (by rw [e9]; simp only [mL_wL, wL_wL, stM_stM _ _ _ _ _ _ _ _ _ _ _ n1 n2 n3]) ?_
    replace eq1 : fEq (mL M qa i.toNat) (mL M qb i.toNat) (mL M qc i.toNat) la lb lc := by have h9 := eq1; simp only [mL_wL, stM_a _ _ _ _ n1 n2, stM_b _ _ _ _ n3, stM_c] at h9; exact h9
    have hrd : rdOf (sF σ i.toNat) (la, lb, lc) := by rw [← kF _ (by omega)]; exact ⟨rd1, ps1, eq1⟩
    refine q_aload_n G 2 0 dX5_reduce_66 rfl rfl ?_
    refine q_gt (v := .ref qf) G dX5_reduce_67 fl_X5_19 hF (by decide) rfl (congrArg va_rf r5) ?_
    refine q_iload_n G 0 2 dX5_reduce_70 rfl rfl ?_
    refine q_iconst G dX5_reduce_71 ?_
    refine q_bastore G dX5_reduce_72 a5.1 a5.2.1 (by first | assumption | omega) (show (k) < ((mN M qf : Nat) : Int) by rw [a5.2.2]; omega) (show mN M qf < 2147483648 by rw [a5.2.2]; decide) (by decide +kernel) ?_
    exact q_vret G dX5_reduce_73 hret (by omega) (by omega) (⟨up2 (up2 (mI M) mo 0 (e_11 σ i k)) qf (Int.toNat k) 1, stM (mL M) qa qb qc k.toNat la lb lc, rfl, frR_I (frR_L (M := M) (frR_I (frR_rf _ _ _ _ _ _ _ _) mo 0 _ (Or.inl rfl)) rfl (frM_st (S := [k.toNat]) (frM_rf M qa qb qc _) (by simp) _ _ _)) qf _ _ (Or.inr (Or.inl rfl)), by rw [up2_a _ _ u1, up2_s], by rw [if_pos he0]; exact RM_V (RM_F (M := M) (RM_0 hR _ u1 u2) n4 n5 n6 (frM_st (S := [k.toNat]) (frM_rf M qa qb qc _) (by simp) _ _ _) (by intro y hy; simp at hy; omega) (by omega) (by rw [gM_s _ _ _ _ n1 n2 n3]; exact (redT_eq hrd).symm)) 1 u1 u3 _, rfl⟩)
  · exact q_vret G dX5_reduce_54 hret (by omega) (by omega) (⟨up2 (mI M) mo 0 (e_11 σ i k), mL M, rfl, frR_I (frR_rf _ _ _ _ _ _ _ _) mo 0 _ (Or.inl rfl), up2_s _ _ _ _, (by rw [if_neg (by omega)]; exact RM_0 hR _ u1 u2), rfl⟩)
set_option maxRecDepth 100000 in
set_option maxHeartbeats 4000000 in
theorem c_X5_reduce (l : Launch) (D : va_G) (cy : Nat → ClassId) (M : qM) (mo qa qb qc qf qt : Nat) (hMO : qMO M mo qa qb qc qf qt) (σ : qS) (hR : RMd σ (mI M) (mL M) mo qa qb qc qf qt) (hW : WF σ) (i k : Int) (hi : r32 i) (hk : r32 k) : qCt l D cy yX5_reduce cX5_reduce 3 none { frames := 2, cells := 0, slots := 0, locals := 52 } 0 0 [.ref mo, .int (qI (i)), .int (qI (k))] M (po5 M mo qa qb qc qf qt (if e_11 σ i k = 0 then n_12 σ i k else σ) (e_11 σ i k) (fun v => v = none)) := by
  refine qCt_of (lv0 := [(0, .ref mo), (1, .int (qI (i))), (2, .int (qI (k)))]) (by decide) rfl (Nat.le_of_ble_eq_true rfl) ?_
  intro p e s m args below meth c G hname hret
  obtain ⟨hF, ⟨r2, r3, r4, r5, r8⟩, ⟨a2, a3, a4, a5, a8⟩, ⟨n1, n2, n3, n4, n5, n6⟩⟩ := id hMO
  obtain ⟨⟨k1, k6, k7, k9, k10, k11⟩, kF, kV, kC, kG⟩ := id hR
  obtain ⟨u1, u2, u3⟩ := qMO_ne hMO
  obtain ⟨w1, w2, w3⟩ := WF_n hW
  refine q_aload_n G 0 0 dX5_reduce_0 rfl rfl ?_
  refine q_aload_n G 0 0 dX5_reduce_1 rfl rfl ?_
  refine q_callV (As := []) (rest := [.ref mo]) G dX5_reduce_2 cw_X5_101 (c_X5_isAny l D cy M mo qa qb qc qf qt hMO (by omega)) hF.1 hF.2 (by decide) rfl rfl rfl (Nat.le_of_ble_eq_true rfl) rfl rfl ⟨Nat.le_of_ble_eq_true rfl, Nat.le_of_ble_eq_true rfl⟩ ⟨by decide, by decide⟩ (fun v9 M9 hq9 => ?_)
  obtain ⟨rfl, e9⟩ := hq9
  refine q_mem e9 ?_
  refine q_st (st2 := [.int (qI (if 0 < mL M mo 1 then 1 else 0)), .ref mo]) rfl ?_
  refine q_if_ne (tgt := 12) G dX5_reduce_5 (by decide) (by first | assumption | omega) (fun c1 => ?_) (fun c1 => ?_)
  · refine q_iload_n G 1 1 dX5_reduce_12 rfl rfl ?_
    refine q_callS (As := [.int (qI (i))]) (rest := [.ref mo]) G dX5_reduce_13 cw_X5_145 (c_X5_isPlace l D cy M (i) (by omega)) rfl rfl (Nat.le_of_ble_eq_true rfl) rfl rfl ⟨Nat.le_of_ble_eq_true rfl, Nat.le_of_ble_eq_true rfl⟩ ⟨by decide, by decide⟩ (fun v9 M9 hq9 => ?_)
    obtain ⟨rfl, e9⟩ := hq9
    refine q_mem e9 ?_
    refine q_st (st2 := [.int (qI (if 0 ≤ i ∧ i < 3 then 1 else 0)), .ref mo]) rfl ?_
    refine q_if_eq (tgt := 26) G dX5_reduce_16 (by decide) (by first | assumption | omega) (fun c2 => ?_) (fun c2 => ?_)
    · refine q_iconst G dX5_reduce_26 ?_
      refine q_goto (tgt := 44) G dX5_reduce_27 (by decide) ?_
      refine q_topI (z2 := e_11 σ i k) (by unfold e_11; omega) ?_
      refine q_lvs [2, 1, 0] rfl ?_
      exact j_X5_reduce l D cy M mo qa qb qc qf qt hMO σ hR hW i k hi hk G hret
    · refine q_iload_n G 2 2 dX5_reduce_19 rfl rfl ?_
      refine q_callS (As := [.int (qI (k))]) (rest := [.ref mo]) G dX5_reduce_20 cw_X5_145 (c_X5_isPlace l D cy M (k) (by omega)) rfl rfl (Nat.le_of_ble_eq_true rfl) rfl rfl ⟨Nat.le_of_ble_eq_true rfl, Nat.le_of_ble_eq_true rfl⟩ ⟨by decide, by decide⟩ (fun v9 M9 hq9 => ?_)
      obtain ⟨rfl, e9⟩ := hq9
      refine q_mem e9 ?_
      refine q_st (st2 := [.int (qI (if 0 ≤ k ∧ k < 3 then 1 else 0)), .ref mo]) rfl ?_
      refine q_if_ne (tgt := 30) G dX5_reduce_23 (by decide) (by first | assumption | omega) (fun c3 => ?_) (fun c3 => ?_)
      · refine q_aload_n G 0 0 dX5_reduce_30 rfl rfl ?_
        refine q_gt (v := .ref qf) G dX5_reduce_31 fl_X5_19 hF (by decide) rfl (congrArg va_rf r5) ?_
        refine q_iload_n G 1 1 dX5_reduce_34 rfl rfl ?_
        refine q_baload G dX5_reduce_35 a5.1 a5.2.1 (by first | assumption | omega) (show (i) < ((mN M qf : Nat) : Int) by rw [a5.2.2]; omega) (show mN M qf < 2147483648 by rw [a5.2.2]; decide) ?_
        have kv1 := kV (Int.toNat (i)) (by omega)
        have wv1 := hW.2.2.2.1 (Int.toNat (i)) (by omega)
        refine q_if_ne (tgt := 43) G dX5_reduce_36 (by decide) (by first | assumption | omega) (fun c4 => ?_) (fun c4 => ?_)
        · refine q_iconst G dX5_reduce_43 ?_
          refine q_topI (z2 := e_11 σ i k) (by unfold e_11; omega) ?_
          refine q_lvs [2, 1, 0] rfl ?_
          exact j_X5_reduce l D cy M mo qa qb qc qf qt hMO σ hR hW i k hi hk G hret
        · refine q_iconst G dX5_reduce_39 ?_
          refine q_goto (tgt := 44) G dX5_reduce_40 (by decide) ?_
          refine q_topI (z2 := e_11 σ i k) (by unfold e_11; omega) ?_
          refine q_lvs [2, 1, 0] rfl ?_
          exact j_X5_reduce l D cy M mo qa qb qc qf qt hMO σ hR hW i k hi hk G hret
      · refine q_iconst G dX5_reduce_26 ?_
        refine q_goto (tgt := 44) G dX5_reduce_27 (by decide) ?_
        refine q_topI (z2 := e_11 σ i k) (by unfold e_11; omega) ?_
        refine q_lvs [2, 1, 0] rfl ?_
        exact j_X5_reduce l D cy M mo qa qb qc qf qt hMO σ hR hW i k hi hk G hret
  · refine q_iconst G dX5_reduce_8 ?_
    refine q_goto (tgt := 44) G dX5_reduce_9 (by decide) ?_
    refine q_topI (z2 := e_11 σ i k) (by unfold e_11; omega) ?_
    refine q_lvs [2, 1, 0] rfl ?_
    exact j_X5_reduce l D cy M mo qa qb qc qf qt hMO σ hR hW i k hi hk G hret
set_option maxRecDepth 100000 in
set_option maxHeartbeats 4000000 in
theorem j_X5_multiply {p : Program} {e : Env} {s : State} {m : MethodId} {args : Array Value} {below : List Frame} {meth : Method} {c : Code} (l : Launch) (D : va_G) (cy : Nat → ClassId) (M : qM) (mo qa qb qc qf qt : Nat) (hMO : qMO M mo qa qb qc qf qt) (σ : qS) (hR : RMd σ (mI M) (mL M) mo qa qb qc qf qt) (hW : WF σ) (i j k : Int) (hi : r32 i) (hj : r32 j) (hk : r32 k) (G : qG p s m args meth c cX5_multiply 4 yX5_multiply.cls D cy (qA (mP M) s.heap.size)) (hret : meth.sig.returnType = none) : qK p l e { frames := 4, cells := 0, slots := 0, locals := 135 } s m args below meth c (MQ below (qQ D cy (mP M) (po5 M mo qa qb qc qf qt (if e_13 σ i j k = 0 then n_13 σ i j k else σ) (e_13 σ i j k) (fun v => v = none))) args s 0 0 (qA (mP M) s.heap.size)) 4 D cy (qA (mP M) s.heap.size) 0 0 60 [(3, .int (qI (k))), (2, .int (qI (j))), (1, .int (qI (i))), (0, .ref mo)] [.int (qI (e_13 σ i j k)), .ref mo] (M) := by
  obtain ⟨hF, ⟨r2, r3, r4, r5, r8⟩, ⟨a2, a3, a4, a5, a8⟩, ⟨n1, n2, n3, n4, n5, n6⟩⟩ := id hMO
  obtain ⟨⟨k1, k6, k7, k9, k10, k11⟩, kF, kV, kC, kG⟩ := id hR
  obtain ⟨u1, u2, u3⟩ := qMO_ne hMO
  obtain ⟨w1, w2, w3⟩ := WF_n hW
  refine q_pI (z := e_13 σ i j k) G dX5_multiply_60 (pl_X5_27 _) nf_5_0 hF (by decide) (Nat.le_of_ble_eq_true rfl) (fs_5_0 _ _ _) ?_
  refine q_aload_n G 3 0 dX5_multiply_63 rfl rfl ?_
  refine q_gt (v := .int (qI (e_13 σ i j k))) G dX5_multiply_64 fl_X5_27 hF (by decide) rfl (by simp [mI, mL, mR, sL, sI, sR, wL, wD, stF, up2, n1, n1.symm, n2, n2.symm, n3, n3.symm, u1, u1.symm, u2, u2.symm, u3, u3.symm]) ?_
  refine q_if_le (tgt := 71) G dX5_multiply_67 (by decide) (by unfold e_13; omega) (fun c1 => ?_) (fun c1 => ?_)
  · have q0 : sD σ ≠ 0 ∧ isSl i ∧ isSl j ∧ isSl k ∧ sV σ i.toNat ≠ 0 ∧ sV σ j.toNat ≠ 0 := by unfold e_13 at c1; omega
    have he0 : e_13 σ i j k = 0 := by have : 0 ≤ e_13 σ i j k := (by unfold e_13; omega); omega
    have hd : dOk (sD σ) := by rcases hW.1 with h9 | h9; exact absurd h9 q0.1; exact h9
    have hd7 := hd.1
    have kv1 := hW.2.2.2.1 (Int.toNat i) (by omega)
    have g1 : gd (sD σ) (gM (mL M) qa qb qc (Int.toNat i)) := by rw [kF _ (by omega)]; exact hW.2.2.2.2.1 _ (Or.inl ⟨by omega, by omega⟩)
    have kv2 := hW.2.2.2.1 (Int.toNat j) (by omega)
    have g2 : gd (sD σ) (gM (mL M) qa qb qc (Int.toNat j)) := by rw [kF _ (by omega)]; exact hW.2.2.2.2.1 _ (Or.inl ⟨by omega, by omega⟩)
    refine q_aload_n G 3 0 dX5_multiply_71 rfl rfl ?_
    refine q_iload_n G 2 1 dX5_multiply_72 rfl rfl ?_
    refine q_iload_n G 1 2 dX5_multiply_73 rfl rfl ?_
    refine q_iload_n G 0 3 dX5_multiply_74 rfl rfl ?_
    refine q_callV (As := [.int (qI (i)), .int (qI (j)), .int (qI (k))]) (rest := []) G dX5_multiply_75 cw_X5_69 (c_X5_times l D cy (sI M mo 0 (e_13 σ i j k)) mo qa qb qc qf qt hMO (sD σ) hd i j k (by omega) (by omega) (by omega) (by omega) g1 g2) hF.1 hF.2 (by decide) rfl rfl rfl (Nat.le_of_ble_eq_true rfl) rfl rfl ⟨Nat.le_of_ble_eq_true rfl, Nat.le_of_ble_eq_true rfl⟩ ⟨by decide, by decide⟩ (fun v9 M9 hq9 => ?_)
    obtain ⟨rfl, L1, e9, fr1, v1, g3, d1⟩ := hq9
    refine q_st (st2 := []) rfl ?_
    refine q_mem (M2 := wL (sI M mo 0 (e_13 σ i j k)) L1) e9 ?_
    replace fr1 : frM M L1 qa qb qc [58, 59, k.toNat] := fr1
    refine q_aload_n G 3 0 dX5_multiply_78 rfl rfl ?_
    refine q_gt (v := .ref qf) G dX5_multiply_79 fl_X5_19 hF (by decide) rfl (congrArg va_rf r5) ?_
    refine q_iload_n G 0 3 dX5_multiply_82 rfl rfl ?_
    refine q_iconst G dX5_multiply_83 ?_
    refine q_bastore G dX5_multiply_84 a5.1 a5.2.1 (by first | assumption | omega) (show (k) < ((mN M qf : Nat) : Int) by rw [a5.2.2]; omega) (show mN M qf < 2147483648 by rw [a5.2.2]; decide) (by decide +kernel) ?_
    exact q_vret G dX5_multiply_85 hret (by omega) (by omega) (⟨up2 (up2 (mI M) mo 0 (e_13 σ i j k)) qf (Int.toNat k) 1, L1, rfl, frR_I (frR_L (M := M) (frR_I (frR_rf _ _ _ _ _ _ _ _) mo 0 _ (Or.inl rfl)) rfl (fr1)) qf _ _ (Or.inr (Or.inl rfl)), by rw [up2_a _ _ u1, up2_s], by rw [if_pos he0]; exact RM_V (RM_F (M := M) (RM_0 hR _ u1 u2) n4 n5 n6 (fr1) (by intro y hy; simp at hy; omega) (by omega) (by rw [v1, ← kF _ (by omega), ← kF _ (by omega)]; rfl)) 1 u1 u3 _, rfl⟩)
  · exact q_vret G dX5_multiply_70 hret (by omega) (by omega) (⟨up2 (mI M) mo 0 (e_13 σ i j k), mL M, rfl, frR_I (frR_rf _ _ _ _ _ _ _ _) mo 0 _ (Or.inl rfl), up2_s _ _ _ _, (by rw [if_neg (by omega)]; exact RM_0 hR _ u1 u2), rfl⟩)
set_option maxRecDepth 100000 in
set_option maxHeartbeats 4000000 in
theorem c_X5_multiply (l : Launch) (D : va_G) (cy : Nat → ClassId) (M : qM) (mo qa qb qc qf qt : Nat) (hMO : qMO M mo qa qb qc qf qt) (σ : qS) (hR : RMd σ (mI M) (mL M) mo qa qb qc qf qt) (hW : WF σ) (i j k : Int) (hi : r32 i) (hj : r32 j) (hk : r32 k) : qCt l D cy yX5_multiply cX5_multiply 4 none { frames := 4, cells := 0, slots := 0, locals := 135 } 0 0 [.ref mo, .int (qI (i)), .int (qI (j)), .int (qI (k))] M (po5 M mo qa qb qc qf qt (if e_13 σ i j k = 0 then n_13 σ i j k else σ) (e_13 σ i j k) (fun v => v = none)) := by
  refine qCt_of (lv0 := [(0, .ref mo), (1, .int (qI (i))), (2, .int (qI (j))), (3, .int (qI (k)))]) (by decide) rfl (Nat.le_of_ble_eq_true rfl) ?_
  intro p e s m args below meth c G hname hret
  obtain ⟨hF, ⟨r2, r3, r4, r5, r8⟩, ⟨a2, a3, a4, a5, a8⟩, ⟨n1, n2, n3, n4, n5, n6⟩⟩ := id hMO
  obtain ⟨⟨k1, k6, k7, k9, k10, k11⟩, kF, kV, kC, kG⟩ := id hR
  obtain ⟨u1, u2, u3⟩ := qMO_ne hMO
  obtain ⟨w1, w2, w3⟩ := WF_n hW
  refine q_aload_n G 0 0 dX5_multiply_0 rfl rfl ?_
  refine q_aload_n G 0 0 dX5_multiply_1 rfl rfl ?_
  refine q_callV (As := []) (rest := [.ref mo]) G dX5_multiply_2 cw_X5_101 (c_X5_isAny l D cy M mo qa qb qc qf qt hMO (by omega)) hF.1 hF.2 (by decide) rfl rfl rfl (Nat.le_of_ble_eq_true rfl) rfl rfl ⟨Nat.le_of_ble_eq_true rfl, Nat.le_of_ble_eq_true rfl⟩ ⟨by decide, by decide⟩ (fun v9 M9 hq9 => ?_)
  obtain ⟨rfl, e9⟩ := hq9
  refine q_mem e9 ?_
  refine q_st (st2 := [.int (qI (if 0 < mL M mo 1 then 1 else 0)), .ref mo]) rfl ?_
  refine q_if_ne (tgt := 12) G dX5_multiply_5 (by decide) (by first | assumption | omega) (fun c1 => ?_) (fun c1 => ?_)
  · refine q_iload_n G 1 1 dX5_multiply_12 rfl rfl ?_
    refine q_callS (As := [.int (qI (i))]) (rest := [.ref mo]) G dX5_multiply_13 cw_X5_145 (c_X5_isPlace l D cy M (i) (by omega)) rfl rfl (Nat.le_of_ble_eq_true rfl) rfl rfl ⟨Nat.le_of_ble_eq_true rfl, Nat.le_of_ble_eq_true rfl⟩ ⟨by decide, by decide⟩ (fun v9 M9 hq9 => ?_)
    obtain ⟨rfl, e9⟩ := hq9
    refine q_mem e9 ?_
    refine q_st (st2 := [.int (qI (if 0 ≤ i ∧ i < 3 then 1 else 0)), .ref mo]) rfl ?_
    refine q_if_eq (tgt := 33) G dX5_multiply_16 (by decide) (by first | assumption | omega) (fun c2 => ?_) (fun c2 => ?_)
    · refine q_iconst G dX5_multiply_33 ?_
      refine q_goto (tgt := 60) G dX5_multiply_34 (by decide) ?_
      refine q_topI (z2 := e_13 σ i j k) (by unfold e_13; omega) ?_
      refine q_lvs [3, 2, 1, 0] rfl ?_
      exact j_X5_multiply l D cy M mo qa qb qc qf qt hMO σ hR hW i j k hi hj hk G hret
    · refine q_iload_n G 2 2 dX5_multiply_19 rfl rfl ?_
      refine q_callS (As := [.int (qI (j))]) (rest := [.ref mo]) G dX5_multiply_20 cw_X5_145 (c_X5_isPlace l D cy M (j) (by omega)) rfl rfl (Nat.le_of_ble_eq_true rfl) rfl rfl ⟨Nat.le_of_ble_eq_true rfl, Nat.le_of_ble_eq_true rfl⟩ ⟨by decide, by decide⟩ (fun v9 M9 hq9 => ?_)
      obtain ⟨rfl, e9⟩ := hq9
      refine q_mem e9 ?_
      refine q_st (st2 := [.int (qI (if 0 ≤ j ∧ j < 3 then 1 else 0)), .ref mo]) rfl ?_
      refine q_if_eq (tgt := 33) G dX5_multiply_23 (by decide) (by first | assumption | omega) (fun c3 => ?_) (fun c3 => ?_)
      · refine q_iconst G dX5_multiply_33 ?_
        refine q_goto (tgt := 60) G dX5_multiply_34 (by decide) ?_
        refine q_topI (z2 := e_13 σ i j k) (by unfold e_13; omega) ?_
        refine q_lvs [3, 2, 1, 0] rfl ?_
        exact j_X5_multiply l D cy M mo qa qb qc qf qt hMO σ hR hW i j k hi hj hk G hret
      · refine q_iload_n G 3 3 dX5_multiply_26 rfl rfl ?_
        refine q_callS (As := [.int (qI (k))]) (rest := [.ref mo]) G dX5_multiply_27 cw_X5_145 (c_X5_isPlace l D cy M (k) (by omega)) rfl rfl (Nat.le_of_ble_eq_true rfl) rfl rfl ⟨Nat.le_of_ble_eq_true rfl, Nat.le_of_ble_eq_true rfl⟩ ⟨by decide, by decide⟩ (fun v9 M9 hq9 => ?_)
        obtain ⟨rfl, e9⟩ := hq9
        refine q_mem e9 ?_
        refine q_st (st2 := [.int (qI (if 0 ≤ k ∧ k < 3 then 1 else 0)), .ref mo]) rfl ?_
        refine q_if_ne (tgt := 37) G dX5_multiply_30 (by decide) (by first | assumption | omega) (fun c4 => ?_) (fun c4 => ?_)
        · refine q_aload_n G 0 0 dX5_multiply_37 rfl rfl ?_
          refine q_gt (v := .ref qf) G dX5_multiply_38 fl_X5_19 hF (by decide) rfl (congrArg va_rf r5) ?_
          refine q_iload_n G 1 1 dX5_multiply_41 rfl rfl ?_
          refine q_baload G dX5_multiply_42 a5.1 a5.2.1 (by first | assumption | omega) (show (i) < ((mN M qf : Nat) : Int) by rw [a5.2.2]; omega) (show mN M qf < 2147483648 by rw [a5.2.2]; decide) ?_
          have kv1 := kV (Int.toNat (i)) (by omega)
          have wv1 := hW.2.2.2.1 (Int.toNat (i)) (by omega)
          refine q_if_eq (tgt := 55) G dX5_multiply_43 (by decide) (by first | assumption | omega) (fun c5 => ?_) (fun c5 => ?_)
          · refine q_iconst G dX5_multiply_55 ?_
            refine q_goto (tgt := 60) G dX5_multiply_56 (by decide) ?_
            refine q_topI (z2 := e_13 σ i j k) (by unfold e_13; omega) ?_
            refine q_lvs [3, 2, 1, 0] rfl ?_
            exact j_X5_multiply l D cy M mo qa qb qc qf qt hMO σ hR hW i j k hi hj hk G hret
          · refine q_aload_n G 0 0 dX5_multiply_46 rfl rfl ?_
            refine q_gt (v := .ref qf) G dX5_multiply_47 fl_X5_19 hF (by decide) rfl (congrArg va_rf r5) ?_
            refine q_iload_n G 2 2 dX5_multiply_50 rfl rfl ?_
            refine q_baload G dX5_multiply_51 a5.1 a5.2.1 (by first | assumption | omega) (show (j) < ((mN M qf : Nat) : Int) by rw [a5.2.2]; omega) (show mN M qf < 2147483648 by rw [a5.2.2]; decide) ?_
            have kv2 := kV (Int.toNat (j)) (by omega)
            have wv2 := hW.2.2.2.1 (Int.toNat (j)) (by omega)
            refine q_if_ne (tgt := 59) G dX5_multiply_52 (by decide) (by first | assumption | omega) (fun c6 => ?_) (fun c6 => ?_)
            · refine q_iconst G dX5_multiply_59 ?_
              refine q_topI (z2 := e_13 σ i j k) (by unfold e_13; omega) ?_
              refine q_lvs [3, 2, 1, 0] rfl ?_
              exact j_X5_multiply l D cy M mo qa qb qc qf qt hMO σ hR hW i j k hi hj hk G hret
            · refine q_iconst G dX5_multiply_55 ?_
              refine q_goto (tgt := 60) G dX5_multiply_56 (by decide) ?_
              refine q_topI (z2 := e_13 σ i j k) (by unfold e_13; omega) ?_
              refine q_lvs [3, 2, 1, 0] rfl ?_
              exact j_X5_multiply l D cy M mo qa qb qc qf qt hMO σ hR hW i j k hi hj hk G hret
        · refine q_iconst G dX5_multiply_33 ?_
          refine q_goto (tgt := 60) G dX5_multiply_34 (by decide) ?_
          refine q_topI (z2 := e_13 σ i j k) (by unfold e_13; omega) ?_
          refine q_lvs [3, 2, 1, 0] rfl ?_
          exact j_X5_multiply l D cy M mo qa qb qc qf qt hMO σ hR hW i j k hi hj hk G hret
  · refine q_iconst G dX5_multiply_8 ?_
    refine q_goto (tgt := 60) G dX5_multiply_9 (by decide) ?_
    refine q_topI (z2 := e_13 σ i j k) (by unfold e_13; omega) ?_
    refine q_lvs [3, 2, 1, 0] rfl ?_
    exact j_X5_multiply l D cy M mo qa qb qc qf qt hMO σ hR hW i j k hi hj hk G hret
set_option maxRecDepth 100000 in
set_option maxHeartbeats 4000000 in
theorem j_X5_raise {p : Program} {e : Env} {s : State} {m : MethodId} {args : Array Value} {below : List Frame} {meth : Method} {c : Code} (l : Launch) (D : va_G) (cy : Nat → ClassId) (M : qM) (mo qa qb qc qf qt : Nat) (hMO : qMO M mo qa qb qc qf qt) (σ : qS) (hR : RMd σ (mI M) (mL M) mo qa qb qc qf qt) (hW : WF σ) (i n k : Int) (hi : r32 i) (hn : r32 n) (hk : r32 k) (G : qG p s m args meth c cX5_raise 4 yX5_raise.cls D cy (qA (mP M) s.heap.size)) (hret : meth.sig.returnType = none) : qK p l e { frames := 5, cells := 0, slots := 0, locals := 159 } s m args below meth c (MQ below (qQ D cy (mP M) (po5 M mo qa qb qc qf qt (if e_14 σ i n k = 0 then n_14 σ i n k else σ) (e_14 σ i n k) (fun v => v = none))) args s 0 0 (qA (mP M) s.heap.size)) 4 D cy (qA (mP M) s.heap.size) 0 0 52 [(3, .int (qI (k))), (2, .int (qI (n))), (1, .int (qI (i))), (0, .ref mo)] [.int (qI (e_14 σ i n k)), .ref mo] (M) := by
  obtain ⟨hF, ⟨r2, r3, r4, r5, r8⟩, ⟨a2, a3, a4, a5, a8⟩, ⟨n1, n2, n3, n4, n5, n6⟩⟩ := id hMO
  obtain ⟨⟨k1, k6, k7, k9, k10, k11⟩, kF, kV, kC, kG⟩ := id hR
  obtain ⟨u1, u2, u3⟩ := qMO_ne hMO
  obtain ⟨w1, w2, w3⟩ := WF_n hW
  refine q_pI (z := e_14 σ i n k) G dX5_raise_52 (pl_X5_27 _) nf_5_0 hF (by decide) (Nat.le_of_ble_eq_true rfl) (fs_5_0 _ _ _) ?_
  refine q_aload_n G 3 0 dX5_raise_55 rfl rfl ?_
  refine q_gt (v := .int (qI (e_14 σ i n k))) G dX5_raise_56 fl_X5_27 hF (by decide) rfl (by simp [mI, mL, mR, sL, sI, sR, wL, wD, stF, up2, n1, n1.symm, n2, n2.symm, n3, n3.symm, u1, u1.symm, u2, u2.symm, u3, u3.symm]) ?_
  refine q_if_le (tgt := 63) G dX5_raise_59 (by decide) (by unfold e_14; omega) (fun c1 => ?_) (fun c1 => ?_)
  · have q0 : sD σ ≠ 0 ∧ isSl i ∧ isSl k ∧ 0 ≤ n ∧ sV σ i.toNat ≠ 0 := by unfold e_14 at c1; omega
    have he0 : e_14 σ i n k = 0 := by have : 0 ≤ e_14 σ i n k := (by unfold e_14; omega); omega
    have hd : dOk (sD σ) := by rcases hW.1 with h9 | h9; exact absurd h9 q0.1; exact h9
    have hd7 := hd.1
    have kv1 := hW.2.2.2.1 (Int.toNat i) (by omega)
    have g1 : gd (sD σ) (gM (mL M) qa qb qc (Int.toNat i)) := by rw [kF _ (by omega)]; exact hW.2.2.2.2.1 _ (Or.inl ⟨by omega, by omega⟩)
    refine q_aload_n G 3 0 dX5_raise_63 rfl rfl ?_
    refine q_iload_n G 2 1 dX5_raise_64 rfl rfl ?_
    refine q_iload_n G 1 2 dX5_raise_65 rfl rfl ?_
    refine q_iload_n G 0 3 dX5_raise_66 rfl rfl ?_
    refine q_callV (As := [.int (qI (i)), .int (qI (n)), .int (qI (k))]) (rest := []) G dX5_raise_67 cw_X5_105 (c_X5_raiseTo l D cy (sI M mo 0 (e_14 σ i n k)) mo qa qb qc qf qt hMO (sD σ) hd (kG q0.1).1 i n k (by omega) (by omega) (by omega) g1) hF.1 hF.2 (by decide) rfl rfl rfl (Nat.le_of_ble_eq_true rfl) rfl rfl ⟨Nat.le_of_ble_eq_true rfl, Nat.le_of_ble_eq_true rfl⟩ ⟨by decide, by decide⟩ (fun v9 M9 hq9 => ?_)
    obtain ⟨rfl, L1, e9, fr1, v1, g3⟩ := hq9
    refine q_st (st2 := []) rfl ?_
    refine q_mem (M2 := wL (sI M mo 0 (e_14 σ i n k)) L1) e9 ?_
    replace fr1 : frM M L1 qa qb qc [58, 59, 56, 57, k.toNat] := fr1
    refine q_aload_n G 3 0 dX5_raise_70 rfl rfl ?_
    refine q_gt (v := .ref qf) G dX5_raise_71 fl_X5_19 hF (by decide) rfl (congrArg va_rf r5) ?_
    refine q_iload_n G 0 3 dX5_raise_74 rfl rfl ?_
    refine q_iconst G dX5_raise_75 ?_
    refine q_bastore G dX5_raise_76 a5.1 a5.2.1 (by first | assumption | omega) (show (k) < ((mN M qf : Nat) : Int) by rw [a5.2.2]; omega) (show mN M qf < 2147483648 by rw [a5.2.2]; decide) (by decide +kernel) ?_
    exact q_vret G dX5_raise_77 hret (by omega) (by omega) (⟨up2 (up2 (mI M) mo 0 (e_14 σ i n k)) qf (Int.toNat k) 1, L1, rfl, frR_I (frR_L (M := M) (frR_I (frR_rf _ _ _ _ _ _ _ _) mo 0 _ (Or.inl rfl)) rfl (fr1)) qf _ _ (Or.inr (Or.inl rfl)), by rw [up2_a _ _ u1, up2_s], by rw [if_pos he0]; exact RM_V (RM_F (M := M) (RM_0 hR _ u1 u2) n4 n5 n6 (fr1) (by intro y hy; simp at hy; omega) (by omega) (by rw [v1, ← kF _ (by omega)]; rfl)) 1 u1 u3 _, rfl⟩)
  · exact q_vret G dX5_raise_62 hret (by omega) (by omega) (⟨up2 (mI M) mo 0 (e_14 σ i n k), mL M, rfl, frR_I (frR_rf _ _ _ _ _ _ _ _) mo 0 _ (Or.inl rfl), up2_s _ _ _ _, (by rw [if_neg (by omega)]; exact RM_0 hR _ u1 u2), rfl⟩)
set_option maxRecDepth 100000 in
set_option maxHeartbeats 4000000 in
theorem c_X5_raise (l : Launch) (D : va_G) (cy : Nat → ClassId) (M : qM) (mo qa qb qc qf qt : Nat) (hMO : qMO M mo qa qb qc qf qt) (σ : qS) (hR : RMd σ (mI M) (mL M) mo qa qb qc qf qt) (hW : WF σ) (i n k : Int) (hi : r32 i) (hn : r32 n) (hk : r32 k) : qCt l D cy yX5_raise cX5_raise 4 none { frames := 5, cells := 0, slots := 0, locals := 159 } 0 0 [.ref mo, .int (qI (i)), .int (qI (n)), .int (qI (k))] M (po5 M mo qa qb qc qf qt (if e_14 σ i n k = 0 then n_14 σ i n k else σ) (e_14 σ i n k) (fun v => v = none)) := by
  refine qCt_of (lv0 := [(0, .ref mo), (1, .int (qI (i))), (2, .int (qI (n))), (3, .int (qI (k)))]) (by decide) rfl (Nat.le_of_ble_eq_true rfl) ?_
  intro p e s m args below meth c G hname hret
  obtain ⟨hF, ⟨r2, r3, r4, r5, r8⟩, ⟨a2, a3, a4, a5, a8⟩, ⟨n1, n2, n3, n4, n5, n6⟩⟩ := id hMO
  obtain ⟨⟨k1, k6, k7, k9, k10, k11⟩, kF, kV, kC, kG⟩ := id hR
  obtain ⟨u1, u2, u3⟩ := qMO_ne hMO
  obtain ⟨w1, w2, w3⟩ := WF_n hW
  refine q_aload_n G 0 0 dX5_raise_0 rfl rfl ?_
  refine q_aload_n G 0 0 dX5_raise_1 rfl rfl ?_
  refine q_callV (As := []) (rest := [.ref mo]) G dX5_raise_2 cw_X5_101 (c_X5_isAny l D cy M mo qa qb qc qf qt hMO (by omega)) hF.1 hF.2 (by decide) rfl rfl rfl (Nat.le_of_ble_eq_true rfl) rfl rfl ⟨Nat.le_of_ble_eq_true rfl, Nat.le_of_ble_eq_true rfl⟩ ⟨by decide, by decide⟩ (fun v9 M9 hq9 => ?_)
  obtain ⟨rfl, e9⟩ := hq9
  refine q_mem e9 ?_
  refine q_st (st2 := [.int (qI (if 0 < mL M mo 1 then 1 else 0)), .ref mo]) rfl ?_
  refine q_if_ne (tgt := 12) G dX5_raise_5 (by decide) (by first | assumption | omega) (fun c1 => ?_) (fun c1 => ?_)
  · refine q_iload_n G 1 1 dX5_raise_12 rfl rfl ?_
    refine q_callS (As := [.int (qI (i))]) (rest := [.ref mo]) G dX5_raise_13 cw_X5_145 (c_X5_isPlace l D cy M (i) (by omega)) rfl rfl (Nat.le_of_ble_eq_true rfl) rfl rfl ⟨Nat.le_of_ble_eq_true rfl, Nat.le_of_ble_eq_true rfl⟩ ⟨by decide, by decide⟩ (fun v9 M9 hq9 => ?_)
    obtain ⟨rfl, e9⟩ := hq9
    refine q_mem e9 ?_
    refine q_st (st2 := [.int (qI (if 0 ≤ i ∧ i < 3 then 1 else 0)), .ref mo]) rfl ?_
    refine q_if_eq (tgt := 26) G dX5_raise_16 (by decide) (by first | assumption | omega) (fun c2 => ?_) (fun c2 => ?_)
    · refine q_iconst G dX5_raise_26 ?_
      refine q_goto (tgt := 52) G dX5_raise_27 (by decide) ?_
      refine q_topI (z2 := e_14 σ i n k) (by unfold e_14; omega) ?_
      refine q_lvs [3, 2, 1, 0] rfl ?_
      exact j_X5_raise l D cy M mo qa qb qc qf qt hMO σ hR hW i n k hi hn hk G hret
    · refine q_iload_n G 3 3 dX5_raise_19 rfl rfl ?_
      refine q_callS (As := [.int (qI (k))]) (rest := [.ref mo]) G dX5_raise_20 cw_X5_145 (c_X5_isPlace l D cy M (k) (by omega)) rfl rfl (Nat.le_of_ble_eq_true rfl) rfl rfl ⟨Nat.le_of_ble_eq_true rfl, Nat.le_of_ble_eq_true rfl⟩ ⟨by decide, by decide⟩ (fun v9 M9 hq9 => ?_)
      obtain ⟨rfl, e9⟩ := hq9
      refine q_mem e9 ?_
      refine q_st (st2 := [.int (qI (if 0 ≤ k ∧ k < 3 then 1 else 0)), .ref mo]) rfl ?_
      refine q_if_ne (tgt := 30) G dX5_raise_23 (by decide) (by first | assumption | omega) (fun c3 => ?_) (fun c3 => ?_)
      · refine q_iload_n G 2 2 dX5_raise_30 rfl rfl ?_
        refine q_if_ge (tgt := 38) G dX5_raise_31 (by decide) (by first | assumption | omega) (fun c4 => ?_) (fun c4 => ?_)
        · refine q_aload_n G 0 0 dX5_raise_38 rfl rfl ?_
          refine q_gt (v := .ref qf) G dX5_raise_39 fl_X5_19 hF (by decide) rfl (congrArg va_rf r5) ?_
          refine q_iload_n G 1 1 dX5_raise_42 rfl rfl ?_
          refine q_baload G dX5_raise_43 a5.1 a5.2.1 (by first | assumption | omega) (show (i) < ((mN M qf : Nat) : Int) by rw [a5.2.2]; omega) (show mN M qf < 2147483648 by rw [a5.2.2]; decide) ?_
          have kv1 := kV (Int.toNat (i)) (by omega)
          have wv1 := hW.2.2.2.1 (Int.toNat (i)) (by omega)
          refine q_if_ne (tgt := 51) G dX5_raise_44 (by decide) (by first | assumption | omega) (fun c5 => ?_) (fun c5 => ?_)
          · refine q_iconst G dX5_raise_51 ?_
            refine q_topI (z2 := e_14 σ i n k) (by unfold e_14; omega) ?_
            refine q_lvs [3, 2, 1, 0] rfl ?_
            exact j_X5_raise l D cy M mo qa qb qc qf qt hMO σ hR hW i n k hi hn hk G hret
          · refine q_iconst G dX5_raise_47 ?_
            refine q_goto (tgt := 52) G dX5_raise_48 (by decide) ?_
            refine q_topI (z2 := e_14 σ i n k) (by unfold e_14; omega) ?_
            refine q_lvs [3, 2, 1, 0] rfl ?_
            exact j_X5_raise l D cy M mo qa qb qc qf qt hMO σ hR hW i n k hi hn hk G hret
        · refine q_iconst G dX5_raise_34 ?_
          refine q_goto (tgt := 52) G dX5_raise_35 (by decide) ?_
          refine q_topI (z2 := e_14 σ i n k) (by unfold e_14; omega) ?_
          refine q_lvs [3, 2, 1, 0] rfl ?_
          exact j_X5_raise l D cy M mo qa qb qc qf qt hMO σ hR hW i n k hi hn hk G hret
      · refine q_iconst G dX5_raise_26 ?_
        refine q_goto (tgt := 52) G dX5_raise_27 (by decide) ?_
        refine q_topI (z2 := e_14 σ i n k) (by unfold e_14; omega) ?_
        refine q_lvs [3, 2, 1, 0] rfl ?_
        exact j_X5_raise l D cy M mo qa qb qc qf qt hMO σ hR hW i n k hi hn hk G hret
  · refine q_iconst G dX5_raise_8 ?_
    refine q_goto (tgt := 52) G dX5_raise_9 (by decide) ?_
    refine q_topI (z2 := e_14 σ i n k) (by unfold e_14; omega) ?_
    refine q_lvs [3, 2, 1, 0] rfl ?_
    exact j_X5_raise l D cy M mo qa qb qc qf qt hMO σ hR hW i n k hi hn hk G hret
