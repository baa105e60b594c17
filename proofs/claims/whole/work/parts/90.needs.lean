abbrev sIS : String := "java/lang/IllegalStateException"
abbrev sIA : String := "java/lang/IllegalArgumentException"
abbrev sIO : String := "java/lang/IndexOutOfBoundsException"
abbrev sNS : String := "java/util/NoSuchElementException"
theorem qt_47_49 : qTh RX4 47 51 49 sIA "d is not 7 .. 1000000000 and 7 modulo 8" := ⟨⟨by decide +kernel, by decide +kernel⟩, rfl, by decide +kernel, by decide +kernel, qth_51⟩
theorem qt_54_56 : qTh RX4 54 58 56 sIS "a round is running" := ⟨⟨by decide +kernel, by decide +kernel⟩, rfl, by decide +kernel, by decide +kernel, qth_58⟩
theorem qt_54_69 : qTh RX4 54 58 69 sIS "a round is running, or the book is full" := ⟨⟨by decide +kernel, by decide +kernel⟩, rfl, by decide +kernel, by decide +kernel, qth_58⟩
theorem qt_54_117 : qTh RX4 54 58 117 sIS "no squarings are left" := ⟨⟨by decide +kernel, by decide +kernel⟩, rfl, by decide +kernel, by decide +kernel, qth_58⟩
theorem qt_54_133 : qTh RX4 54 58 133 sIS "squarings are left, or no steps are" := ⟨⟨by decide +kernel, by decide +kernel⟩, rfl, by decide +kernel, by decide +kernel, qth_58⟩
theorem qt_54_139 : qTh RX4 54 58 139 sIS "no round is ready to be booked" := ⟨⟨by decide +kernel, by decide +kernel⟩, rfl, by decide +kernel, by decide +kernel, qth_58⟩
theorem qt_145_147 : qTh RX4 145 149 147 sIO "what is not 0 .. 2" := ⟨⟨by decide +kernel, by decide +kernel⟩, rfl, by decide +kernel, by decide +kernel, qth_149⟩
theorem qt_145_157 : qTh RX4 145 149 157 sIO "which is not 0 .. 2" := ⟨⟨by decide +kernel, by decide +kernel⟩, rfl, by decide +kernel, by decide +kernel, qth_149⟩
theorem qt_47_179 : qTh RX4 47 51 179 sIA "there is no such form" := ⟨⟨by decide +kernel, by decide +kernel⟩, rfl, by decide +kernel, by decide +kernel, qth_51⟩
theorem qt_47_191 : qTh RX4 47 51 191 sIA "n is below 0" := ⟨⟨by decide +kernel, by decide +kernel⟩, rfl, by decide +kernel, by decide +kernel, qth_51⟩
theorem qt_47_201 : qTh RX4 47 51 201 sIA "most is not 1 .. 1000" := ⟨⟨by decide +kernel, by decide +kernel⟩, rfl, by decide +kernel, by decide +kernel, qth_51⟩
theorem qt_47_211 : qTh RX4 47 51 211 sIA "d is above 50000" := ⟨⟨by decide +kernel, by decide +kernel⟩, rfl, by decide +kernel, by decide +kernel, qth_51⟩
theorem qt_54_216 : qTh RX4 54 58 216 sIS "there is no discriminant yet" := ⟨⟨by decide +kernel, by decide +kernel⟩, rfl, by decide +kernel, by decide +kernel, qth_58⟩
theorem qt_47_218 : qTh RX4 47 51 218 sIA "not 1 .. 500" := ⟨⟨by decide +kernel, by decide +kernel⟩, rfl, by decide +kernel, by decide +kernel, qth_51⟩
theorem qt_145_220 : qTh RX4 145 149 220 sIO "the buffer has forms 0 .. 2" := ⟨⟨by decide +kernel, by decide +kernel⟩, rfl, by decide +kernel, by decide +kernel, qth_149⟩
theorem qt_145_222 : qTh RX4 145 149 222 sIO "a form has parts 0 .. 2" := ⟨⟨by decide +kernel, by decide +kernel⟩, rfl, by decide +kernel, by decide +kernel, qth_149⟩
theorem qt_224_226 : qThN RX4 224 228 226 sNS "there is no such form in the buffer" := ⟨⟨by decide +kernel, by decide +kernel⟩, rfl, by decide +kernel, by decide +kernel, qth_228⟩
theorem qt_145_229 : qTh RX4 145 149 229 sIO "there is no such round" := ⟨⟨by decide +kernel, by decide +kernel⟩, rfl, by decide +kernel, by decide +kernel, qth_149⟩
set_option maxRecDepth 100000 in
set_option maxHeartbeats 4000000 in
theorem c_X4_needDiscriminant (l : Launch) (hl : l.stackTraces = false) (D : va_G) (cy : Nat → ClassId) (M : qM) (x : Nat) (hO : qO M x 4) (hz : mI M x 4 = 0 ∨ mI M x 4 = 1) : qCx l D cy yX4_needDiscriminant cX4_needDiscriminant 1 none { frames := 6, cells := 1, slots := 6, locals := 90 } 1 6 [.ref x] M (fun v M' => (v = none ∧ M' = M) ∧ mI M x 4 ≠ 0) (fun E => E = sIS ∧ mI M x 4 = 0) := by
  refine qCx_of (lv0 := [(0, .ref x)]) (by decide) rfl (Nat.le_of_ble_eq_true rfl) ?_
  intro p e s m args below meth c G ht hret
  refine q_aload_n G 0 0 dX4_needDiscriminant_0 rfl rfl ?_
  refine q_gt (v := .int (qI (mI M x 4))) G dX4_needDiscriminant_1 fl_X4_34 hO (by decide) rfl rfl ?_
  refine q_if_ne (tgt := 17) G dX4_needDiscriminant_4 (by decide) (by first | assumption | omega) (fun c1 => ?_) (fun c1 => ?_)
  · refine q_retX ?_
    exact q_vret G dX4_needDiscriminant_17 hret (by omega) (by omega) (⟨⟨rfl, rfl⟩, by omega⟩)
  · exact q_throw (P0 := []) G hl qt_54_216 ⟨rfl, by omega⟩ dX4_needDiscriminant_7 dX4_needDiscriminant_10 dX4_needDiscriminant_11 dX4_needDiscriminant_13 dX4_needDiscriminant_16 ht (by decide) (by decide) (by decide) (by decide) (by omega) (by omega)
set_option maxRecDepth 100000 in
set_option maxHeartbeats 4000000 in
theorem c_X4_needTurns (l : Launch) (hl : l.stackTraces = false) (D : va_G) (cy : Nat → ClassId) (M : qM) (n : Int) (hn : r32 n) : qCx l D cy yX4_needTurns cX4_needTurns 1 none { frames := 6, cells := 1, slots := 6, locals := 90 } 1 6 [.int (qI (n))] M (fun v M' => (v = none ∧ M' = M) ∧ (1 ≤ n ∧ n ≤ 500)) (fun E => E = sIA ∧ ¬ (1 ≤ n ∧ n ≤ 500)) := by
  refine qCx_of (lv0 := [(0, .int (qI (n)))]) (by decide) rfl (Nat.le_of_ble_eq_true rfl) ?_
  intro p e s m args below meth c G ht hret
  refine q_iload_n G 0 0 dX4_needTurns_0 rfl rfl ?_
  refine q_iconst G dX4_needTurns_1 ?_
  refine q_icmp_lt (tgt := 12) G dX4_needTurns_2 (by decide) (by first | assumption | omega) (by first | assumption | omega) (fun c1 => ?_) (fun c1 => ?_)
  · exact q_throw (P0 := []) G hl qt_47_218 ⟨rfl, by omega⟩ dX4_needTurns_12 dX4_needTurns_15 dX4_needTurns_16 dX4_needTurns_18 dX4_needTurns_21 ht (by decide) (by decide) (by decide) (by decide) (by omega) (by omega)
  · refine q_iload_n G 0 0 dX4_needTurns_5 rfl rfl ?_
    refine q_sipush G dX4_needTurns_6 (by decide +kernel) ?_
    refine q_icmp_le (tgt := 22) G dX4_needTurns_9 (by decide) (by first | assumption | omega) (by first | assumption | omega) (fun c2 => ?_) (fun c2 => ?_)
    · refine q_retX ?_
      exact q_vret G dX4_needTurns_22 hret (by omega) (by omega) (⟨⟨rfl, rfl⟩, by omega⟩)
    · exact q_throw (P0 := []) G hl qt_47_218 ⟨rfl, by omega⟩ dX4_needTurns_12 dX4_needTurns_15 dX4_needTurns_16 dX4_needTurns_18 dX4_needTurns_21 ht (by decide) (by decide) (by decide) (by decide) (by omega) (by omega)
set_option maxRecDepth 100000 in
set_option maxHeartbeats 4000000 in
theorem c_X4_needSlot (l : Launch) (hl : l.stackTraces = false) (D : va_G) (cy : Nat → ClassId) (M : qM) (n : Int) (hn : r32 n) : qCx l D cy yX4_needSlot cX4_needSlot 1 none { frames := 6, cells := 1, slots := 6, locals := 90 } 1 6 [.int (qI (n))] M (fun v M' => (v = none ∧ M' = M) ∧ (0 ≤ n ∧ n < 3)) (fun E => E = sIO ∧ ¬ (0 ≤ n ∧ n < 3)) := by
  refine qCx_of (lv0 := [(0, .int (qI (n)))]) (by decide) rfl (Nat.le_of_ble_eq_true rfl) ?_
  intro p e s m args below meth c G ht hret
  refine q_iload_n G 0 0 dX4_needSlot_0 rfl rfl ?_
  refine q_if_lt (tgt := 9) G dX4_needSlot_1 (by decide) (by first | assumption | omega) (fun c1 => ?_) (fun c1 => ?_)
  · exact q_throw (P0 := []) G hl qt_145_220 ⟨rfl, by omega⟩ dX4_needSlot_9 dX4_needSlot_12 dX4_needSlot_13 dX4_needSlot_15 dX4_needSlot_18 ht (by decide) (by decide) (by decide) (by decide) (by omega) (by omega)
  · refine q_iload_n G 0 0 dX4_needSlot_4 rfl rfl ?_
    refine q_iconst G dX4_needSlot_5 ?_
    refine q_icmp_lt (tgt := 19) G dX4_needSlot_6 (by decide) (by first | assumption | omega) (by first | assumption | omega) (fun c2 => ?_) (fun c2 => ?_)
    · refine q_retX ?_
      exact q_vret G dX4_needSlot_19 hret (by omega) (by omega) (⟨⟨rfl, rfl⟩, by omega⟩)
    · exact q_throw (P0 := []) G hl qt_145_220 ⟨rfl, by omega⟩ dX4_needSlot_9 dX4_needSlot_12 dX4_needSlot_13 dX4_needSlot_15 dX4_needSlot_18 ht (by decide) (by decide) (by decide) (by decide) (by omega) (by omega)
set_option maxRecDepth 100000 in
set_option maxHeartbeats 4000000 in
theorem c_X4_needPart (l : Launch) (hl : l.stackTraces = false) (D : va_G) (cy : Nat → ClassId) (M : qM) (n : Int) (hn : r32 n) : qCx l D cy yX4_needPart cX4_needPart 1 none { frames := 6, cells := 1, slots := 6, locals := 90 } 1 6 [.int (qI (n))] M (fun v M' => (v = none ∧ M' = M) ∧ (0 ≤ n ∧ n < 3)) (fun E => E = sIO ∧ ¬ (0 ≤ n ∧ n < 3)) := by
  refine qCx_of (lv0 := [(0, .int (qI (n)))]) (by decide) rfl (Nat.le_of_ble_eq_true rfl) ?_
  intro p e s m args below meth c G ht hret
  refine q_iload_n G 0 0 dX4_needPart_0 rfl rfl ?_
  refine q_if_lt (tgt := 9) G dX4_needPart_1 (by decide) (by first | assumption | omega) (fun c1 => ?_) (fun c1 => ?_)
  · exact q_throw (P0 := []) G hl qt_145_222 ⟨rfl, by omega⟩ dX4_needPart_9 dX4_needPart_12 dX4_needPart_13 dX4_needPart_15 dX4_needPart_18 ht (by decide) (by decide) (by decide) (by decide) (by omega) (by omega)
  · refine q_iload_n G 0 0 dX4_needPart_4 rfl rfl ?_
    refine q_iconst G dX4_needPart_5 ?_
    refine q_icmp_lt (tgt := 19) G dX4_needPart_6 (by decide) (by first | assumption | omega) (by first | assumption | omega) (fun c2 => ?_) (fun c2 => ?_)
    · refine q_retX ?_
      exact q_vret G dX4_needPart_19 hret (by omega) (by omega) (⟨⟨rfl, rfl⟩, by omega⟩)
    · exact q_throw (P0 := []) G hl qt_145_222 ⟨rfl, by omega⟩ dX4_needPart_9 dX4_needPart_12 dX4_needPart_13 dX4_needPart_15 dX4_needPart_18 ht (by decide) (by decide) (by decide) (by decide) (by omega) (by omega)
set_option maxRecDepth 100000 in
set_option maxHeartbeats 4000000 in
theorem c_X4_needFilled (l : Launch) (hl : l.stackTraces = false) (D : va_G) (cy : Nat → ClassId) (M : qM) (x fi : Nat) (n : Int) (hO : qO M x 4) (r3 : mR M x 3 = some fi) (aF : qAr M fi 8 3) (hn : 0 ≤ n ∧ n < 3) (hz : mI M fi n.toNat = 0 ∨ mI M fi n.toNat = 1) : qCx l D cy yX4_needFilled cX4_needFilled 2 none { frames := 6, cells := 1, slots := 6, locals := 90 } 1 6 [.ref x, .int (qI (n))] M (fun v M' => (v = none ∧ M' = M) ∧ mI M fi n.toNat ≠ 0) (fun E => E = sNS ∧ mI M fi n.toNat = 0) := by
  refine qCx_of (lv0 := [(0, .ref x), (1, .int (qI (n)))]) (by decide) rfl (Nat.le_of_ble_eq_true rfl) ?_
  intro p e s m args below meth c G ht hret
  refine q_aload_n G 0 0 dX4_needFilled_0 rfl rfl ?_
  refine q_gt (v := .ref fi) G dX4_needFilled_1 fl_X4_30 hO (by decide) rfl (congrArg va_rf r3) ?_
  refine q_iload_n G 1 1 dX4_needFilled_4 rfl rfl ?_
  refine q_baload G dX4_needFilled_5 aF.1 aF.2.1 (by first | assumption | omega) (show (n) < ((mN M fi : Nat) : Int) by rw [aF.2.2]; omega) (show mN M fi < 2147483648 by rw [aF.2.2]; decide) ?_
  refine q_if_ne (tgt := 19) G dX4_needFilled_6 (by decide) (by first | assumption | omega) (fun c1 => ?_) (fun c1 => ?_)
  · refine q_retX ?_
    exact q_vret G dX4_needFilled_19 hret (by omega) (by omega) (⟨⟨rfl, rfl⟩, by omega⟩)
  · exact q_throwN (P0 := []) G hl qt_224_226 ⟨rfl, by omega⟩ dX4_needFilled_9 dX4_needFilled_12 dX4_needFilled_13 dX4_needFilled_15 dX4_needFilled_18 ht (by decide) (by decide) (by decide) (by decide) (by omega) (by omega)
set_option maxRecDepth 100000 in
set_option maxHeartbeats 4000000 in
theorem c_X4_bookedRound (l : Launch) (hl : l.stackTraces = false) (D : va_G) (cy : Nat → ClassId) (M : qM) (ad : Nat → Nat) (hC : CSt M ad) (σ : qS) (hY : CDy σ ad (mI M) (mL M) (mR M)) (hW : WF σ) (r : Int) (hr : r32 r) : qCx l D cy yX4_bookedRound cX4_bookedRound 2 (some (.object "SquaringClock$Round")) { frames := 6, cells := 1, slots := 6, locals := 90 } 1 6 [.ref (ad 0), .int (qI (r))] M (fun v M' => (v = some (.ref (ad (14 + r.toNat))) ∧ M' = M) ∧ (0 ≤ r ∧ r < sB σ)) (fun E => E = sIO ∧ ¬ (0 ≤ r ∧ r < sB σ)) := by
  refine qCx_of (lv0 := [(0, .ref (ad 0)), (1, .int (qI (r)))]) (by decide) rfl (Nat.le_of_ble_eq_true rfl) ?_
  intro p e s m args below meth c G ht hret
  obtain ⟨⟨y4, y5, y6⟩, yD, yV, yF, yB, yR, -⟩ := id hY
  obtain ⟨w1, w2, w3⟩ := WF_n hW
  have o0 := CS_x hC
  have o1 := CS_fo hC
  have a11 := CS_a1 hC
  have a12 := CS_a2 hC
  have a13 := CS_a3 hC
  obtain ⟨s0, s1, s2, s3⟩ := hC.2.2.2.1
  have z4 : mI M (ad 0) 4 = 0 ∨ mI M (ad 0) 4 = 1 := by omega
  refine q_iload_n G 1 1 dX4_bookedRound_0 rfl rfl ?_
  refine q_if_lt (tgt := 12) G dX4_bookedRound_1 (by decide) (by first | assumption | omega) (fun c1 => ?_) (fun c1 => ?_)
  · exact q_throw (P0 := []) G hl qt_145_229 ⟨rfl, by omega⟩ dX4_bookedRound_12 dX4_bookedRound_15 dX4_bookedRound_16 dX4_bookedRound_18 dX4_bookedRound_21 ht (by decide) (by decide) (by decide) (by decide) (by omega) (by omega)
  · refine q_iload_n G 1 1 dX4_bookedRound_4 rfl rfl ?_
    refine q_aload_n G 0 0 dX4_bookedRound_5 rfl rfl ?_
    refine q_gt (v := .int (qI (mI M (ad 0) 5))) G dX4_bookedRound_6 fl_X4_38 o0 (by decide) rfl rfl ?_
    refine q_icmp_lt (tgt := 22) G dX4_bookedRound_9 (by decide) (by first | assumption | omega) (by first | assumption | omega) (fun c2 => ?_) (fun c2 => ?_)
    · refine q_aload_n G 0 0 dX4_bookedRound_22 rfl rfl ?_
      refine q_gt (v := .ref (ad 11)) G dX4_bookedRound_23 fl_X4_18 o0 (by decide) rfl (congrArg va_rf s1) ?_
      refine q_iload_n G 1 1 dX4_bookedRound_26 rfl rfl ?_
      refine q_aaloadR G dX4_bookedRound_27 a11.1 a11.2.1 (by first | assumption | omega) (show (r) < ((mN M (ad 11) : Nat) : Int) by rw [a11.2.2]; omega) (show mN M (ad 11) < 2147483648 by rw [a11.2.2]; decide) ?_
      refine q_st (st2 := [.ref (ad (14 + r.toNat))]) (congrArg (fun z => va_rf z :: _) (hC.2.2.2.2.2.1 r.toNat (by omega))) ?_
      refine q_retX ?_
      exact q_aret G dX4_bookedRound_28 hret (by omega) (by omega) (⟨⟨rfl, rfl⟩, by omega⟩)
    · exact q_throw (P0 := []) G hl qt_145_229 ⟨rfl, by omega⟩ dX4_bookedRound_12 dX4_bookedRound_15 dX4_bookedRound_16 dX4_bookedRound_18 dX4_bookedRound_21 ht (by decide) (by decide) (by decide) (by decide) (by omega) (by omega)
set_option maxRecDepth 100000 in
set_option maxHeartbeats 4000000 in
theorem c_X4_bookedOrRunning (l : Launch) (hl : l.stackTraces = false) (D : va_G) (cy : Nat → ClassId) (M : qM) (ad : Nat → Nat) (hC : CSt M ad) (σ : qS) (hY : CDy σ ad (mI M) (mL M) (mR M)) (hW : WF σ) (r : Int) (hr : r32 r) : qCx l D cy yX4_bookedOrRunning cX4_bookedOrRunning 2 (some (.object "SquaringClock$Round")) { frames := 7, cells := 1, slots := 6, locals := 111 } 1 6 [.ref (ad 0), .int (qI (r))] M (fun v M' => (v = some (.ref (ad (if r = -1 then rnN σ else 14 + r.toNat))) ∧ M' = M) ∧ isPl σ r) (fun E => E = sIO ∧ ¬ isPl σ r) := by
  refine qCx_of (lv0 := [(0, .ref (ad 0)), (1, .int (qI (r)))]) (by decide) rfl (Nat.le_of_ble_eq_true rfl) ?_
  intro p e s m args below meth c G ht hret
  obtain ⟨⟨y4, y5, y6⟩, yD, yV, yF, yB, yR, -⟩ := id hY
  obtain ⟨w1, w2, w3⟩ := WF_n hW
  have o0 := CS_x hC
  have o1 := CS_fo hC
  have a11 := CS_a1 hC
  have a12 := CS_a2 hC
  have a13 := CS_a3 hC
  obtain ⟨s0, s1, s2, s3⟩ := hC.2.2.2.1
  have z4 : mI M (ad 0) 4 = 0 ∨ mI M (ad 0) 4 = 1 := by omega
  rcases w3 with hU | hU
  · have r6 : mR M (ad 0) 6 = none := by rw [y6, if_neg (by omega)]
    refine q_iload_n G 1 1 dX4_bookedOrRunning_0 rfl rfl ?_
    refine q_iconst G dX4_bookedOrRunning_1 ?_
    refine q_icmp_ne (tgt := 17) G dX4_bookedOrRunning_2 (by decide) (by first | assumption | omega) (by first | assumption | omega) (fun c1 => ?_) (fun c1 => ?_)
    · refine q_aload_n G 0 0 dX4_bookedOrRunning_17 rfl rfl ?_
      refine q_iload_n G 1 1 dX4_bookedOrRunning_18 rfl rfl ?_
      refine q_callVX (As := [.int (qI (r))]) (rest := []) G dX4_bookedOrRunning_19 cw_X4_159 (c_X4_bookedRound l hl D cy M ad hC σ hY hW r (by omega)) o0.1 o0.2 (by decide) rfl rfl rfl (Nat.le_of_ble_eq_true rfl) rfl rfl ⟨Nat.le_of_ble_eq_true rfl, Nat.le_of_ble_eq_true rfl⟩ ⟨by decide, by decide⟩ (fun E9 ce9 q9 H9 lc9 ls9 hx9 h91 h92 h93 h94 h95 h96 h97 => q_outX G ht (⟨hx9.1, by have h9 := hx9.2; omega⟩) h91 h93 h95 h96 h97 (by omega) (by omega)) (fun v9 M9 hq9 => ?_)
      obtain ⟨⟨rfl, e9⟩, zB⟩ := hq9
      refine q_st (st2 := [.ref (ad (14 + r.toNat))]) rfl ?_
      refine q_mem e9 ?_
      refine q_retX ?_
      exact q_aret G dX4_bookedOrRunning_22 hret (by omega) (by omega) (⟨⟨by rw [if_neg (by omega)], rfl⟩, Or.inr zB⟩)
    · refine q_aload_n G 0 0 dX4_bookedOrRunning_5 rfl rfl ?_
      refine q_gt (v := .null) G dX4_bookedOrRunning_6 fl_X4_42 o0 (by decide) rfl (congrArg va_rf r6) ?_
      refine q_ifnull (x := none) (tgt := 17) G dX4_bookedOrRunning_9 (by decide) (fun _ => ?_) (fun _ h9 => nomatch h9)
      refine q_aload_n G 0 0 dX4_bookedOrRunning_17 rfl rfl ?_
      refine q_iload_n G 1 1 dX4_bookedOrRunning_18 rfl rfl ?_
      refine q_callVX (As := [.int (qI (r))]) (rest := []) G dX4_bookedOrRunning_19 cw_X4_159 (c_X4_bookedRound l hl D cy M ad hC σ hY hW r (by omega)) o0.1 o0.2 (by decide) rfl rfl rfl (Nat.le_of_ble_eq_true rfl) rfl rfl ⟨Nat.le_of_ble_eq_true rfl, Nat.le_of_ble_eq_true rfl⟩ ⟨by decide, by decide⟩ (fun E9 ce9 q9 H9 lc9 ls9 hx9 h91 h92 h93 h94 h95 h96 h97 => q_outX G ht (⟨hx9.1, by have h9 := hx9.2; omega⟩) h91 h93 h95 h96 h97 (by omega) (by omega)) (fun v9 M9 hq9 => ?_)
      obtain ⟨⟨rfl, e9⟩, zB⟩ := hq9
      refine q_st (st2 := [.ref (ad (14 + r.toNat))]) rfl ?_
      refine q_mem e9 ?_
      refine q_retX ?_
      exact q_aret G dX4_bookedOrRunning_22 hret (by omega) (by omega) (⟨⟨by rw [if_neg (by omega)], rfl⟩, Or.inr zB⟩)
  · have r6 : mR M (ad 0) 6 = some (ad (rnN σ)) := by rw [y6, if_pos hU]
    have hB6 := hW.2.1.2.2 hU
    have hrn : 14 ≤ rnN σ ∧ rnN σ < 30 := by unfold rnN; omega
    refine q_iload_n G 1 1 dX4_bookedOrRunning_0 rfl rfl ?_
    refine q_iconst G dX4_bookedOrRunning_1 ?_
    refine q_icmp_ne (tgt := 17) G dX4_bookedOrRunning_2 (by decide) (by first | assumption | omega) (by first | assumption | omega) (fun c1 => ?_) (fun c1 => ?_)
    · refine q_aload_n G 0 0 dX4_bookedOrRunning_17 rfl rfl ?_
      refine q_iload_n G 1 1 dX4_bookedOrRunning_18 rfl rfl ?_
      refine q_callVX (As := [.int (qI (r))]) (rest := []) G dX4_bookedOrRunning_19 cw_X4_159 (c_X4_bookedRound l hl D cy M ad hC σ hY hW r (by omega)) o0.1 o0.2 (by decide) rfl rfl rfl (Nat.le_of_ble_eq_true rfl) rfl rfl ⟨Nat.le_of_ble_eq_true rfl, Nat.le_of_ble_eq_true rfl⟩ ⟨by decide, by decide⟩ (fun E9 ce9 q9 H9 lc9 ls9 hx9 h91 h92 h93 h94 h95 h96 h97 => q_outX G ht (⟨hx9.1, by have h9 := hx9.2; omega⟩) h91 h93 h95 h96 h97 (by omega) (by omega)) (fun v9 M9 hq9 => ?_)
      obtain ⟨⟨rfl, e9⟩, zB⟩ := hq9
      refine q_st (st2 := [.ref (ad (14 + r.toNat))]) rfl ?_
      refine q_mem e9 ?_
      refine q_retX ?_
      exact q_aret G dX4_bookedOrRunning_22 hret (by omega) (by omega) (⟨⟨by rw [if_neg (by omega)], rfl⟩, Or.inr zB⟩)
    · refine q_aload_n G 0 0 dX4_bookedOrRunning_5 rfl rfl ?_
      refine q_gt (v := .ref (ad (rnN σ))) G dX4_bookedOrRunning_6 fl_X4_42 o0 (by decide) rfl (congrArg va_rf r6) ?_
      refine q_ifnull (x := some (ad (rnN σ))) (tgt := 17) G dX4_bookedOrRunning_9 (by decide) (fun h9 => nomatch h9) (fun _ _ => ?_)
      refine q_aload_n G 0 0 dX4_bookedOrRunning_12 rfl rfl ?_
      refine q_gt (v := .ref (ad (rnN σ))) G dX4_bookedOrRunning_13 fl_X4_42 o0 (by decide) rfl (congrArg va_rf r6) ?_
      refine q_retX ?_
      exact q_aret G dX4_bookedOrRunning_16 hret (by omega) (by omega) (⟨⟨by rw [if_pos (by omega)], rfl⟩, Or.inl ⟨by omega, hU⟩⟩)
set_option maxRecDepth 100000 in
set_option maxHeartbeats 4000000 in
theorem c_X4_mixedForm (l : Launch) (D : va_G) (cy : Nat → ClassId) (M : qM) (x : Int) (f : Nat) (hO : qO M f 1) : qCt l D cy yX4_mixedForm cX4_mixedForm 2 (some .int) { frames := 1, cells := 0, slots := 0, locals := 22 } 0 0 [.int (qI (x)), .ref f] M (fun v M' => v = some (.int (qI (mixF x (gT (mL M) f)))) ∧ M' = M) := by
  refine qCt_of (lv0 := [(0, .int (qI (x))), (1, .ref f)]) (by decide) rfl (Nat.le_of_ble_eq_true rfl) ?_
  intro p e s m args below meth c G hname hret
  refine q_iload_n G 0 0 dX4_mixedForm_0 rfl rfl ?_
  refine q_aload_n G 1 1 dX4_mixedForm_1 rfl rfl ?_
  refine q_gt (v := .long (qL (mL M f 0))) G dX4_mixedForm_2 fl_X4_243 hO (by decide) rfl rfl ?_
  refine q_l2i G dX4_mixedForm_5 ?_
  refine q_callS (As := [.int (qI (x)), .int (qI (mL M f 0))]) (rest := []) G dX4_mixedForm_6 cw_X4_231 (c_X4_mixed l D cy M (x) (mL M f 0)) rfl rfl (Nat.le_of_ble_eq_true rfl) rfl rfl ⟨Nat.le_of_ble_eq_true rfl, Nat.le_of_ble_eq_true rfl⟩ ⟨by decide, by decide⟩ (fun v9 M9 hq9 => ?_)
  obtain ⟨rfl, e9⟩ := hq9
  refine q_mem e9 ?_
  refine q_st (st2 := [.int (qI (mixN (x) (mL M f 0)))]) rfl ?_
  refine q_aload_n G 1 1 dX4_mixedForm_9 rfl rfl ?_
  refine q_gt (v := .long (qL (mL M f 1))) G dX4_mixedForm_10 fl_X4_247 hO (by decide) rfl rfl ?_
  refine q_l2i G dX4_mixedForm_13 ?_
  refine q_callS (As := [.int (qI (mixN (x) (mL M f 0))), .int (qI (mL M f 1))]) (rest := []) G dX4_mixedForm_14 cw_X4_231 (c_X4_mixed l D cy M (mixN (x) (mL M f 0)) (mL M f 1)) rfl rfl (Nat.le_of_ble_eq_true rfl) rfl rfl ⟨Nat.le_of_ble_eq_true rfl, Nat.le_of_ble_eq_true rfl⟩ ⟨by decide, by decide⟩ (fun v9 M9 hq9 => ?_)
  obtain ⟨rfl, e9⟩ := hq9
  refine q_mem e9 ?_
  refine q_st (st2 := [.int (qI (mixN (mixN (x) (mL M f 0)) (mL M f 1)))]) rfl ?_
  exact q_iret G dX4_mixedForm_17 hret (by omega) (by omega) (⟨rfl, rfl⟩)
set_option maxRecDepth 100000 in
set_option maxHeartbeats 4000000 in
theorem c_X4_primeOf (l : Launch) (D : va_G) (cy : Nat → ClassId) (M : qM) (f g : Nat) (t : Int) (hF : qO M f 1) (hG : qO M g 1) : qCt l D cy yX4_primeOf cX4_primeOf 4 (some .int) { frames := 2, cells := 0, slots := 0, locals := 43 } 0 0 [.ref f, .ref g, .int (qI (t))] M (fun v M' => v = some (.int (qI (prmT (gT (mL M) f) (gT (mL M) g) t))) ∧ M' = M) := by
  refine qCt_of (lv0 := [(0, .ref f), (1, .ref g), (2, .int (qI (t)))]) (by decide) rfl (Nat.le_of_ble_eq_true rfl) ?_
  intro p e s m args below meth c G hname hret
  refine q_iconst G dX4_primeOf_0 ?_
  refine q_aload_n G 0 0 dX4_primeOf_1 rfl rfl ?_
  refine q_callS (As := [.int (qI (2)), .ref f]) (rest := []) G dX4_primeOf_2 cw_X4_234 (c_X4_mixedForm l D cy M (2) f hF) rfl rfl (Nat.le_of_ble_eq_true rfl) rfl rfl ⟨Nat.le_of_ble_eq_true rfl, Nat.le_of_ble_eq_true rfl⟩ ⟨by decide, by decide⟩ (fun v9 M9 hq9 => ?_)
  obtain ⟨rfl, e9⟩ := hq9
  refine q_mem e9 ?_
  refine q_st (st2 := [.int (qI (mixF (2) (gT (mL M) f)))]) rfl ?_
  refine q_istore_n (lv' := [(3, .int (qI (mixF (2) (gT (mL M) f)))), (0, .ref f), (1, .ref g), (2, .int (qI (t)))]) G 3 dX4_primeOf_5 rfl (by decide) rfl ?_
  refine q_iload_n G 0 3 dX4_primeOf_6 rfl rfl ?_
  refine q_aload_n G 2 1 dX4_primeOf_7 rfl rfl ?_
  refine q_callS (As := [.int (qI (mixF (2) (gT (mL M) f))), .ref g]) (rest := []) G dX4_primeOf_8 cw_X4_234 (c_X4_mixedForm l D cy M (mixF (2) (gT (mL M) f)) g hG) rfl rfl (Nat.le_of_ble_eq_true rfl) rfl rfl ⟨Nat.le_of_ble_eq_true rfl, Nat.le_of_ble_eq_true rfl⟩ ⟨by decide, by decide⟩ (fun v9 M9 hq9 => ?_)
  obtain ⟨rfl, e9⟩ := hq9
  refine q_mem e9 ?_
  refine q_st (st2 := [.int (qI (mixF (mixF (2) (gT (mL M) f)) (gT (mL M) g)))]) rfl ?_
  refine q_istore_n (lv' := [(3, .int (qI (mixF (mixF (2) (gT (mL M) f)) (gT (mL M) g)))), (0, .ref f), (1, .ref g), (2, .int (qI (t)))]) G 3 dX4_primeOf_11 rfl (by decide) rfl ?_
  refine q_iload_n G 0 3 dX4_primeOf_12 rfl rfl ?_
  refine q_iload_n G 3 2 dX4_primeOf_13 rfl rfl ?_
  refine q_callS (As := [.int (qI (mixF (mixF (2) (gT (mL M) f)) (gT (mL M) g))), .int (qI (t))]) (rest := []) G dX4_primeOf_14 cw_X4_231 (c_X4_mixed l D cy M (mixF (mixF (2) (gT (mL M) f)) (gT (mL M) g)) (t)) rfl rfl (Nat.le_of_ble_eq_true rfl) rfl rfl ⟨Nat.le_of_ble_eq_true rfl, Nat.le_of_ble_eq_true rfl⟩ ⟨by decide, by decide⟩ (fun v9 M9 hq9 => ?_)
  obtain ⟨rfl, e9⟩ := hq9
  refine q_mem e9 ?_
  refine q_st (st2 := [.int (qI (mixN (mixF (mixF (2) (gT (mL M) f)) (gT (mL M) g)) (t)))]) rfl ?_
  refine q_istore_n (lv' := [(3, .int (qI (mixN (mixF (mixF (2) (gT (mL M) f)) (gT (mL M) g)) (t)))), (0, .ref f), (1, .ref g), (2, .int (qI (t)))]) G 3 dX4_primeOf_17 rfl (by decide) rfl ?_
  refine q_iload_n G 0 3 dX4_primeOf_18 rfl rfl ?_
  refine q_ldc (z := 65535) G dX4_primeOf_19 tw_333 (by decide +kernel) ?_
  refine q_iand G dX4_primeOf_21 ?_
  refine q_iconst G dX4_primeOf_22 ?_
  refine q_iadd G dX4_primeOf_23 ?_
  refine q_callS (As := [.int (qI ((qand (mixN (mixF (mixF (2) (gT (mL M) f)) (gT (mL M) g)) (t)) 65535) + 3))]) (rest := []) G dX4_primeOf_24 cw_X4_239 (c_X4_leastPrimeFrom l D cy M ((qand (mixN (mixF (mixF (2) (gT (mL M) f)) (gT (mL M) g)) (t)) 65535) + 3) (by have := qand_65535 (mixN (mixF (mixF 2 (gT (mL M) f)) (gT (mL M) g)) t); omega)) rfl rfl (Nat.le_of_ble_eq_true rfl) rfl rfl ⟨Nat.le_of_ble_eq_true rfl, Nat.le_of_ble_eq_true rfl⟩ ⟨by decide, by decide⟩ (fun v9 M9 hq9 => ?_)
  obtain ⟨⟨z9, rfl, hz⟩, e9⟩ := hq9
  refine q_st (st2 := [.int (qI (z9))]) rfl ?_
  refine q_mem e9 ?_
  exact q_iret G dX4_primeOf_27 hret (by omega) (by omega) (⟨by unfold prmT; rw [Int.add_comm 3, lpN_eq hz], rfl⟩)
