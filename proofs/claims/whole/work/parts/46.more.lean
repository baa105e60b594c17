/-! the rest of the forms' object -/
theorem sOk_r {d : Int} {L : Nat → Nat → Int} {h : Nat} (hd0 : 0 < d) (g : gd d (gT L h)) : r63 (L h 0) ∧ r63 (L h 1) ∧ r63 (L h 2) := by
  obtain ⟨⟨h1, h2, h3, h4, h5⟩, -⟩ := g
  have h6 : 0 < L h 2 := st_pos h1 h2 hd0
  have h1' : 0 < L h 0 := h1
  have h3' : L h 0 ≤ 2147483648 := h3
  have h4' : -2305843009213693952 ≤ L h 1 ∧ L h 1 ≤ 2305843009213693952 := h4
  have h5' : L h 2 ≤ 2305843009213693952 := h5
  omega
theorem if_T (x y z x' y' z' : Int) : (if x = x' ∧ y = y' ∧ z = z' then (1 : Int) else 0) = if ((x, y, z) : qT3) = (x', y', z') then 1 else 0 := by
  by_cases h : x = x' ∧ y = y' ∧ z = z'
  · rw [if_pos h, if_pos (by rw [h.1, h.2.1, h.2.2])]
  · rw [if_neg h, if_neg (fun h9 => h (by cases h9; exact ⟨rfl, rfl, rfl⟩))]
def frm (M : qM) (L : Nat → Nat → Int) (S : List Nat) : Prop := ∀ b k, b ∉ S → L b k = mL M b k
theorem frm_T {M : qM} {L : Nat → Nat → Int} {S : List Nat} (h : frm M L S) {b : Nat} (hb : b ∉ S) : gT L b = gT (mL M) b := gT_eq (fun k => h b k hb)
def rstN : Nat → Int → Int
  | 0, _ => 1
  | k + 1, p => (2 * rstN k p) % p
theorem rstN_in (k : Nat) {p : Int} (hp : 2 ≤ p) : 0 ≤ rstN k p ∧ rstN k p < p := by
  cases k with
  | zero => exact ⟨by show (0 : Int) ≤ 1; decide, by show (1 : Int) < p; omega⟩
  | succ k => exact ⟨Int.emod_nonneg _ (by omega), Int.emod_lt_of_pos _ (by omega)⟩
theorem rstN_s (k : Nat) {p : Int} (hp : 2 ≤ p) : rstN (k + 1) p = if 2 * rstN k p < p then 2 * rstN k p else 2 * rstN k p - p := by
  have h := rstN_in k hp
  show (2 * rstN k p) % p = _
  split
  · exact Int.emod_eq_of_lt (by omega) (by omega)
  · have : (2 * rstN k p) % p = (2 * rstN k p - p) % p := (Int.sub_emod_right _ _).symm
    rw [this]
    exact Int.emod_eq_of_lt (by omega) (by omega)
set_option maxRecDepth 100000 in
set_option maxHeartbeats 4000000 in
theorem l_rest {p : Program} {e : Env} {s : State} {m : MethodId} {args : Array Value} {below : List Frame} {meth : Method} {c : Code} (l : Launch) (D : va_G) (cy : Nat → ClassId) (M : qM) (fo : Nat) (dd pr : Int) (hdd : 0 ≤ dd ∧ dd ≤ 1000000) (hpr : 2 ≤ pr) (hpr2 : pr ≤ 1000000000) (G : qG p s m args meth c cX2_restOfPowerOfTwo 5 yX2_restOfPowerOfTwo.cls D cy (qA (mP M) s.heap.size)) (hret : meth.sig.returnType = (some .int)) : ∀ (w9 : Nat) (i : Nat), (dd - i).toNat < w9 → (i : Int) ≤ dd → qK p l e { frames := 0, cells := 0, slots := 0, locals := 0 } s m args below meth c (MQ below (qQ D cy (mP M) (fun v M' => v = some (.int (qI (rstN dd.toNat pr))) ∧ M' = M)) args s 0 0 (qA (mP M) s.heap.size)) 5 D cy (qA (mP M) s.heap.size) 0 0 5 [(4, .int (qI ((i : Int)))), (3, .int (qI (rstN i pr))), (2, .int (qI (pr))), (1, .int (qI (dd)))] [] (M) := by
  intro w9
  induction w9 with
  | zero => intro i h9; exact absurd h9 (Nat.not_lt_zero _)
  | succ w9 ih =>
    intro i hm hI
    have hin := rstN_in i hpr
    refine q_iload G 0 dX2_restOfPowerOfTwo_5 rfl ?_
    refine q_iload_n G 3 1 dX2_restOfPowerOfTwo_7 rfl rfl ?_
    refine q_icmp_ge (tgt := 30) G dX2_restOfPowerOfTwo_8 (by decide) (by omega) (by omega) (fun c1 => ?_) (fun c1 => ?_)
    · refine q_iload_n G 1 3 dX2_restOfPowerOfTwo_30 rfl rfl ?_
      exact q_iret G dX2_restOfPowerOfTwo_31 hret (by omega) (by omega) (⟨by rw [show i = dd.toNat by omega], rfl⟩)
    · refine q_iconst G dX2_restOfPowerOfTwo_11 ?_
      refine q_iload_n G 1 3 dX2_restOfPowerOfTwo_12 rfl rfl ?_
      refine q_imul G dX2_restOfPowerOfTwo_13 ?_
      refine q_istore_n (lv' := [(3, .int (qI (2 * (rstN i pr)))), (4, .int (qI ((i : Int)))), (2, .int (qI (pr))), (1, .int (qI (dd)))]) G 3 dX2_restOfPowerOfTwo_14 rfl (by decide) rfl ?_
      refine q_iload_n G 0 3 dX2_restOfPowerOfTwo_15 rfl rfl ?_
      refine q_iload_n G 2 2 dX2_restOfPowerOfTwo_16 rfl rfl ?_
      refine q_icmp_lt (tgt := 24) G dX2_restOfPowerOfTwo_17 (by decide) (by omega) (by omega) (fun c2 => ?_) (fun c2 => ?_)
      · refine q_iinc (lv' := [(4, .int (qI (((i : Int)) + 1))), (3, .int (qI (2 * (rstN i pr)))), (2, .int (qI (pr))), (1, .int (qI (dd)))]) G 1 dX2_restOfPowerOfTwo_24 rfl (by decide) rfl ?_
        refine q_goto (tgt := 5) G dX2_restOfPowerOfTwo_27 (by decide) ?_
        refine q_lvs [0, 1, 2, 3] rfl ?_
        have hq := rstN_s i hpr
        have hq2 : rstN (i + 1) pr = 2 * (rstN i pr) := by rw [hq]; first | rw [if_pos (by assumption)] | rw [if_neg (Int.not_lt.mpr (by assumption))]
        have hih := ih (i + 1) (by omega) (by omega)
        rw [hq2] at hih
        exact hih
      · refine q_iload_n G 0 3 dX2_restOfPowerOfTwo_20 rfl rfl ?_
        refine q_iload_n G 2 2 dX2_restOfPowerOfTwo_21 rfl rfl ?_
        refine q_isub G dX2_restOfPowerOfTwo_22 ?_
        refine q_istore_n (lv' := [(3, .int (qI ((2 * (rstN i pr)) - pr))), (4, .int (qI ((i : Int)))), (2, .int (qI (pr))), (1, .int (qI (dd)))]) G 3 dX2_restOfPowerOfTwo_23 rfl (by decide) rfl ?_
        refine q_iinc (lv' := [(4, .int (qI (((i : Int)) + 1))), (3, .int (qI ((2 * (rstN i pr)) - pr))), (2, .int (qI (pr))), (1, .int (qI (dd)))]) G 1 dX2_restOfPowerOfTwo_24 rfl (by decide) rfl ?_
        refine q_goto (tgt := 5) G dX2_restOfPowerOfTwo_27 (by decide) ?_
        refine q_lvs [0, 1, 2, 3] rfl ?_
        have hq := rstN_s i hpr
        have hq2 : rstN (i + 1) pr = (2 * (rstN i pr)) - pr := by rw [hq]; first | rw [if_pos (by assumption)] | rw [if_neg (Int.not_lt.mpr (by assumption))]
        have hih := ih (i + 1) (by omega) (by omega)
        rw [hq2] at hih
        exact hih
set_option maxRecDepth 100000 in
set_option maxHeartbeats 4000000 in
theorem c_X2_restOfPowerOfTwo (l : Launch) (D : va_G) (cy : Nat → ClassId) (M : qM) (fo : Nat) (dd pr : Int) (hdd : 0 ≤ dd ∧ dd ≤ 1000000) (hpr : 2 ≤ pr) (hpr2 : pr ≤ 1000000000) : qCt l D cy yX2_restOfPowerOfTwo cX2_restOfPowerOfTwo 5 (some .int) { frames := 0, cells := 0, slots := 0, locals := 0 } 0 0 [.ref fo, .int (qI (dd)), .int (qI (pr))] M (fun v M' => v = some (.int (qI (rstN dd.toNat pr))) ∧ M' = M) := by
  refine qCt_of (lv0 := [(0, .ref fo), (1, .int (qI (dd))), (2, .int (qI (pr)))]) (by decide) rfl (Nat.le_of_ble_eq_true rfl) ?_
  intro p e s m args below meth c G hname hret
  refine q_iconst G dX2_restOfPowerOfTwo_0 ?_
  refine q_istore_n (lv' := [(3, .int (qI (1))), (0, .ref fo), (1, .int (qI (dd))), (2, .int (qI (pr)))]) G 3 dX2_restOfPowerOfTwo_1 rfl (by decide) rfl ?_
  refine q_iconst G dX2_restOfPowerOfTwo_2 ?_
  refine q_istore (lv' := [(4, .int (qI (0))), (3, .int (qI (1))), (0, .ref fo), (1, .int (qI (dd))), (2, .int (qI (pr)))]) G dX2_restOfPowerOfTwo_3 (by decide) rfl ?_
  refine q_lvs [0, 1, 4, 3] rfl ?_
  exact l_rest l D cy M fo dd pr hdd hpr hpr2 G hret _ 0 (Nat.lt_succ_self _) (by omega)
def po_bool (M : qM) (eu : Nat) (P : Prop) : Option Value → qM → Prop := fun v M' => ∃ z : Int, v = some (.int (qI z)) ∧ ((z = 1 ∧ P) ∨ (z = 0 ∧ ¬ P)) ∧ ∃ x y w, M' = wL M (stF (mL M) eu x y w)
theorem ncd {a b c g1 u v g2 u2 v2 : Int} (h1 : isEu a b g1 u v) (h2 : isEu g1 c g2 u2 v2) : g2 = 1 ↔ fPr a b c := by
  obtain ⟨i1, i2, i3, i4, -, -⟩ := h1
  obtain ⟨j1, j2, j3, j4, -, -⟩ := h2
  constructor
  · intro h
    refine ⟨u2 * u, u2 * v, v2, ?_⟩
    rw [← h, ← j1, ← i1]; grind
  · rintro ⟨x, y, z, e⟩
    have d : g2 ∣ 1 := by
      rw [← e]
      refine Int.dvd_add (Int.dvd_add ?_ ?_) ?_
      · exact Int.dvd_mul_of_dvd_right (Int.dvd_trans j3 i3)
      · exact Int.dvd_mul_of_dvd_right (Int.dvd_trans j3 i4)
      · exact Int.dvd_mul_of_dvd_right j4
    have := Int.le_of_dvd (by decide) d
    have h0 : g2 ≠ 0 := by
      rintro rfl
      have := Int.zero_dvd.mp d
      omega
    omega
theorem eu_small {p q g u v N : Int} (h : isEu p q g u v) (h1 : -N ≤ p) (h2 : p ≤ N) (h3 : -N ≤ q) (h4 : q ≤ N) : 0 ≤ g ∧ g ≤ N := by
  obtain ⟨i1, i2, i3, i4, -, -⟩ := h
  refine ⟨i2, ?_⟩
  by_cases hp : p = 0
  · by_cases hq : q = 0
    · subst hp hq; omega
    · have : g ∣ (q.natAbs : Int) := Int.dvd_natAbs.mpr i4
      have := Int.le_of_dvd (by omega) this
      omega
  · have : g ∣ (p.natAbs : Int) := Int.dvd_natAbs.mpr i3
    have := Int.le_of_dvd (by omega) this
    omega
set_option maxRecDepth 100000 in
set_option maxHeartbeats 4000000 in
theorem c_X2_hasNoCommonDivisor (l : Launch) (D : va_G) (cy : Nat → ClassId) (M : qM) (fo eu : Nat) (hF : qO M fo 2) (r3 : mR M fo 3 = some eu) (o3 : qO M eu 0) (ka kb kc : Int) (hka : -100000000000 ≤ ka ∧ ka ≤ 100000000000) (hkb : -100000000000 ≤ kb ∧ kb ≤ 100000000000) (hkc : -100000000000 ≤ kc ∧ kc ≤ 100000000000) : qCt l D cy yX2_hasNoCommonDivisor cX2_hasNoCommonDivisor 7 (some .boolean) { frames := 2, cells := 0, slots := 0, locals := 60 } 0 0 [.ref fo, .long (qL (ka)), .long (qL (kb)), .long (qL (kc))] M (po_bool M eu (fPr ka kb kc)) := by
  refine qCt_of (lv0 := [(0, .ref fo), (1, .long (qL (ka))), (3, .long (qL (kb))), (5, .long (qL (kc)))]) (by decide) rfl (Nat.le_of_ble_eq_true rfl) ?_
  intro p e s m args below meth c G hname hret
  refine q_aload_n G 0 0 dX2_hasNoCommonDivisor_0 rfl rfl ?_
  refine q_gt (v := .ref eu) G dX2_hasNoCommonDivisor_1 fl_X2_28 hF (by decide) rfl (congrArg va_rf r3) ?_
  refine q_lload_n G 1 1 dX2_hasNoCommonDivisor_4 rfl rfl ?_
  refine q_lload_n G 2 3 dX2_hasNoCommonDivisor_5 rfl rfl ?_
  refine q_callV (As := [.long (qL (ka)), .long (qL (kb))]) (rest := []) G dX2_hasNoCommonDivisor_6 cw_X2_83 (c_X0_find l D cy M eu o3 ka kb (by omega) (by omega)) o3.1 o3.2 (by decide) rfl rfl rfl (Nat.le_of_ble_eq_true rfl) rfl rfl ⟨Nat.le_of_ble_eq_true rfl, Nat.le_of_ble_eq_true rfl⟩ ⟨by decide, by decide⟩ (fun v9 M9 hq9 => ?_)
  obtain ⟨rfl, g1, u1, v1, e9, eu1⟩ := hq9
  refine q_st (st2 := []) rfl ?_
  refine q_mem (M2 := wL M (stF (mL M) eu g1 u1 v1)) e9 ?_
  have hs1 := eu_small (N := 100000000000) eu1 (by omega) (by omega) (by omega) (by omega)
  refine q_aload_n G 0 0 dX2_hasNoCommonDivisor_9 rfl rfl ?_
  refine q_gt (v := .ref eu) G dX2_hasNoCommonDivisor_10 fl_X2_28 hF (by decide) rfl (congrArg va_rf r3) ?_
  refine q_aload_n G 0 0 dX2_hasNoCommonDivisor_13 rfl rfl ?_
  refine q_gt (v := .ref eu) G dX2_hasNoCommonDivisor_14 fl_X2_28 hF (by decide) rfl (congrArg va_rf r3) ?_
  refine q_gt (v := .long (qL (g1))) G dX2_hasNoCommonDivisor_17 fl_X2_87 o3 (by decide) rfl (by simp [mI, mL, mR, sL, sI, sR, wL, wD, stF, up2]) ?_
  refine q_lload G 3 dX2_hasNoCommonDivisor_20 rfl ?_
  refine q_callV (As := [.long (qL (g1)), .long (qL (kc))]) (rest := []) G dX2_hasNoCommonDivisor_22 cw_X2_83 (c_X0_find l D cy (wL M (stF (mL M) eu g1 u1 v1)) eu o3 g1 kc (by omega) (by omega)) o3.1 o3.2 (by decide) rfl rfl rfl (Nat.le_of_ble_eq_true rfl) rfl rfl ⟨Nat.le_of_ble_eq_true rfl, Nat.le_of_ble_eq_true rfl⟩ ⟨by decide, by decide⟩ (fun v9 M9 hq9 => ?_)
  obtain ⟨rfl, g2, u2, v2, e9, eu2⟩ := hq9
  refine q_st (st2 := []) rfl ?_
  refine q_mem (M2 := wL M (stF (mL M) eu g2 u2 v2)) (by rw [e9]; simp only [wL_wL, mL_wL, stF_stF]) ?_
  have hs2 := eu_small (N := 100000000000) eu2 (by omega) (by omega) (by omega) (by omega)
  have hnc := ncd eu1 eu2
  refine q_aload_n G 0 0 dX2_hasNoCommonDivisor_25 rfl rfl ?_
  refine q_gt (v := .ref eu) G dX2_hasNoCommonDivisor_26 fl_X2_28 hF (by decide) rfl (congrArg va_rf r3) ?_
  refine q_gt (v := .long (qL (g2))) G dX2_hasNoCommonDivisor_29 fl_X2_87 o3 (by decide) rfl (by simp [mI, mL, mR, sL, sI, sR, wL, wD, stF, up2]) ?_
  refine q_lconst (z := 1) G dX2_hasNoCommonDivisor_32 (by decide +kernel) ?_
  refine q_lcmp_ne (tgt := 41) G dX2_hasNoCommonDivisor_33 dX2_hasNoCommonDivisor_34 (by decide) (by first | assumption | omega) (by first | assumption | omega) (fun c1 => ?_) (fun c1 => ?_)
  · refine q_iconst G dX2_hasNoCommonDivisor_41 ?_
    exact q_zret G dX2_hasNoCommonDivisor_42 hret (by decide +kernel) (by omega) (by omega) (⟨_, rfl, Or.inr ⟨rfl, fun h9 => absurd (hnc.mpr h9) (by omega)⟩, _, _, _, rfl⟩)
  · refine q_iconst G dX2_hasNoCommonDivisor_37 ?_
    refine q_goto (tgt := 42) G dX2_hasNoCommonDivisor_38 (by decide) ?_
    exact q_zret G dX2_hasNoCommonDivisor_42 hret (by decide +kernel) (by omega) (by omega) (⟨_, rfl, Or.inl ⟨rfl, hnc.mp (by omega)⟩, _, _, _, rfl⟩)
