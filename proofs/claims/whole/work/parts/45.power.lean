def po_power (M : qM) (lf rg eu ba so res : Nat) (d : Int) (t : qT3) : Option Value → qM → Prop := fun v M' => v = none ∧ ∃ L, M' = wL M L ∧ (∀ b k, b ≠ lf → b ≠ rg → b ≠ eu → b ≠ ba → b ≠ so → b ≠ res → L b k = mL M b k) ∧ gT L res = t ∧ gd d t
def pwI (M : qM) (lf rg eu ba so : Nat) (d : Int) (t : qT3) (bits : Int) (L : Nat → Nat → Int) (k : Nat) : Prop := (0 ≤ bits ∧ bits < 2147483648 ∧ bits < 2 ^ k ∧ k ≤ 31) ∧ (∀ b j, b ≠ lf → b ≠ rg → b ≠ eu → b ≠ ba → b ≠ so → L b j = mL M b j) ∧ gd d (gT L ba) ∧ gd d (gT L so) ∧ pwN (k + 1) bits.toNat (gT L ba) (gT L so) = t
theorem pwI_k {M : qM} {lf rg eu ba so : Nat} {d : Int} {t : qT3} {bits : Int} {L : Nat → Nat → Int} {k : Nat} (h : pwI M lf rg eu ba so d t bits L k) (h0 : 0 < bits) : ∃ j, k = j + 1 ∧ bits / 2 < 2 ^ j := by
  obtain ⟨⟨h1, h2, h3, h4⟩, -⟩ := h
  have : k ≠ 0 := by
    rintro rfl
    rw [Int.pow_zero] at h3; omega
  obtain ⟨j, rfl⟩ : ∃ j, k = j + 1 := ⟨k - 1, by omega⟩
  refine ⟨j, rfl, ?_⟩
  rw [Int.pow_succ] at h3
  generalize (2 : Int) ^ j = w at h3 ⊢
  omega
set_option maxRecDepth 100000 in
set_option maxHeartbeats 4000000 in
theorem l_power {p : Program} {e : Env} {s : State} {m : MethodId} {args : Array Value} {below : List Frame} {meth : Method} {c : Code} (l : Launch) (D : va_G) (cy : Nat → ClassId) (M : qM) (fo un ge eu lf rg ba so on ot : Nat) (hFO : qFO M fo un ge eu lf rg ba so on ot) (hd : dOk (mI M fo 0)) (res : Nat) (hr : qO M res 1) (t : qT3) (G : qG p s m args meth c cX2_power 5 yX2_power.cls D cy (qA (mP M) s.heap.size)) (hret : meth.sig.returnType = none) : ∀ (w9 : Nat) (bits : Int) (L : Nat → Nat → Int) (k : Nat), bits.toNat < w9 → pwI M lf rg eu ba so (mI M fo 0) t bits L k → qK p l e { frames := 4, cells := 0, slots := 0, locals := 103 } s m args below meth c (MQ below (qQ D cy (mP M) (po_power M lf rg eu ba so res (mI M fo 0) t)) args s 0 0 (qA (mP M) s.heap.size)) 5 D cy (qA (mP M) s.heap.size) 0 0 22 [(4, .int (qI (bits))), (3, .ref res), (0, .ref fo)] [] (wL M L) := by
  intro w9
  induction w9 with
  | zero => intro bits L k h9; exact absurd h9 (Nat.not_lt_zero _)
  | succ w9 ih =>
    intro bits L k hm hI
    obtain ⟨hF, ⟨r1, r2, r3, r4, r5, r6, r7, r8, r9⟩, ⟨o1, o2, o3, o4, o5, o6, o7, o8, o9⟩, hnd, hdi⟩ := id hFO
    have hb1 : bits < 2147483648 := hI.1.2.1
    have hk1 : k ≤ 31 := hI.1.2.2.2
    have n_ba_lf : ba ≠ lf := (fun h9 => by subst h9; simp at hnd)
    have n_ba_rg : ba ≠ rg := (fun h9 => by subst h9; simp at hnd)
    have n_ba_eu : ba ≠ eu := (fun h9 => by subst h9; simp at hnd)
    have n_ba_so : ba ≠ so := (fun h9 => by subst h9; simp at hnd)
    have n_so_lf : so ≠ lf := (fun h9 => by subst h9; simp at hnd)
    have n_so_rg : so ≠ rg := (fun h9 => by subst h9; simp at hnd)
    have n_so_eu : so ≠ eu := (fun h9 => by subst h9; simp at hnd)
    have n_so_ba : so ≠ ba := (fun h9 => by subst h9; simp at hnd)
    refine q_iload G 0 dX2_power_22 rfl ?_
    refine q_if_le (tgt := 76) G dX2_power_24 (by decide) (by have := hI.1.1; omega) (fun c1 => ?_) (fun c1 => ?_)
    · refine q_aload_n G 1 3 dX2_power_76 rfl rfl ?_
      refine q_aload_n G 2 0 dX2_power_77 rfl rfl ?_
      refine q_gt (v := .ref so) G dX2_power_78 fl_X2_41 hF (by decide) rfl (congrArg va_rf r7) ?_
      refine q_callV (As := [.ref so]) (rest := []) G dX2_power_81 cw_X2_101 (c_X1_become l D cy (wL M L) res so hr o7) hr.1 hr.2 (by decide) rfl rfl rfl (Nat.le_of_ble_eq_true rfl) rfl rfl ⟨Nat.le_of_ble_eq_true rfl, Nat.le_of_ble_eq_true rfl⟩ ⟨by decide, by decide⟩ (fun v9 M9 hq9 => ?_)
      obtain ⟨rfl, e9⟩ := hq9
      refine q_mem e9 ?_
      refine q_st (st2 := []) rfl ?_
      exact q_vret G dX2_power_84 hret (by omega) (by omega) (⟨rfl, _, rfl, (fun b k h1 h2 h3 h4 h5 h6 => by rw [stF_n _ _ _ _ h6]; exact hI.2.1 b k h1 h2 h3 h4 h5), by rw [gT_stF]; have h6 := hI.2.2.2.2; rw [show bits.toNat = 0 by omega, pwN, if_pos rfl] at h6; exact h6, by have h6 := hI.2.2.2.2; rw [show bits.toNat = 0 by omega, pwN, if_pos rfl] at h6; rw [← h6]; exact hI.2.2.2.1⟩)
    · obtain ⟨j1, rfl, hj⟩ := pwI_k hI c1
      refine q_iload G 0 dX2_power_27 rfl ?_
      refine q_iconst G dX2_power_29 ?_
      refine q_iand G dX2_power_30 ?_
      refine q_topI (z2 := bits % 2) (qand_1 hI.1.1 hI.1.2.1) ?_
      refine q_iconst G dX2_power_31 ?_
      refine q_icmp_ne (tgt := 51) G dX2_power_32 (by decide) (by clear hj; omega) (by clear hj; omega) (fun c2 => ?_) (fun c2 => ?_)
      · refine q_aload_n G 2 0 dX2_power_51 rfl rfl ?_
        refine q_aload_n G 2 0 dX2_power_52 rfl rfl ?_
        refine q_gt (v := .ref ba) G dX2_power_53 fl_X2_38 hF (by decide) rfl (congrArg va_rf r6) ?_
        refine q_aload_n G 2 0 dX2_power_56 rfl rfl ?_
        refine q_gt (v := .ref ba) G dX2_power_57 fl_X2_38 hF (by decide) rfl (congrArg va_rf r6) ?_
        refine q_aload_n G 2 0 dX2_power_60 rfl rfl ?_
        refine q_gt (v := .ref ba) G dX2_power_61 fl_X2_38 hF (by decide) rfl (congrArg va_rf r6) ?_
        refine q_callV (As := [.ref ba, .ref ba, .ref ba]) (rest := []) G dX2_power_64 cw_X2_110 (c_prodT l D cy (wL M L) fo un ge eu lf rg ba so on ot hFO hd ba ba ba o6 o6 o6 n_ba_lf hI.2.2.1 hI.2.2.1) hF.1 hF.2 (by decide) rfl rfl rfl (Nat.le_of_ble_eq_true rfl) rfl rfl ⟨Nat.le_of_ble_eq_true rfl, Nat.le_of_ble_eq_true rfl⟩ ⟨by decide, by decide⟩ (fun v9 M9 hq9 => ?_)
        obtain ⟨rfl, L2, e9, fr2, v2, g2, d2⟩ := hq9
        refine q_st (st2 := []) rfl ?_
        refine q_mem (M2 := wL M L2) e9 ?_
        have hba2 : gT L2 ba = mulT (gT L ba) (gT L ba) ∧ gd (mI M fo 0) (gT L2 ba) := ⟨v2, g2⟩
        have h6s : gT L2 so = gT L so := gT_eq (fun k => fr2 so k n_so_lf n_so_rg n_so_eu n_so_ba)
        have hso2 : gT L2 so = gT L so ∧ gd (mI M fo 0) (gT L2 so) := by rw [h6s]; exact ⟨rfl, hI.2.2.2.1⟩
        refine q_iload G 0 dX2_power_67 rfl ?_
        refine q_iconst G dX2_power_69 ?_
        refine q_ishr G dX2_power_70 ?_
        refine q_topI (z2 := bits / 2) (qshr_1 hI.1.1 hI.1.2.1) ?_
        refine q_istore (lv' := [(4, .int (qI (bits / 2))), (3, .ref res), (0, .ref fo)]) G dX2_power_71 (by decide) rfl ?_
        refine q_goto (tgt := 22) G dX2_power_73 (by decide) ?_
        refine q_lvs [0, 1, 2] rfl ?_
        exact ih (bits / 2) L2 j1 (by clear hj; omega) ⟨⟨by clear hj; omega, by clear hj; omega, hj, by clear hj; omega⟩, (fun b j h1 h2 h3 h4 h5 => (fr2 b j h1 h2 h3 h4).trans (hI.2.1 b j h1 h2 h3 h4 h5)), hba2.2, hso2.2, by rw [hba2.1, hso2.1]; have h6 := hI.2.2.2.2; rw [pwN, if_neg (show ¬ bits.toNat = 0 by clear hj; omega)] at h6; rw [show (bits / 2).toNat = bits.toNat / 2 by clear hj; omega]; rw [if_neg (show ¬ bits.toNat % 2 = 1 by clear hj; omega)] at h6; exact h6⟩
      · refine q_aload_n G 2 0 dX2_power_35 rfl rfl ?_
        refine q_aload_n G 2 0 dX2_power_36 rfl rfl ?_
        refine q_gt (v := .ref so) G dX2_power_37 fl_X2_41 hF (by decide) rfl (congrArg va_rf r7) ?_
        refine q_aload_n G 2 0 dX2_power_40 rfl rfl ?_
        refine q_gt (v := .ref ba) G dX2_power_41 fl_X2_38 hF (by decide) rfl (congrArg va_rf r6) ?_
        refine q_aload_n G 2 0 dX2_power_44 rfl rfl ?_
        refine q_gt (v := .ref so) G dX2_power_45 fl_X2_41 hF (by decide) rfl (congrArg va_rf r7) ?_
        refine q_callV (As := [.ref so, .ref ba, .ref so]) (rest := []) G dX2_power_48 cw_X2_110 (c_prodT l D cy (wL M L) fo un ge eu lf rg ba so on ot hFO hd so ba so o7 o6 o7 n_ba_lf hI.2.2.2.1 hI.2.2.1) hF.1 hF.2 (by decide) rfl rfl rfl (Nat.le_of_ble_eq_true rfl) rfl rfl ⟨Nat.le_of_ble_eq_true rfl, Nat.le_of_ble_eq_true rfl⟩ ⟨by decide, by decide⟩ (fun v9 M9 hq9 => ?_)
        obtain ⟨rfl, L1, e9, fr1, v1, g1, d1⟩ := hq9
        refine q_st (st2 := []) rfl ?_
        refine q_mem (M2 := wL M L1) e9 ?_
        have hba1 : gT L1 ba = gT L ba := gT_eq (fun k => fr1 ba k n_ba_lf n_ba_rg n_ba_eu n_ba_so)
        refine q_aload_n G 2 0 dX2_power_51 rfl rfl ?_
        refine q_aload_n G 2 0 dX2_power_52 rfl rfl ?_
        refine q_gt (v := .ref ba) G dX2_power_53 fl_X2_38 hF (by decide) rfl (congrArg va_rf r6) ?_
        refine q_aload_n G 2 0 dX2_power_56 rfl rfl ?_
        refine q_gt (v := .ref ba) G dX2_power_57 fl_X2_38 hF (by decide) rfl (congrArg va_rf r6) ?_
        refine q_aload_n G 2 0 dX2_power_60 rfl rfl ?_
        refine q_gt (v := .ref ba) G dX2_power_61 fl_X2_38 hF (by decide) rfl (congrArg va_rf r6) ?_
        refine q_callV (As := [.ref ba, .ref ba, .ref ba]) (rest := []) G dX2_power_64 cw_X2_110 (c_prodT l D cy (wL M L1) fo un ge eu lf rg ba so on ot hFO hd ba ba ba o6 o6 o6 n_ba_lf (show gd (mI M fo 0) (gT L1 ba) by rw [hba1]; exact hI.2.2.1) (show gd (mI M fo 0) (gT L1 ba) by rw [hba1]; exact hI.2.2.1)) hF.1 hF.2 (by decide) rfl rfl rfl (Nat.le_of_ble_eq_true rfl) rfl rfl ⟨Nat.le_of_ble_eq_true rfl, Nat.le_of_ble_eq_true rfl⟩ ⟨by decide, by decide⟩ (fun v9 M9 hq9 => ?_)
        obtain ⟨rfl, L2, e9, fr2, v2, g2, d2⟩ := hq9
        refine q_st (st2 := []) rfl ?_
        refine q_mem (M2 := wL M L2) e9 ?_
        have hba2 : gT L2 ba = mulT (gT L ba) (gT L ba) ∧ gd (mI M fo 0) (gT L2 ba) := ⟨v2.trans (by show mulT (gT L1 ba) (gT L1 ba) = _; rw [hba1]), g2⟩
        have h6s : gT L2 so = gT L1 so := gT_eq (fun k => fr2 so k n_so_lf n_so_rg n_so_eu n_so_ba)
        have hso2 : gT L2 so = mulT (gT L so) (gT L ba) ∧ gd (mI M fo 0) (gT L2 so) := by rw [h6s]; exact ⟨v1, g1⟩
        refine q_iload G 0 dX2_power_67 rfl ?_
        refine q_iconst G dX2_power_69 ?_
        refine q_ishr G dX2_power_70 ?_
        refine q_topI (z2 := bits / 2) (qshr_1 hI.1.1 hI.1.2.1) ?_
        refine q_istore (lv' := [(4, .int (qI (bits / 2))), (3, .ref res), (0, .ref fo)]) G dX2_power_71 (by decide) rfl ?_
        refine q_goto (tgt := 22) G dX2_power_73 (by decide) ?_
        refine q_lvs [0, 1, 2] rfl ?_
        exact ih (bits / 2) L2 j1 (by clear hj; omega) ⟨⟨by clear hj; omega, by clear hj; omega, hj, by clear hj; omega⟩, (fun b j h1 h2 h3 h4 h5 => (fr2 b j h1 h2 h3 h4).trans ((fr1 b j h1 h2 h3 h5).trans (hI.2.1 b j h1 h2 h3 h4 h5))), hba2.2, hso2.2, by rw [hba2.1, hso2.1]; have h6 := hI.2.2.2.2; rw [pwN, if_neg (show ¬ bits.toNat = 0 by clear hj; omega)] at h6; rw [show (bits / 2).toNat = bits.toNat / 2 by clear hj; omega]; rw [if_pos (show bits.toNat % 2 = 1 by clear hj; omega)] at h6; exact h6⟩
set_option maxRecDepth 100000 in
set_option maxHeartbeats 4000000 in
theorem c_X2_power (l : Launch) (D : va_G) (cy : Nat → ClassId) (M : qM) (fo un ge eu lf rg ba so on ot : Nat) (hFO : qFO M fo un ge eu lf rg ba so on ot) (hd : dOk (mI M fo 0)) (hun : gT (mL M) un = unT (mI M fo 0)) (f res : Nat) (n : Int) (hf : qO M f 1) (hr : qO M res 1) (hn : 0 ≤ n ∧ n < 2147483648) (gf : gd (mI M fo 0) (gT (mL M) f)) : qCt l D cy yX2_power cX2_power 5 none { frames := 4, cells := 0, slots := 0, locals := 103 } 0 0 [.ref fo, .ref f, .int (qI (n)), .ref res] M (po_power M lf rg eu ba so res (mI M fo 0) (powT (unT (mI M fo 0)) (gT (mL M) f) n)) := by
  refine qCt_of (lv0 := [(0, .ref fo), (1, .ref f), (2, .int (qI (n))), (3, .ref res)]) (by decide) rfl (Nat.le_of_ble_eq_true rfl) ?_
  intro p e s m args below meth c G hname hret
  obtain ⟨hF, ⟨r1, r2, r3, r4, r5, r6, r7, r8, r9⟩, ⟨o1, o2, o3, o4, o5, o6, o7, o8, o9⟩, hnd, hdi⟩ := id hFO
  have n_ba_so : ba ≠ so := (fun h9 => by subst h9; simp at hnd)
  have n_un_ba : un ≠ ba := (fun h9 => by subst h9; simp at hnd)
  refine q_aload_n G 0 0 dX2_power_0 rfl rfl ?_
  refine q_gt (v := .ref ba) G dX2_power_1 fl_X2_38 hF (by decide) rfl (congrArg va_rf r6) ?_
  refine q_aload_n G 1 1 dX2_power_4 rfl rfl ?_
  refine q_callV (As := [.ref f]) (rest := []) G dX2_power_5 cw_X2_101 (c_X1_become l D cy M ba f o6 hf) o6.1 o6.2 (by decide) rfl rfl rfl (Nat.le_of_ble_eq_true rfl) rfl rfl ⟨Nat.le_of_ble_eq_true rfl, Nat.le_of_ble_eq_true rfl⟩ ⟨by decide, by decide⟩ (fun v9 M9 hq9 => ?_)
  obtain ⟨rfl, e9⟩ := hq9
  refine q_mem e9 ?_
  refine q_st (st2 := []) rfl ?_
  refine q_aload_n G 0 0 dX2_power_8 rfl rfl ?_
  refine q_gt (v := .ref so) G dX2_power_9 fl_X2_41 hF (by decide) rfl (congrArg va_rf r7) ?_
  refine q_aload_n G 0 0 dX2_power_12 rfl rfl ?_
  refine q_gt (v := .ref un) G dX2_power_13 fl_X2_18 hF (by decide) rfl (congrArg va_rf r1) ?_
  refine q_callV (As := [.ref un]) (rest := []) G dX2_power_16 cw_X2_101 (c_X1_become l D cy (wL M (stF (mL M) ba (mL M f 0) (mL M f 1) (mL M f 2))) so un o7 o1) o7.1 o7.2 (by decide) rfl rfl rfl (Nat.le_of_ble_eq_true rfl) rfl rfl ⟨Nat.le_of_ble_eq_true rfl, Nat.le_of_ble_eq_true rfl⟩ ⟨by decide, by decide⟩ (fun v9 M9 hq9 => ?_)
  obtain ⟨rfl, e9⟩ := hq9
  refine q_mem e9 ?_
  refine q_st (st2 := []) rfl ?_
  refine q_mem (M2 := wL M (stF (stF (mL M) ba (mL M f 0) (mL M f 1) (mL M f 2)) so (mL M un 0) (mL M un 1) (mL M un 2))) (by simp only [wL_wL, mL_wL, stF_n _ _ _ _ n_un_ba]) ?_
  refine q_iload_n G 2 2 dX2_power_19 rfl rfl ?_
  refine q_istore (lv' := [(4, .int (qI (n))), (0, .ref fo), (1, .ref f), (2, .int (qI (n))), (3, .ref res)]) G dX2_power_20 (by decide) rfl ?_
  refine q_lvs [0, 4, 1] rfl ?_
  exact l_power l D cy M fo un ge eu lf rg ba so on ot hFO hd res hr _ G hret _ n (stF (stF (mL M) ba (mL M f 0) (mL M f 1) (mL M f 2)) so (mL M un 0) (mL M un 1) (mL M un 2)) 31 (Nat.lt_succ_self _) ⟨⟨hn.1, hn.2, by have := hn.2; omega, Nat.le_refl _⟩, (fun b j h1 h2 h3 h4 h5 => by rw [stF_n _ _ _ _ h5, stF_n _ _ _ _ h4]), by rw [gT_stF_n _ _ _ _ n_ba_so, gT_stF]; exact gf, by rw [gT_stF]; exact (show gd (mI M fo 0) (gT (mL M) un) by rw [hun]; exact (unT_gd hd).1), by rw [gT_stF_n _ _ _ _ n_ba_so, gT_stF, gT_stF]; show pwN 32 n.toNat (gT (mL M) f) (gT (mL M) un) = _; rw [hun]; rfl⟩
