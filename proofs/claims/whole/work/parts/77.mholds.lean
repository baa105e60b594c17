theorem bezN (n : Nat) : ∀ m : Nat, ∃ u v : Int, u * (m : Int) + v * (n : Int) = (Nat.gcd m n : Int) := by
  induction n using Nat.strongRecOn with
  | ind n ih =>
    intro m
    by_cases h : n = 0
    · subst h; exact ⟨1, 0, by simp⟩
    · obtain ⟨u, v, e⟩ := ih (m % n) (Nat.mod_lt _ (Nat.pos_of_ne_zero h)) n
      refine ⟨v, u - v * (m / n : Nat), ?_⟩
      rw [Nat.gcd_comm m n, Nat.gcd_rec, Nat.gcd_comm] 
      rw [← e]
      have h2 : ((m % n : Nat) : Int) = m - n * (m / n : Nat) := by
        have := Nat.mod_add_div m n
        have h3 : ((m % n + n * (m / n) : Nat) : Int) = m := by rw [this]
        rw [Int.natCast_add, Int.natCast_mul] at h3
        omega
      rw [h2]; grind
theorem bez (x y : Int) : ∃ u v : Int, u * x + v * y = (Int.gcd x y : Int) := by
  obtain ⟨u, v, e⟩ := bezN y.natAbs x.natAbs
  rcases Int.natAbs_eq x with hx | hx <;> rcases Int.natAbs_eq y with hy | hy
  · exact ⟨u, v, by rw [hx, hy]; simpa [Int.neg_mul_neg] using e⟩
  · exact ⟨u, -v, by rw [hx, hy]; simpa [Int.neg_mul_neg] using e⟩
  · exact ⟨-u, v, by rw [hx, hy]; simpa [Int.neg_mul_neg] using e⟩
  · exact ⟨-u, -v, by rw [hx, hy]; simpa [Int.neg_mul_neg] using e⟩
theorem gcd_fPr (a b c : Int) : Int.gcd (Int.gcd a b) c = 1 ↔ fPr a b c := by
  constructor
  · intro h
    obtain ⟨u, v, e1⟩ := bez a b
    obtain ⟨u2, v2, e2⟩ := bez (Int.gcd a b) c
    refine ⟨u2 * u, u2 * v, v2, ?_⟩
    rw [h] at e2
    rw [← e1] at e2
    grind
  · rintro ⟨x, y, z, e⟩
    have h1 : ((Int.gcd (Int.gcd a b) c : Nat) : Int) ∣ Int.gcd a b := Int.gcd_dvd_left _ _
    have h2 : ((Int.gcd (Int.gcd a b) c : Nat) : Int) ∣ c := Int.gcd_dvd_right _ _
    have h3 := Int.dvd_trans h1 (Int.gcd_dvd_left a b)
    have h4 := Int.dvd_trans h1 (Int.gcd_dvd_right a b)
    have h5 : ((Int.gcd (Int.gcd a b) c : Nat) : Int) ∣ 1 := by
      rw [← e]; exact Int.dvd_add (Int.dvd_add (Int.dvd_mul_of_dvd_right h3) (Int.dvd_mul_of_dvd_right h4)) (Int.dvd_mul_of_dvd_right h2)
    have h6 := Int.eq_one_of_dvd_one (by omega) h5
    omega
theorem redT_ex {d : Int} (hd : dOk d) {f : qT3} (hf : gd d f) : rdOf f (redT f) := by
  obtain ⟨a, b, c⟩ := f
  obtain ⟨x, y, z, h1, h2, h3⟩ := red_ex (by have := hd.1; omega) hd.2.1 _ a b c a b c (Nat.lt_succ_self _) (gd_smI (by have := hd.1; omega) hf)
  have h : rdOf (a, b, c) (x, y, z) := ⟨h1, h2, h3⟩
  rw [redT_eq h]; exact h
theorem geT_gd {d : Int} (hd : dOk d) : gd d (geT d) ∧ rdT (geT d) := ⟨rdOf_gd hd.2.1 (ge_gd hd) (redT_ex hd (ge_gd hd)), (redT_ex hd (ge_gd hd)).1⟩
theorem lp_ex {n : Int} (h : n ≤ 65539) : isLp n (lpN n) := by
  have : ∀ k : Nat, ∀ m : Int, n ≤ m → (65539 - m).toNat = k → m ≤ 65539 → (∀ j, n ≤ j → j < m → ¬ prm j) → ∃ c, isLp n c := by
    intro k
    induction k with
    | zero =>
      intro m h1 h2 h3 h4
      have : m = 65539 := by omega
      subst this
      exact ⟨65539, h1, h3, prm_65539, h4⟩
    | succ k ih =>
      intro m h1 h2 h3 h4
      by_cases hp : prm m
      · exact ⟨m, h1, h3, hp, h4⟩
      · exact ih (m + 1) (by omega) (by omega) (by omega) (fun j h5 h6 => by rcases (show j < m ∨ j = m by omega) with h7 | h7; exact h4 j h5 h7; rw [h7]; exact hp)
  exact Classical.epsilon_spec (p := fun c => isLp n c) (this _ n (Int.le_refl n) rfl h (fun j h1 h2 => absurd h1 (by omega)))
theorem prmT_r (x y : qT3) (t : Int) : 3 ≤ prmT x y t ∧ prmT x y t ≤ 65539 := by
  have hb := qand_65535 (mixN (mixF (mixF 2 x) y) t)
  have h := lp_ex (n := 3 + qand (mixN (mixF (mixF 2 x) y) t) 65535) (by omega)
  exact ⟨by have := h.1; unfold prmT; omega, h.2.1⟩
theorem gM_iff {L : Nat → Nat → Int} {qa qb qc i j : Nat} : (L qa i = L qa j ∧ L qb i = L qb j ∧ L qc i = L qc j) ↔ gM L qa qb qc i = gM L qa qb qc j := by
  unfold gM
  rw [Prod.mk.injEq, Prod.mk.injEq]
def po_h5 (M : qM) (qa qb qc : Nat) (P : Prop) : Option Value → qM → Prop := fun v M' => ∃ z : Int, v = some (.int (qI z)) ∧ ((z = 1 ∧ P) ∨ (z = 0 ∧ ¬ P)) ∧ ∃ L, M' = wL M L ∧ frM M L qa qb qc [58, 59, 56, 57, 60, 61]
set_option maxRecDepth 100000 in
set_option maxHeartbeats 4000000 in
theorem c_X5_holds (l : Launch) (D : va_G) (cy : Nat → ClassId) (M : qM) (mo qa qb qc qf qt : Nat) (hMO : qMO M mo qa qb qc qf qt) (d : Int) (hd : dOk d) (hun : gM (mL M) qa qb qc 54 = unT d) (x y pf t pr : Int) (hx : 0 ≤ x ∧ x < 54) (hy : 0 ≤ y ∧ y < 54) (hpf : 0 ≤ pf ∧ pf < 54) (ht : 0 ≤ t ∧ t ≤ 1000000) (hpr : 2 ≤ pr ∧ pr ≤ 1000000000) (gx : gd d (gM (mL M) qa qb qc x.toNat)) (gy : gd d (gM (mL M) qa qb qc y.toNat)) (gpf : gd d (gM (mL M) qa qb qc pf.toNat)) : qCt l D cy yX5_holds cX5_holds 6 (some .boolean) { frames := 5, cells := 0, slots := 0, locals := 159 } 0 0 [.ref mo, .int (qI (x)), .int (qI (y)), .int (qI (pf)), .int (qI (t)), .int (qI (pr))] M (po_h5 M qa qb qc (hdT d (gM (mL M) qa qb qc x.toNat) (gM (mL M) qa qb qc y.toNat) (gM (mL M) qa qb qc pf.toNat) t pr)) := by
  refine qCt_of (lv0 := [(0, .ref mo), (1, .int (qI (x))), (2, .int (qI (y))), (3, .int (qI (pf))), (4, .int (qI (t))), (5, .int (qI (pr)))]) (by decide) rfl (Nat.le_of_ble_eq_true rfl) ?_
  intro p e s m args below meth c G hname hret
  obtain ⟨hF, ⟨r2, r3, r4, r5, r8⟩, ⟨a2, a3, a4, a5, a8⟩, ⟨n1, n2, n3, n4, n5, n6⟩⟩ := id hMO
  have hpf1 : 0 ≤ pf ∧ pf < 64 := by omega
  have hx1 : 0 ≤ x ∧ x < 64 := by omega
  refine q_aload_n G 0 0 dX5_holds_0 rfl rfl ?_
  refine q_iload_n G 3 3 dX5_holds_1 rfl rfl ?_
  refine q_iload G 5 dX5_holds_2 rfl ?_
  refine q_bipush G dX5_holds_4 (by decide +kernel) ?_
  refine q_callV (As := [.int (qI (pf)), .int (qI (pr)), .int (qI (60))]) (rest := []) G dX5_holds_6 cw_X5_105 (c_X5_raiseTo l D cy M mo qa qb qc qf qt hMO d hd hun pf pr 60 hpf1 (by decide) (by omega) gpf) hF.1 hF.2 (by decide) rfl rfl rfl (Nat.le_of_ble_eq_true rfl) rfl rfl ⟨Nat.le_of_ble_eq_true rfl, Nat.le_of_ble_eq_true rfl⟩ ⟨by decide, by decide⟩ (fun v9 M9 hq9 => ?_)
  obtain ⟨rfl, L1, e9, fr1, v1, g1⟩ := hq9
  refine q_st (st2 := []) rfl ?_
  refine q_mem (M2 := wL M L1) e9 ?_
  replace v1 : gM L1 qa qb qc 60 = powT (unT d) (gM (mL M) qa qb qc pf.toNat) pr := v1
  replace fr1 : frM M L1 qa qb qc [58, 59, 56, 57, 60, 61] := frM_w fr1 (by intro y hy; simp at hy ⊢; omega)
  have fg1 : ∀ y : Nat, y < 56 → gM L1 qa qb qc y = gM (mL M) qa qb qc y := fun y hy => frM_g fr1 (by simp; omega)
  refine q_aload_n G 0 0 dX5_holds_9 rfl rfl ?_
  refine q_iload_n G 1 1 dX5_holds_10 rfl rfl ?_
  refine q_iload G 4 dX5_holds_11 rfl ?_
  refine q_iload G 5 dX5_holds_13 rfl ?_
  refine q_callS (As := [.int (qI (t)), .int (qI (pr))]) (rest := [.int (qI (x)), .ref mo]) G dX5_holds_15 cw_X5_132 (c_X5_restOf l D cy (wL M L1) t pr (by omega) (by omega) (by omega)) rfl rfl (Nat.le_of_ble_eq_true rfl) rfl rfl ⟨Nat.le_of_ble_eq_true rfl, Nat.le_of_ble_eq_true rfl⟩ ⟨by decide, by decide⟩ (fun v9 M9 hq9 => ?_)
  obtain ⟨rfl, e9⟩ := hq9
  refine q_mem e9 ?_
  refine q_st (st2 := [.int (qI (rstN t.toNat pr)), .int (qI (x)), .ref mo]) rfl ?_
  have hrs := rstN_in t.toNat hpr.1
  refine q_bipush G dX5_holds_18 (by decide +kernel) ?_
  refine q_callV (As := [.int (qI (x)), .int (qI (rstN t.toNat pr)), .int (qI (61))]) (rest := []) G dX5_holds_20 cw_X5_105 (c_X5_raiseTo l D cy (wL M L1) mo qa qb qc qf qt hMO d hd (show gM L1 qa qb qc 54 = _ by rw [fg1 54 (by omega)]; exact hun) x (rstN t.toNat pr) 61 hx1 (by decide) (by omega) (show gd d (gM L1 qa qb qc x.toNat) by rw [fg1 _ (by omega)]; exact gx)) hF.1 hF.2 (by decide) rfl rfl rfl (Nat.le_of_ble_eq_true rfl) rfl rfl ⟨Nat.le_of_ble_eq_true rfl, Nat.le_of_ble_eq_true rfl⟩ ⟨by decide, by decide⟩ (fun v9 M9 hq9 => ?_)
  obtain ⟨rfl, L2, e9, fr2, v2, g2⟩ := hq9
  refine q_st (st2 := []) rfl ?_
  refine q_mem (M2 := wL M L2) e9 ?_
  replace v2 : gM L2 qa qb qc 61 = powT (unT d) (gM L1 qa qb qc x.toNat) (rstN t.toNat pr) := v2
  have h60 : gM L2 qa qb qc 60 = gM L1 qa qb qc 60 := frM_g fr2 (by simp)
  replace fr2 : frM M L2 qa qb qc [58, 59, 56, 57, 60, 61] := frM_c fr1 (frM_w fr2 (by intro y hy; simp at hy ⊢; omega))
  refine q_aload_n G 0 0 dX5_holds_23 rfl rfl ?_
  refine q_bipush G dX5_holds_24 (by decide +kernel) ?_
  refine q_bipush G dX5_holds_26 (by decide +kernel) ?_
  refine q_bipush G dX5_holds_28 (by decide +kernel) ?_
  refine q_callV (As := [.int (qI (60)), .int (qI (61)), .int (qI (60))]) (rest := []) G dX5_holds_30 cw_X5_69 (c_X5_times l D cy (wL M L2) mo qa qb qc qf qt hMO d hd 60 61 60 (by decide) (by decide) (by decide) (by decide) (show gd d (gM L2 qa qb qc 60) by rw [h60, v1]; exact g1) (show gd d (gM L2 qa qb qc 61) by rw [v2]; exact g2)) hF.1 hF.2 (by decide) rfl rfl rfl (Nat.le_of_ble_eq_true rfl) rfl rfl ⟨Nat.le_of_ble_eq_true rfl, Nat.le_of_ble_eq_true rfl⟩ ⟨by decide, by decide⟩ (fun v9 M9 hq9 => ?_)
  obtain ⟨rfl, L3, e9, fr3, v3, g3, d3⟩ := hq9
  refine q_st (st2 := []) rfl ?_
  refine q_mem (M2 := wL M L3) e9 ?_
  replace v3 : gM L3 qa qb qc 60 = mulT (gM L2 qa qb qc 60) (gM L2 qa qb qc 61) := v3
  replace g3 : gd d (gM L3 qa qb qc 60) := g3
  replace fr3 : frM M L3 qa qb qc [58, 59, 56, 57, 60, 61] := frM_c fr2 (frM_w fr3 (by intro y hy; simp at hy ⊢; omega))
  have fy : gM L3 qa qb qc y.toNat = gM (mL M) qa qb qc y.toNat := frM_g fr3 (by simp; omega)
  have gy3 : gd d (gM L3 qa qb qc y.toNat) := by rw [fy]; exact gy
  have hd0 : 0 < d := by have := hd.1; omega
  have ra := gd_r hd0 g3
  have rb := gd_r hd0 gy3
  refine q_aload_n G 0 0 dX5_holds_33 rfl rfl ?_
  refine q_bipush G dX5_holds_34 (by decide +kernel) ?_
  refine q_iload_n G 2 2 dX5_holds_36 rfl rfl ?_
  refine q_callV (As := [.int (qI (60)), .int (qI (y))]) (rest := []) G dX5_holds_37 cw_X5_135 (c_X5_same l D cy (wL M L3) mo qa qb qc qf qt hMO 60 y (by decide) (by omega) ra.1 ra.2.1 ra.2.2 rb.1 rb.2.1 rb.2.2) hF.1 hF.2 (by decide) rfl rfl rfl (Nat.le_of_ble_eq_true rfl) rfl rfl ⟨Nat.le_of_ble_eq_true rfl, Nat.le_of_ble_eq_true rfl⟩ ⟨by decide, by decide⟩ (fun v9 M9 hq9 => ?_)
  obtain ⟨rfl, e9⟩ := hq9
  refine q_mem e9 ?_
  refine q_st (st2 := [.int (qI (if L3 qa 60 = L3 qa y.toNat ∧ L3 qb 60 = L3 qb y.toNat ∧ L3 qc 60 = L3 qc y.toNat then 1 else 0))]) rfl ?_
  exact q_zret G dX5_holds_40 hret (by split <;> decide +kernel) (by omega) (by omega) (by have hq : (L3 qa 60 = L3 qa y.toNat ∧ L3 qb 60 = L3 qb y.toNat ∧ L3 qc 60 = L3 qc y.toNat) ↔ hdT d (gM (mL M) qa qb qc x.toNat) (gM (mL M) qa qb qc y.toNat) (gM (mL M) qa qb qc pf.toNat) t pr := (by rw [gM_iff, v3, h60, v1, v2, fg1 _ (by omega), fy]; exact Iff.rfl); exact ⟨_, rfl, (by by_cases h9 : hdT d (gM (mL M) qa qb qc x.toNat) (gM (mL M) qa qb qc y.toNat) (gM (mL M) qa qb qc pf.toNat) t pr; exact Or.inl ⟨if_pos (hq.mpr h9), h9⟩; exact Or.inr ⟨if_neg (fun h8 => h9 (hq.mp h8)), h9⟩), L3, rfl, fr3⟩)
