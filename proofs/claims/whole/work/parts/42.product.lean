/-- a form that can be settled -/
def sOk (d a b c : Int) : Prop := 0 < a ∧ b * b - 4 * a * c = -d ∧ a ≤ 2147483648 ∧ (-2305843009213693952 ≤ b ∧ b ≤ 2305843009213693952) ∧ c ≤ 2305843009213693952
theorem sOk_stI {d a b c : Int} (hd0 : 0 < d) (h : sOk d a b c) : stI d a b c 0 a b c := ⟨h.1, st_pos h.1 h.2.1 hd0, h.2.1, fEq_rfl _ _ _, h.2.2.1, h.2.2.2.1, h.2.2.2.2, by omega, Or.inl rfl⟩
theorem sOk_rd {d a b c : Int} (hd9 : d ≤ 1000000000) (ha : 0 < a) (hr : isRd a b c) (hd : b * b - 4 * a * c = -d) : sOk d a b c := by
  have := rd_rng ha hr hd hd9
  exact ⟨ha, hd, by omega, by omega, by omega⟩
set_option maxRecDepth 100000 in
set_option maxHeartbeats 4000000 in
theorem c_X2_settle (l : Launch) (D : va_G) (cy : Nat → ClassId) (M : qM) (f h : Nat) (hF : qO M f 2) (hO : qO M h 1) (hd0 : 0 < mI M f 0) (hd9 : mI M f 0 ≤ 1000000000) (hk : sOk (mI M f 0) (mL M h 0) (mL M h 1) (mL M h 2)) : qCt l D cy yX2_settle cX2_settle 3 none { frames := 2, cells := 0, slots := 0, locals := 46 } 0 0 [.ref f, .ref h] M (po_settle M h) := by
  refine qCt_of (lv0 := [(0, .ref f), (1, .ref h)]) (by decide) rfl (Nat.le_of_ble_eq_true rfl) ?_
  intro p e s m args below meth c G hname hret
  refine q_iconst G dX2_settle_0 ?_
  refine q_istore_n (lv' := [(2, .int (qI (0))), (0, .ref f), (1, .ref h)]) G 2 dX2_settle_1 rfl (by decide) rfl ?_
  refine q_lvs [0, 2, 1] rfl ?_
  refine q_mem (M2 := wL M (stF (mL M) h (mL M h 0) (mL M h 1) (mL M h 2))) (by rw [stF_self]; rfl) ?_
  exact l_settle l D cy M f h hF hO hd0 hd9 G hret _ _ _ _ _ (Nat.lt_succ_self _) (sOk_stI hd0 hk)
/-- the forms' object: its parts, apart; the discriminant -/
def qFO (M : qM) (fo un ge eu lf rg ba so on ot : Nat) : Prop := qO M fo 2 ∧ (mR M fo 1 = some un ∧ mR M fo 2 = some ge ∧ mR M fo 3 = some eu ∧ mR M fo 4 = some lf ∧ mR M fo 5 = some rg ∧ mR M fo 6 = some ba ∧ mR M fo 7 = some so ∧ mR M fo 8 = some on ∧ mR M fo 9 = some ot) ∧
  (qO M un 1 ∧ qO M ge 1 ∧ qO M eu 0 ∧ qO M lf 1 ∧ qO M rg 1 ∧ qO M ba 1 ∧ qO M so 1 ∧ qO M on 1 ∧ qO M ot 1) ∧ [un, ge, eu, lf, rg, ba, so, on, ot].Nodup ∧ r32 (mI M fo 0)
def dOk (d : Int) : Prop := 7 ≤ d ∧ d ≤ 1000000000 ∧ d % 8 = 7
def po_product (M : qM) (lf rg eu f g res : Nat) : Option Value → qM → Prop := fun v M' => v = none ∧ ∃ L x y z, M' = wL M L ∧ (∀ b k, b ≠ lf → b ≠ rg → b ≠ eu → b ≠ res → L b k = mL M b k) ∧ L res 0 = x ∧ L res 1 = y ∧ L res 2 = z ∧ isMul (mL M f 0) (mL M f 1) (mL M f 2) (mL M g 0) (mL M g 1) (mL M g 2) x y z
/-- what the class's product comes to -/
theorem prod_ok {d a1 b1 c1 a2 b2 c2 g1 u v w e1 e2 : Int} (hd : dOk d) (p1 : 0 < a1) (r1 : isRd a1 b1 c1) (k1 : b1 * b1 - 4 * a1 * c1 = -d) (p2 : 0 < a2) (r2 : isRd a2 b2 c2) (k2 : b2 * b2 - 4 * a2 * c2 = -d)
    (h1 : isEu a1 a2 g1 u v) (h2 : isEu g1 ((b1 + b2).tdiv 2) w e1 e2) :
    0 < w ∧ (0 < quo a1 w ∧ quo a1 w ≤ 18257) ∧ (0 < quo a2 w ∧ quo a2 w ≤ 18257) ∧ r64 (e1 * v * ((b1 + b2).tdiv 2 - b2) - e2 * c2) ∧ (w ≤ 18257) ∧
    (let A := quo a1 w * quo a2 w; let B := b2 + 2 * quo a2 w * rmd (e1 * v * ((b1 + b2).tdiv 2 - b2) - e2 * c2) (quo a1 w);
      r64 (B * B + d) ∧ r64 (4 * A) ∧ fCu a1 b1 c1 a2 b2 c2 A B (quo (B * B + d) (4 * A)) ∧ sOk d A B (quo (B * B + d) (4 * A))) := by
  obtain ⟨x1, x2, x3, x4, x5⟩ := rd_rng p1 r1 k1 hd.2.1
  obtain ⟨y1, y2, y3, y4, y5⟩ := rd_rng p2 r2 k2 hd.2.1
  have o1 := odd_b k1 (by have := hd.2.2; omega)
  have o2 := odd_b k2 (by have := hd.2.2; omega)
  have hsum : (b1 + b2).tdiv 2 * 2 = b1 + b2 := by
    obtain ⟨t, ht⟩ : ∃ t, b1 + b2 = 2 * t := ⟨(b1 + b2) / 2, by omega⟩
    rw [ht, Int.mul_tdiv_cancel_left t (by decide)]; omega
  generalize (b1 + b2).tdiv 2 = s at h2 hsum ⊢
  obtain ⟨i1, i2, i3, i4, i5, i6⟩ := h1
  obtain ⟨j1, j2, j3, j4, j5, j6⟩ := h2
  have hg0 : g1 ≠ 0 := by
    rintro rfl
    have := Int.zero_dvd.mp i3
    omega
  have hgle := Int.le_of_dvd p1 i3
  have hw0 : w ≠ 0 := by
    rintro rfl
    have := Int.zero_dvd.mp j3
    omega
  have hwle := Int.le_of_dvd (show 0 < g1 by omega) j3
  obtain ⟨q1, e3⟩ := Int.dvd_trans j3 i3
  obtain ⟨q2, e4⟩ := Int.dvd_trans j3 i4
  have hq1 : 0 < q1 := by
    refine Int.not_le.mp (fun h => ?_)
    have := Int.mul_nonpos_of_nonneg_of_nonpos (show 0 ≤ w by omega) h
    omega
  have hq2 : 0 < q2 := by
    refine Int.not_le.mp (fun h => ?_)
    have := Int.mul_nonpos_of_nonneg_of_nonpos (show 0 ≤ w by omega) h
    omega
  have hq1b : q1 ≤ 18257 := by
    have := Int.mul_nonneg (show 0 ≤ w - 1 by omega) (show 0 ≤ q1 by omega)
    have k : (w - 1) * q1 = w * q1 - q1 := by grind
    omega
  have hq2b : q2 ≤ 18257 := by
    have := Int.mul_nonneg (show 0 ≤ w - 1 by omega) (show 0 ≤ q2 by omega)
    have k : (w - 1) * q2 = w * q2 - q2 := by grind
    omega
  rw [quo_dvd hw0 e3, quo_dvd hw0 e4]
  have he1 : -18257 ≤ e1 ∧ e1 ≤ 18257 := by omega
  have he2 : -18257 ≤ e2 ∧ e2 ≤ 18257 := by omega
  have hv : -18257 ≤ v ∧ v ≤ 18257 := by omega
  clear i5 i6 j5 j6
  have t1 := ab_le he1.1 he1.2 hv.1 hv.2
  have t2 := ab_le (n := 18257 * 18257) (m := 36514) t1.1 t1.2 (show -36514 ≤ s - b2 by omega) (show s - b2 ≤ 36514 by omega)
  have t3 := ab_le (n := 18257) (m := 333333333) he2.1 he2.2 (show -333333333 ≤ c2 by omega) y5
  have hT : r64 (e1 * v * (s - b2) - e2 * c2) := by omega
  refine ⟨by omega, ⟨hq1, hq1b⟩, ⟨hq2, hq2b⟩, hT, by omega, ?_⟩
  obtain ⟨C, hC⟩ := gauss (r := (e1 * v * (s - b2) - e2 * c2) % q1) p1 k1 k2 (by omega) i1 j1 hw0 e3 e4 j4 hq1 rfl
  rw [rmd_mod hq1]
  have m1 := Int.emod_nonneg (e1 * v * (s - b2) - e2 * c2) (show q1 ≠ 0 by omega)
  have m2 := Int.emod_lt_of_pos (e1 * v * (s - b2) - e2 * c2) hq1
  generalize (e1 * v * (s - b2) - e2 * c2) % q1 = r at hC m1 m2 ⊢
  have n1 := ab_le (x := q1) (y := q2) (n := 18257) (m := 18257) (by omega) hq1b (by omega) hq2b
  have n2 := ab_le (x := 2 * q2) (y := r) (n := 36514) (m := 18257) (by omega) (by omega) (by omega) (by omega)
  have n3 := Int.mul_pos hq1 hq2
  have hdis := fCu_disc hC
  show r64 ((b2 + 2 * q2 * r) * (b2 + 2 * q2 * r) + d) ∧ r64 (4 * (q1 * q2)) ∧ _ ∧ _
  have hB : -666654355 ≤ b2 + 2 * q2 * r ∧ b2 + 2 * q2 * r ≤ 666654355 := by omega
  generalize b2 + 2 * q2 * r = B at hC hdis hB ⊢
  have hBB := sq_le hB.1 hB.2
  have hB0 := sq_nn B
  generalize q1 * q2 = A at hC hdis n1 n3 ⊢
  have hd1 := hd.1
  have hd2 := hd.2.1
  have hk : B * B + d = 4 * A * C := by omega
  have hC0 : 0 < C := st_pos n3 (show B * B - 4 * A * C = -d by omega) (by omega)
  have hCle : C ≤ A * C := by
    have := Int.mul_nonneg (show 0 ≤ A - 1 by omega) (show 0 ≤ C by omega)
    have k : (A - 1) * C = A * C - C := by grind
    omega
  have hk2 : 4 * A * C = 4 * (A * C) := by grind
  rw [quo_dvd (show 4 * A ≠ 0 by omega) hk]
  exact ⟨by omega, by omega, hC, n3, by omega, by omega, by omega, by omega⟩
