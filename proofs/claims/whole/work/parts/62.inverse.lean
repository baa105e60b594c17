/-! an inverse -/
theorem mod_if {x n : Int} (hn : 0 < n) : (if x.tmod n < 0 then x.tmod n + n else x.tmod n) = x % n := by
  have h := rmd_mod (p := x) hn
  unfold rmd at h
  rw [if_neg (show n ≠ 0 by omega)] at h
  exact h
def invI (n a r s u v : Int) : Prop := 0 ≤ r ∧ 0 ≤ s ∧ ∃ k f fl, euI n a k r s f fl u v
theorem inv_step {n a r s u v : Int} (hn : n.natAbs < 281474976710656) (ha : a.natAbs < 281474976710656) (h : invI n a r s u v) (h0 : s ≠ 0) : invI n a s (r - r.tdiv s * s) v (u - r.tdiv s * v) ∧ (r - r.tdiv s * s).toNat < s.toNat := by
  obtain ⟨h1, h2, k, f, fl, h3⟩ := h
  obtain ⟨e1, -, e3⟩ := eu_step hn ha h3 h0
  have eq : quo r s = r.tdiv s := by unfold quo; rw [if_neg h0]
  rw [eq] at e1 e3
  have h4 : 0 ≤ r - r.tdiv s * s := by rw [eu_tm]; exact Int.tmod_nonneg s h1
  exact ⟨⟨h2, h4, _, _, _, e1⟩, by omega⟩
theorem inv_end {n a b r u v : Int} (hn : 0 < n) (hb : b = a % n) (hg : Int.gcd a n = 1) (h : invI n b r 0 u v) : r64 u → (0 ≤ u % n ∧ u % n < n ∧ ∃ k, a * (u % n) = 1 + n * k) := by
  intro _
  obtain ⟨h1, h2, k, f, fl, h3⟩ := h
  obtain ⟨e1, e2, e3, e4, -, -⟩ := eu_end h3 (z := 1) (by rw [if_neg (by omega)])
  have hm := Int.emod_add_mul_ediv a n
  rw [← hb] at hm
  have d1 : r ∣ n := by have : 1 * r = r := by omega
                        rw [this] at e3; exact e3
  have d2 : r ∣ b := by have : 1 * r = r := by omega
                        rw [this] at e4; exact e4
  have d3 : r ∣ a := by rw [← hm]; exact Int.dvd_add d2 (Int.dvd_mul_of_dvd_left d1)
  have d4 : r ∣ ((Int.gcd a n : Nat) : Int) := Int.dvd_coe_gcd d3 d1
  rw [hg] at d4
  have hr : r = 1 := by
    have h5 := Int.le_of_dvd (by decide) d4
    have h6 : r ≠ 0 := by
      rintro rfl
      have := Int.zero_dvd.mp d4
      omega
    omega
  refine ⟨Int.emod_nonneg u (by omega), Int.emod_lt_of_pos u hn, ?_⟩
  have hu := Int.emod_add_mul_ediv u n
  have e5 : f * n + u * b = 1 := by rw [hr] at e1; grind
  refine ⟨(a / n) * (u % n) - b * (u / n) - f, ?_⟩
  have e6 : b * (u % n) = b * u - n * (b * (u / n)) := by
    have : u % n = u - n * (u / n) := by omega
    rw [this]; grind
  have e7 : a * (u % n) = b * (u % n) + n * ((a / n) * (u % n)) := by
    have h8 : a * (u % n) = (b + n * (a / n)) * (u % n) := by rw [hm]
    rw [h8]; grind
  rw [e7, e6]
  have e8 : b * u = 1 - f * n := by grind
  rw [e8]; grind
theorem inv_r {n a r s u v : Int} (hn : 0 < n) (hn2 : n < 281474976710656) (ha : 0 ≤ a) (ha2 : a < n) (h : invI n a r s u v) : r64 r ∧ r64 s ∧ r64 u := by
  obtain ⟨h1, h2, k, f, fl, h3⟩ := h
  have h4 := eu_r64 (p := n) (q := a) (by omega) (by omega) h3
  obtain ⟨-, -, -, -, -, -, h8, -⟩ := h3
  have h9 : u.natAbs ≤ 281474976710656 := by
    have : max 1 n.natAbs ≤ 281474976710656 := Nat.max_le.mpr ⟨by decide, by omega⟩
    omega
  omega
def po_inv (M : qM) (a n : Int) : Option Value → qM → Prop := fun v M' => (∃ x, v = some (.long (qL x)) ∧ 0 ≤ x ∧ x < n ∧ ∃ k, a * x = 1 + n * k) ∧ M' = M
set_option maxRecDepth 100000 in
set_option maxHeartbeats 4000000 in
theorem l_inv {p : Program} {e : Env} {s : State} {m : MethodId} {args : Array Value} {below : List Frame} {meth : Method} {c : Code} (l : Launch) (D : va_G) (cy : Nat → ClassId) (M : qM) (aa nn : Int) (hn : 0 < nn) (hn2 : nn < 281474976710656) (hg : Int.gcd aa nn = 1) (G : qG p s m args meth c cX5_inverse 16 yX5_inverse.cls D cy (qA (mP M) s.heap.size)) (hret : meth.sig.returnType = (some .long)) : ∀ (w9 : Nat) (rr ss uu vv : Int), ss.toNat < w9 → invI nn (aa % nn) rr ss uu vv → qK p l e { frames := 1, cells := 0, slots := 0, locals := 25 } s m args below meth c (MQ below (qQ D cy (mP M) (po_inv M aa nn)) args s 0 0 (qA (mP M) s.heap.size)) 16 D cy (qA (mP M) s.heap.size) 0 0 16 [(10, .long (qL (vv))), (8, .long (qL (uu))), (6, .long (qL (ss))), (4, .long (qL (rr))), (2, .long (qL (nn)))] [] (M) := by
  intro w9
  induction w9 with
  | zero => intro rr ss uu vv h9; exact absurd h9 (Nat.not_lt_zero _)
  | succ w9 ih =>
    intro rr ss uu vv hm hI
    have hq1 := Int.emod_nonneg aa (show nn ≠ 0 by omega)
    have hq2 := Int.emod_lt_of_pos aa hn
    have hrg := inv_r hn hn2 hq1 hq2 hI
    refine q_lload G 2 dX5_inverse_16 rfl ?_
    refine q_lconst (z := 0) G dX5_inverse_18 (by decide +kernel) ?_
    refine q_lcmp_eq (tgt := 69) G dX5_inverse_19 dX5_inverse_20 (by decide) (by first | assumption | omega) (by first | assumption | omega) (fun c1 => ?_) (fun c1 => ?_)
    · refine q_lload G 1 dX5_inverse_69 rfl ?_
      refine q_lload_n G 4 2 dX5_inverse_71 rfl rfl ?_
      refine q_callS (As := [.long (qL (uu)), .long (qL (nn))]) (rest := []) G dX5_inverse_72 cw_X5_31 (c_X5_modulo l D cy M (uu) (nn) (by omega) (by omega) (by omega)) rfl rfl (Nat.le_of_ble_eq_true rfl) rfl rfl ⟨Nat.le_of_ble_eq_true rfl, Nat.le_of_ble_eq_true rfl⟩ ⟨by decide, by decide⟩ (fun v9 M9 hq9 => ?_)
      obtain ⟨rfl, e9⟩ := hq9
      refine q_mem e9 ?_
      refine q_st (st2 := [.long (qL (if (uu).tmod (nn) < 0 then (uu).tmod (nn) + nn else (uu).tmod (nn)))]) rfl ?_
      refine q_topL (z2 := uu % nn) (mod_if (by omega)) ?_
      exact q_lret G dX5_inverse_75 hret (by omega) (by omega) (⟨⟨_, rfl, inv_end hn rfl hg (by rw [c1] at hI; exact hI) (by omega)⟩, rfl⟩)
    · have hst := inv_step (by omega) (by omega) hI c1
      refine q_lload G 3 dX5_inverse_23 rfl ?_
      refine q_lload G 2 dX5_inverse_25 rfl ?_
      refine q_ldiv G dX5_inverse_27 (by first | assumption | omega) (by first | assumption | omega) (by first | assumption | omega) ?_
      refine q_lstore (lv' := [(12, .long (qL ((rr).tdiv ss))), (10, .long (qL (vv))), (8, .long (qL (uu))), (6, .long (qL (ss))), (4, .long (qL (rr))), (2, .long (qL (nn)))]) G dX5_inverse_28 (by decide) rfl ?_
      refine q_lload G 4 dX5_inverse_30 rfl ?_
      refine q_lload G 0 dX5_inverse_32 rfl ?_
      refine q_lload G 3 dX5_inverse_34 rfl ?_
      refine q_lmul G dX5_inverse_36 ?_
      refine q_lsub G dX5_inverse_37 ?_
      refine q_lstore (lv' := [(14, .long (qL (rr - (((rr).tdiv ss) * ss)))), (12, .long (qL ((rr).tdiv ss))), (10, .long (qL (vv))), (8, .long (qL (uu))), (6, .long (qL (ss))), (4, .long (qL (rr))), (2, .long (qL (nn)))]) G dX5_inverse_38 (by decide) rfl ?_
      refine q_lload G 4 dX5_inverse_40 rfl ?_
      refine q_lstore (lv' := [(4, .long (qL (ss))), (14, .long (qL (rr - (((rr).tdiv ss) * ss)))), (12, .long (qL ((rr).tdiv ss))), (10, .long (qL (vv))), (8, .long (qL (uu))), (6, .long (qL (ss))), (2, .long (qL (nn)))]) G dX5_inverse_42 (by decide) rfl ?_
      refine q_lload G 1 dX5_inverse_44 rfl ?_
      refine q_lstore (lv' := [(6, .long (qL (rr - (((rr).tdiv ss) * ss)))), (4, .long (qL (ss))), (14, .long (qL (rr - (((rr).tdiv ss) * ss)))), (12, .long (qL ((rr).tdiv ss))), (10, .long (qL (vv))), (8, .long (qL (uu))), (2, .long (qL (nn)))]) G dX5_inverse_46 (by decide) rfl ?_
      refine q_lload G 5 dX5_inverse_48 rfl ?_
      refine q_lload G 3 dX5_inverse_50 rfl ?_
      refine q_lload G 4 dX5_inverse_52 rfl ?_
      refine q_lmul G dX5_inverse_54 ?_
      refine q_lsub G dX5_inverse_55 ?_
      refine q_lstore (lv' := [(14, .long (qL (uu - (((rr).tdiv ss) * vv)))), (6, .long (qL (rr - (((rr).tdiv ss) * ss)))), (4, .long (qL (ss))), (12, .long (qL ((rr).tdiv ss))), (10, .long (qL (vv))), (8, .long (qL (uu))), (2, .long (qL (nn)))]) G dX5_inverse_56 (by decide) rfl ?_
      refine q_lload G 4 dX5_inverse_58 rfl ?_
      refine q_lstore (lv' := [(8, .long (qL (vv))), (14, .long (qL (uu - (((rr).tdiv ss) * vv)))), (6, .long (qL (rr - (((rr).tdiv ss) * ss)))), (4, .long (qL (ss))), (12, .long (qL ((rr).tdiv ss))), (10, .long (qL (vv))), (2, .long (qL (nn)))]) G dX5_inverse_60 (by decide) rfl ?_
      refine q_lload G 1 dX5_inverse_62 rfl ?_
      refine q_lstore (lv' := [(10, .long (qL (uu - (((rr).tdiv ss) * vv)))), (8, .long (qL (vv))), (14, .long (qL (uu - (((rr).tdiv ss) * vv)))), (6, .long (qL (rr - (((rr).tdiv ss) * ss)))), (4, .long (qL (ss))), (12, .long (qL ((rr).tdiv ss))), (2, .long (qL (nn)))]) G dX5_inverse_64 (by decide) rfl ?_
      refine q_goto (tgt := 16) G dX5_inverse_66 (by decide) ?_
      refine q_lvs [0, 1, 3, 4, 6] rfl ?_
      exact ih _ _ _ _ (by have := hst.2; omega) hst.1
set_option maxRecDepth 100000 in
set_option maxHeartbeats 4000000 in
theorem c_X5_inverse (l : Launch) (D : va_G) (cy : Nat → ClassId) (M : qM) (aa nn : Int) (ha : r64 aa) (hn : 0 < nn) (hn2 : nn < 281474976710656) (hg : Int.gcd aa nn = 1) : qCt l D cy yX5_inverse cX5_inverse 16 (some .long) { frames := 1, cells := 0, slots := 0, locals := 25 } 0 0 [.long (qL (aa)), .long (qL (nn))] M (po_inv M aa nn) := by
  refine qCt_of (lv0 := [(0, .long (qL (aa))), (2, .long (qL (nn)))]) (by decide) rfl (Nat.le_of_ble_eq_true rfl) ?_
  intro p e s m args below meth c G hname hret
  refine q_lload_n G 1 2 dX5_inverse_0 rfl rfl ?_
  refine q_lstore (lv' := [(4, .long (qL (nn))), (0, .long (qL (aa))), (2, .long (qL (nn)))]) G dX5_inverse_1 (by decide) rfl ?_
  refine q_lload_n G 1 0 dX5_inverse_3 rfl rfl ?_
  refine q_lload_n G 2 2 dX5_inverse_4 rfl rfl ?_
  refine q_callS (As := [.long (qL (aa)), .long (qL (nn))]) (rest := []) G dX5_inverse_5 cw_X5_31 (c_X5_modulo l D cy M (aa) (nn) (by omega) (by omega) (by omega)) rfl rfl (Nat.le_of_ble_eq_true rfl) rfl rfl ⟨Nat.le_of_ble_eq_true rfl, Nat.le_of_ble_eq_true rfl⟩ ⟨by decide, by decide⟩ (fun v9 M9 hq9 => ?_)
  obtain ⟨rfl, e9⟩ := hq9
  refine q_mem e9 ?_
  refine q_st (st2 := [.long (qL (if (aa).tmod (nn) < 0 then (aa).tmod (nn) + nn else (aa).tmod (nn)))]) rfl ?_
  refine q_topL (z2 := aa % nn) (mod_if (by omega)) ?_
  refine q_lstore (lv' := [(6, .long (qL (aa % nn))), (4, .long (qL (nn))), (0, .long (qL (aa))), (2, .long (qL (nn)))]) G dX5_inverse_8 (by decide) rfl ?_
  refine q_lconst (z := 0) G dX5_inverse_10 (by decide +kernel) ?_
  refine q_lstore (lv' := [(8, .long (qL (0))), (6, .long (qL (aa % nn))), (4, .long (qL (nn))), (0, .long (qL (aa))), (2, .long (qL (nn)))]) G dX5_inverse_11 (by decide) rfl ?_
  refine q_lconst (z := 1) G dX5_inverse_13 (by decide +kernel) ?_
  refine q_lstore (lv' := [(10, .long (qL (1))), (8, .long (qL (0))), (6, .long (qL (aa % nn))), (4, .long (qL (nn))), (0, .long (qL (aa))), (2, .long (qL (nn)))]) G dX5_inverse_14 (by decide) rfl ?_
  refine q_lvs [0, 1, 2, 3, 5] rfl ?_
  exact l_inv l D cy M aa nn hn hn2 hg G hret _ _ _ _ _ (Nat.lt_succ_self _) ⟨by omega, Int.emod_nonneg aa (by omega), _, _, _, eu_init nn (aa % nn)⟩
