theorem gcd_r {x y N : Int} (hx : -N ≤ x) (hx2 : x ≤ N) (hy : -N ≤ y) (hy2 : y ≤ N) : 0 ≤ ((Int.gcd x y : Nat) : Int) ∧ ((Int.gcd x y : Nat) : Int) ≤ N := by
  refine ⟨Int.natCast_nonneg _, ?_⟩
  by_cases h : x = 0
  · subst h
    have : Int.gcd 0 y = y.natAbs := Int.zero_gcd
    rw [this]; omega
  · have h1 : ((Int.gcd x y : Nat) : Int) ∣ x := Int.gcd_dvd_left x y
    have h2 : ((Int.gcd x y : Nat) : Int) ∣ (x.natAbs : Int) := Int.dvd_natAbs.mpr h1
    have := Int.le_of_dvd (by omega) h2
    omega
theorem mi_b {p q r x y u v : Int} (hp : 0 < p ∧ p ≤ 18257) (hq : -18257 ≤ q ∧ q ≤ 18257) (hr : 0 < r ∧ r ≤ 333333333) (hx : -14 ≤ x ∧ x ≤ 14) (hy : -14 ≤ y ∧ y ≤ 14) (hu : -200 ≤ u ∧ u ≤ 200) (hv : -14 ≤ v ∧ v ≤ 14) :
    -1000000000000 ≤ 2 * p * x * u + q * (x * v + y * u) + 2 * r * y * v ∧ 2 * p * x * u + q * (x * v + y * u) + 2 * r * y * v ≤ 1000000000000 := by
  have a1 := ab_le (x := 2 * p) (y := x) (n := 36514) (m := 14) (by omega) (by omega) hx.1 hx.2
  have a2 := ab_le (x := 2 * p * x) (y := u) (n := 36514 * 14) (m := 200) a1.1 a1.2 hu.1 hu.2
  have b1 := ab_le (x := x) (y := v) (n := 14) (m := 14) hx.1 hx.2 hv.1 hv.2
  have b2 := ab_le (x := y) (y := u) (n := 14) (m := 200) hy.1 hy.2 hu.1 hu.2
  have b3 := ab_le (x := q) (y := x * v + y * u) (n := 18257) (m := 3000) hq.1 hq.2 (by omega) (by omega)
  have c1 := ab_le (x := 2 * r) (y := y) (n := 666666666) (m := 14) (by omega) (by omega) hy.1 hy.2
  have c2 := ab_le (x := 2 * r * y) (y := v) (n := 666666666 * 14) (m := 14) c1.1 c1.2 hv.1 hv.2
  omega
theorem gv_b {p q r x y : Int} (hp : 0 < p ∧ p ≤ 18257) (hq : -18257 ≤ q ∧ q ≤ 18257) (hr : 0 < r ∧ r ≤ 333333333) (hx : -20 ≤ x ∧ x ≤ 20) (hy : -20 ≤ y ∧ y ≤ 20) : -1000000000000 ≤ p * x * x + q * x * y + r * y * y ∧ p * x * x + q * x * y + r * y * y ≤ 1000000000000 := by
  have a1 := ab_le (x := p) (y := x) (n := 18257) (m := 20) (by omega) hp.2 hx.1 hx.2
  have a2 := ab_le (x := p * x) (y := x) (n := 18257 * 20) (m := 20) a1.1 a1.2 hx.1 hx.2
  have b1 := ab_le (x := q) (y := x) (n := 18257) (m := 20) hq.1 hq.2 hx.1 hx.2
  have b2 := ab_le (x := q * x) (y := y) (n := 18257 * 20) (m := 20) b1.1 b1.2 hy.1 hy.2
  have c1 := ab_le (x := r) (y := y) (n := 333333333) (m := 20) (by omega) hr.2 hy.1 hy.2
  have c2 := ab_le (x := r * y) (y := y) (n := 333333333 * 20) (m := 20) c1.1 c1.2 hy.1 hy.2
  omega
theorem uy_b {x v u y : Int} (h : u * y = x * v - 1) (hx : -14 ≤ x ∧ x ≤ 14) (hv : -14 ≤ v ∧ v ≤ 14) (hy : y ≠ 0) : -200 ≤ u ∧ u ≤ 200 := by
  have b1 := ab_le (x := x) (y := v) (n := 14) (m := 14) hx.1 hx.2 hv.1 hv.2
  have h1 : u.natAbs ≤ (u * y).natAbs := by rw [Int.natAbs_mul]; exact Nat.le_mul_of_pos_right _ (by omega)
  rw [h] at h1
  omega
theorem un_n {a b mi f m0 iv kk n : Int} (hk : a * iv = 1 + f * kk) (en : n = ((m0 % f) * iv) % f) (em : mi - b = 2 * m0) : ∃ t, b + 2 * a * n = mi + 2 * f * t := by
  have h1 := Int.emod_add_mul_ediv ((m0 % f) * iv) f
  rw [← en] at h1
  have h2 := Int.emod_add_mul_ediv m0 f
  generalize ((m0 % f) * iv) / f = s at h1
  generalize m0 / f = t at h2
  generalize m0 % f = m1 at h1 h2
  refine ⟨m1 * kk - t - a * s, ?_⟩
  have h3 : a * n = m1 * (a * iv) - a * (f * s) := by
    have : n = m1 * iv - f * s := by omega
    rw [this]; grind
  rw [hk] at h3
  have h4 : 2 * a * n = 2 * (a * n) := by grind
  rw [h4, h3]
  have h5 : mi = b + 2 * m0 := by omega
  rw [h5, ← h2]; grind
set_option maxRecDepth 100000 in
set_option maxHeartbeats 4000000 in
theorem l_un206 {p : Program} {e : Env} {s : State} {m : MethodId} {args : Array Value} {below : List Frame} {meth : Method} {c : Code} (l : Launch) (D : va_G) (cy : Nat → ClassId) (M : qM) (mo qa qb qc qf qt : Nat) (hMO : qMO M mo qa qb qc qf qt) (i : Int) (hi : 0 ≤ i ∧ i < 64) (d la lb lc rp rq rr : Int) (hU : unP M qa qb qc d la lb lc rp rq rr) (x y u v f : Int) (hvu : x * v - u * y = 1) (hfe : f = gv rp rq rr (x, y)) (hx : -14 ≤ x ∧ x ≤ 14) (hy : -14 ≤ y ∧ y ≤ 14) (hu : -200 ≤ u ∧ u ≤ 200) (hv : -14 ≤ v ∧ v ≤ 14) (hf : 0 < f) (hf2 : f ≤ 3000000000) (haf : la * (f * f) ≤ 9000000000000000000) (hg : Int.gcd la f = 1) (G : qG p s m args meth c cX5_unite 27 yX5_unite.cls D cy (qA (mP M) s.heap.size)) (hret : meth.sig.returnType = none) : qK p l e { frames := 2, cells := 0, slots := 0, locals := 60 } s m args below meth c (MQ below (qQ D cy (mP M) (po_unite M qa qb qc i.toNat la lb lc rp rq rr)) args s 0 0 (qA (mP M) s.heap.size)) 27 D cy (qA (mP M) s.heap.size) 0 0 206 [(21, .long (qL (u))), (19, .long (qL (v))), (17, .long (qL (f))), (14, .long (qL (y))), (12, .long (qL (x))), (10, .long (qL (rr))), (8, .long (qL (rq))), (6, .long (qL (rp))), (4, .long (qL (lb))), (2, .long (qL (la))), (1, .int (qI (i))), (0, .ref mo)] [] (M) := by
  obtain ⟨hF, ⟨r2, r3, r4, r5, r8⟩, ⟨a2, a3, a4, a5, a8⟩, ⟨n1, n2, n3, n4, n5, n6⟩⟩ := id hMO
  obtain ⟨⟨u1, u2, u3⟩, ⟨u4, u5, u6⟩, hd, ⟨v1, v2, v3⟩, ⟨w1, w2, w3, w4⟩, hap⟩ := id hU
  have g1 := rd_rng v1 v2 v3 hd.2.1
  have g2 := rd_rng w1 w2 w3 hd.2.1
  refine q_ldc2 (z := 2) G dX5_unite_206 tw_636 (by decide +kernel) ?_
  refine q_lload G 7 dX5_unite_209 rfl ?_
  refine q_lmul G dX5_unite_211 ?_
  refine q_lload G 4 dX5_unite_212 rfl ?_
  refine q_lmul G dX5_unite_214 ?_
  refine q_lload G 0 dX5_unite_215 rfl ?_
  refine q_lmul G dX5_unite_217 ?_
  refine q_lload G 6 dX5_unite_218 rfl ?_
  refine q_lload G 4 dX5_unite_220 rfl ?_
  refine q_lload G 1 dX5_unite_222 rfl ?_
  refine q_lmul G dX5_unite_224 ?_
  refine q_lload G 3 dX5_unite_225 rfl ?_
  refine q_lload G 0 dX5_unite_227 rfl ?_
  refine q_lmul G dX5_unite_229 ?_
  refine q_ladd G dX5_unite_230 ?_
  refine q_lmul G dX5_unite_231 ?_
  refine q_ladd G dX5_unite_232 ?_
  refine q_ldc2 (z := 2) G dX5_unite_233 tw_636 (by decide +kernel) ?_
  refine q_lload G 5 dX5_unite_236 rfl ?_
  refine q_lmul G dX5_unite_238 ?_
  refine q_lload G 3 dX5_unite_239 rfl ?_
  refine q_lmul G dX5_unite_241 ?_
  refine q_lload G 1 dX5_unite_242 rfl ?_
  refine q_lmul G dX5_unite_244 ?_
  refine q_ladd G dX5_unite_245 ?_
  have hmb := mi_b ⟨w1, g2.1⟩ ⟨g2.2.1, g2.2.2.1⟩ ⟨g2.2.2.2.1, g2.2.2.2.2⟩ hx hy hu hv
  refine q_nmL (fun mi emi => ?_)
  rw [← emi] at hmb
  have he : fEq rp rq rr f mi (gv rp rq rr (u, v)) := ⟨x, u, y, v, by omega, by rw [hfe]; rfl, by rw [emi]; grind, rfl⟩
  have om := odd_b ((fEq_disc he).trans w3) (by have := hd.2.2; omega)
  have ob := odd_b v3 (by have := hd.2.2; omega)
  refine q_lstore (lv' := [(23, .long (qL (mi))), (21, .long (qL (u))), (19, .long (qL (v))), (17, .long (qL (f))), (14, .long (qL (y))), (12, .long (qL (x))), (10, .long (qL (rr))), (8, .long (qL (rq))), (6, .long (qL (rp))), (4, .long (qL (lb))), (2, .long (qL (la))), (1, .int (qI (i))), (0, .ref mo)]) G dX5_unite_246 (by decide) rfl ?_
  refine q_lload G 3 dX5_unite_248 rfl ?_
  refine q_lconst (z := 1) G dX5_unite_250 (by decide +kernel) ?_
  refine q_lcmp_ne (tgt := 259) G dX5_unite_251 dX5_unite_252 (by decide) (by omega) (by omega) (fun c1 => ?_) (fun c1 => ?_)
  · refine q_lload G 0 dX5_unite_259 rfl ?_
    refine q_lload G 9 dX5_unite_261 rfl ?_
    refine q_lsub G dX5_unite_263 ?_
    refine q_ldc2 (z := 2) G dX5_unite_264 tw_636 (by decide +kernel) ?_
    refine q_ldiv G dX5_unite_267 (by omega) (by omega) (by omega) ?_
    obtain ⟨m0, em0⟩ : ∃ m0, mi - lb = 2 * m0 := ⟨(mi - lb) / 2, by omega⟩
    refine q_topL (z2 := m0) (by rw [em0]; exact Int.mul_tdiv_cancel_left m0 (by decide)) ?_
    refine q_lload G 3 dX5_unite_268 rfl ?_
    refine q_callS (As := [.long (qL (m0)), .long (qL (f))]) (rest := []) G dX5_unite_270 cw_X5_31 (c_X5_modulo l D cy M (m0) f (by omega) (by omega) (by omega)) rfl rfl (Nat.le_of_ble_eq_true rfl) rfl rfl ⟨Nat.le_of_ble_eq_true rfl, Nat.le_of_ble_eq_true rfl⟩ ⟨by decide, by decide⟩ (fun v9 M9 hq9 => ?_)
    obtain ⟨rfl, e9⟩ := hq9
    refine q_mem e9 ?_
    refine q_st (st2 := [.long (qL (if (m0).tmod f < 0 then (m0).tmod f + f else (m0).tmod f))]) rfl ?_
    refine q_topL (z2 := m0 % f) (mod_if hf) ?_
    have hm0 := Int.emod_nonneg m0 (show f ≠ 0 by omega)
    have hm1 := Int.emod_lt_of_pos m0 hf
    refine q_lload_n G 10 2 dX5_unite_273 rfl rfl ?_
    refine q_lload G 3 dX5_unite_274 rfl ?_
    refine q_callS (As := [.long (qL (la)), .long (qL (f))]) (rest := [.long (qL (m0 % f))]) G dX5_unite_276 cw_X5_55 (c_X5_inverse l D cy M la f (by omega) hf (by omega) hg) rfl rfl (Nat.le_of_ble_eq_true rfl) rfl rfl ⟨Nat.le_of_ble_eq_true rfl, Nat.le_of_ble_eq_true rfl⟩ ⟨by decide, by decide⟩ (fun v9 M9 hq9 => ?_)
    obtain ⟨⟨iv, rfl, iv0, iv1, kk, hk⟩, e9⟩ := hq9
    refine q_st (st2 := [.long (qL (iv)), .long (qL (m0 % f))]) rfl ?_
    refine q_mem e9 ?_
    refine q_lmul G dX5_unite_279 ?_
    have hpr := Int.mul_le_mul (show m0 % f ≤ f by omega) (show iv ≤ f by omega) iv0 (by omega)
    have hpr0 := Int.mul_nonneg hm0 iv0
    have hff := Int.mul_le_mul_of_nonneg_right (show 1 ≤ la by omega) (sq_nn f)
    refine q_lload G 3 dX5_unite_280 rfl ?_
    refine q_lrem G dX5_unite_282 (by omega) (by omega) (by omega) ?_
    obtain ⟨n, en⟩ : ∃ n, n = ((m0 % f) * iv) % f := ⟨_, rfl⟩
    refine q_topL (z2 := n) (by rw [en]; exact Int.tmod_eq_emod_of_nonneg hpr0) ?_
    have hn0 : 0 ≤ n := by rw [en]; exact Int.emod_nonneg _ (by omega)
    have hn1 : n < f := by rw [en]; exact Int.emod_lt_of_pos _ hf
    have hnt := un_n (b := lb) (mi := mi) hk en em0
    refine q_lstore (lv' := [(25, .long (qL (n))), (23, .long (qL (mi))), (21, .long (qL (u))), (19, .long (qL (v))), (17, .long (qL (f))), (14, .long (qL (y))), (12, .long (qL (x))), (10, .long (qL (rr))), (8, .long (qL (rq))), (6, .long (qL (rp))), (4, .long (qL (lb))), (2, .long (qL (la))), (1, .int (qI (i))), (0, .ref mo)]) G dX5_unite_283 (by decide) rfl ?_
    obtain ⟨C9, hC9, hcu⟩ := unite_cu (n := n) v1 hf v3 he w3 hg hnt
    refine q_lvs [0, 4, 10, 11, 12, 13] rfl ?_
    exact l_un285 l D cy M mo qa qb qc qf qt hMO i hi d la lb lc rp rq rr hU f n C9 hf hf2 hn0 hn1 haf hC9 hcu G hret
  · refine q_lconst (z := 0) G dX5_unite_255 (by decide +kernel) ?_
    refine q_goto (tgt := 283) G dX5_unite_256 (by decide) ?_
    refine q_lstore (lv' := [(25, .long (qL (0))), (23, .long (qL (mi))), (21, .long (qL (u))), (19, .long (qL (v))), (17, .long (qL (f))), (14, .long (qL (y))), (12, .long (qL (x))), (10, .long (qL (rr))), (8, .long (qL (rq))), (6, .long (qL (rp))), (4, .long (qL (lb))), (2, .long (qL (la))), (1, .int (qI (i))), (0, .ref mo)]) G dX5_unite_283 (by decide) rfl ?_
    have hnt : ∃ t, lb + 2 * la * 0 = mi + 2 * f * t := ⟨(lb - mi) / 2, by rw [show f = 1 by assumption]; omega⟩
    obtain ⟨C9, hC9, hcu⟩ := unite_cu (n := 0) v1 hf v3 he w3 hg hnt
    refine q_lvs [0, 4, 10, 11, 12, 13] rfl ?_
    exact l_un285 l D cy M mo qa qb qc qf qt hMO i hi d la lb lc rp rq rr hU f 0 C9 hf hf2 (by omega) hf haf hC9 hcu G hret
