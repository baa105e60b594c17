def po_unite (M : qM) (qa qb qc i : Nat) (la lb lc rp rq rr : Int) : Option Value → qM → Prop := fun v M' => v = none ∧ ∃ x y z, M' = wL M (stM (mL M) qa qb qc i x y z) ∧ isMul la lb lc rp rq rr x y z
/-- what lies at the two places -/
def unP (M : qM) (qa qb qc : Nat) (d la lb lc rp rq rr : Int) : Prop := (mL M qa 58 = la ∧ mL M qb 58 = lb ∧ mL M qc 58 = lc) ∧ (mL M qa 59 = rp ∧ mL M qb 59 = rq ∧ mL M qc 59 = rr) ∧ dOk d ∧ (0 < la ∧ isRd la lb lc ∧ lb * lb - 4 * la * lc = -d) ∧ (0 < rp ∧ isRd rp rq rr ∧ rq * rq - 4 * rp * rr = -d ∧ fPr rp rq rr) ∧ la ≤ rp
theorem un_sm {d a b c f n C : Int} (hd : dOk d) (ha : 0 < a) (ha2 : a ≤ 18257) (hb : -18257 ≤ b ∧ b ≤ 18257) (hc0 : 0 < c) (hc : c ≤ 333333333) (hf : 0 < f) (hf2 : f ≤ 3000000000) (hn : 0 ≤ n) (hn2 : n < f) (haf : a * (f * f) ≤ 9000000000000000000) (hC : c + n * b + a * n * n = f * C) (hdi : (b + 2 * a * n) * (b + 2 * a * n) - 4 * (a * f) * C = -d) :
    r64 (c + n * b + a * n * n) ∧ smI d (a * f) (b + 2 * a * n) C (a * f) (b + 2 * a * n) C := by
  have h1 := ab_le (x := n) (y := b) (n := 3000000000) (m := 18257) (by omega) (by omega) hb.1 hb.2
  have h2 := Int.mul_le_mul (show n ≤ f by omega) (show n ≤ f by omega) hn (by omega)
  have h3 := Int.mul_le_mul_of_nonneg_left h2 (show 0 ≤ a by omega)
  have h4 : a * n * n = a * (n * n) := by grind
  have h5 := sq_nn n
  have h6 := Int.mul_nonneg (show 0 ≤ a by omega) h5
  have h7 := ab_le (x := a) (y := f) (n := 18257) (m := 3000000000) (by omega) ha2 (by omega) hf2
  have h8 := Int.mul_pos ha hf
  have h9 := ab_le (x := 2 * a) (y := n) (n := 36514) (m := 3000000000) (by omega) (by omega) (by omega) (by omega)
  have hd0 := hd.1
  have hC0 : 0 < C := st_pos h8 hdi (by omega)
  have hCle : C ≤ 333333333 + 18257 + 54771000000000 := by
    refine Int.not_lt.mp (fun h10 => ?_)
    have h11 := Int.mul_le_mul_of_nonneg_left (show 333333333 + 18257 + 54771000000001 ≤ C by omega) (show 0 ≤ f by omega)
    have h12 := Int.mul_le_mul_of_nonneg_right (show n ≤ f by omega) (show 0 ≤ a * n by exact Int.mul_nonneg (by omega) hn)
    have h13 : n * (a * n) = a * (n * n) := by grind
    have h14 := ab_le (x := a) (y := n) (n := 18257) (m := 3000000000) (by omega) ha2 (by omega) (by omega)
    have h15 := Int.mul_le_mul_of_nonneg_left (show a * n ≤ 18257 * 3000000000 by omega) (show 0 ≤ f by omega)
    have h16 : n * b ≤ f * 18257 := by
      have k1 := ab_le (x := n) (y := b) (n := n) (m := 18257) (by omega) (by omega) hb.1 hb.2
      omega
    have h17 := Int.mul_le_mul_of_nonneg_right (show 1 ≤ f by omega) (show 0 ≤ c by omega)
    have h18 := Int.mul_le_mul_of_nonneg_left hc (show 0 ≤ f by omega)
    have e1 : f * (333333333 + 18257 + 54771000000001) = f * 333333333 + f * 18257 + f * (18257 * 3000000000) + f := by grind
    omega
  exact ⟨by omega, h8, hC0, hdi, fEq_rfl _ _ _, by omega, by omega, by omega⟩
set_option maxRecDepth 100000 in
set_option maxHeartbeats 4000000 in
theorem l_un285 {p : Program} {e : Env} {s : State} {m : MethodId} {args : Array Value} {below : List Frame} {meth : Method} {c : Code} (l : Launch) (D : va_G) (cy : Nat → ClassId) (M : qM) (mo qa qb qc qf qt : Nat) (hMO : qMO M mo qa qb qc qf qt) (i : Int) (hi : 0 ≤ i ∧ i < 64) (d la lb lc rp rq rr : Int) (hU : unP M qa qb qc d la lb lc rp rq rr) (f n C9 : Int) (hf : 0 < f) (hf2 : f ≤ 3000000000) (hn : 0 ≤ n) (hn2 : n < f) (haf : la * (f * f) ≤ 9000000000000000000) (hC : lc + n * lb + la * n * n = f * C9) (cu : fCu la lb lc rp rq rr (la * f) (lb + 2 * la * n) C9) (G : qG p s m args meth c cX5_unite 27 yX5_unite.cls D cy (qA (mP M) s.heap.size)) (hret : meth.sig.returnType = none) : qK p l e { frames := 2, cells := 0, slots := 0, locals := 60 } s m args below meth c (MQ below (qQ D cy (mP M) (po_unite M qa qb qc i.toNat la lb lc rp rq rr)) args s 0 0 (qA (mP M) s.heap.size)) 27 D cy (qA (mP M) s.heap.size) 0 0 285 [(25, .long (qL (n))), (17, .long (qL (f))), (4, .long (qL (lb))), (2, .long (qL (la))), (1, .int (qI (i))), (0, .ref mo)] [] (M) := by
  obtain ⟨hF, ⟨r2, r3, r4, r5, r8⟩, ⟨a2, a3, a4, a5, a8⟩, ⟨n1, n2, n3, n4, n5, n6⟩⟩ := id hMO
  obtain ⟨⟨u1, u2, u3⟩, ⟨u4, u5, u6⟩, hd, ⟨v1, v2, v3⟩, ⟨w1, w2, w3, w4⟩, hap⟩ := id hU
  have g1 := rd_rng v1 v2 v3 hd.2.1
  have g2 := rd_rng w1 w2 w3 hd.2.1
  have hsm := un_sm hd v1 g1.1 ⟨g1.2.1, g1.2.2.1⟩ g1.2.2.2.1 g1.2.2.2.2 hf hf2 hn hn2 haf hC ((fCu_disc cu).trans v3)
  refine q_aload_n G 5 0 dX5_unite_285 rfl rfl ?_
  refine q_iload_n G 4 1 dX5_unite_286 rfl rfl ?_
  refine q_lload_n G 3 2 dX5_unite_287 rfl rfl ?_
  refine q_lload G 1 dX5_unite_288 rfl ?_
  refine q_lmul G dX5_unite_290 ?_
  refine q_lload G 2 dX5_unite_291 rfl ?_
  refine q_ldc2 (z := 2) G dX5_unite_293 tw_636 (by decide +kernel) ?_
  refine q_lload_n G 3 2 dX5_unite_296 rfl rfl ?_
  refine q_lmul G dX5_unite_297 ?_
  refine q_lload G 0 dX5_unite_298 rfl ?_
  refine q_lmul G dX5_unite_300 ?_
  refine q_ladd G dX5_unite_301 ?_
  refine q_aload_n G 5 0 dX5_unite_302 rfl rfl ?_
  refine q_gt (v := .ref qc) G dX5_unite_303 fl_X5_16 hF (by decide) rfl (congrArg va_rf r4) ?_
  refine q_bipush G dX5_unite_306 (by decide +kernel) ?_
  refine q_laload G dX5_unite_308 a4.1 a4.2.1 (by first | assumption | omega) (show (58) < ((mN M qc : Nat) : Int) by rw [a4.2.2]; omega) (show mN M qc < 2147483648 by rw [a4.2.2]; decide) ?_
  refine q_topL (z2 := lc) u3 ?_
  refine q_lload G 0 dX5_unite_309 rfl ?_
  refine q_lload G 2 dX5_unite_311 rfl ?_
  refine q_lmul G dX5_unite_313 ?_
  refine q_ladd G dX5_unite_314 ?_
  refine q_lload_n G 3 2 dX5_unite_315 rfl rfl ?_
  refine q_lload G 0 dX5_unite_316 rfl ?_
  refine q_lmul G dX5_unite_318 ?_
  refine q_lload G 0 dX5_unite_319 rfl ?_
  refine q_lmul G dX5_unite_321 ?_
  refine q_ladd G dX5_unite_322 ?_
  refine q_lload G 1 dX5_unite_323 rfl ?_
  refine q_ldiv G dX5_unite_325 hsm.1 (by omega) (by omega) ?_
  refine q_topL (z2 := C9) (by rw [hC]; exact Int.mul_tdiv_cancel_left C9 (by omega)) ?_
  refine q_callV (As := [.int (qI (i)), .long (qL (la * f)), .long (qL (lb + ((2 * la) * n))), .long (qL (C9))]) (rest := []) G dX5_unite_326 cw_X5_35 (c_X5_set l D cy M mo qa qb qc qf qt hMO i (la * f) (lb + ((2 * la) * n)) (C9) hi) hF.1 hF.2 (by decide) rfl rfl rfl (Nat.le_of_ble_eq_true rfl) rfl rfl ⟨Nat.le_of_ble_eq_true rfl, Nat.le_of_ble_eq_true rfl⟩ ⟨by decide, by decide⟩ (fun v9 M9 hq9 => ?_)
  obtain ⟨rfl, e9⟩ := hq9
  refine q_mem e9 ?_
  refine q_st (st2 := []) rfl ?_
  refine q_aload_n G 5 0 dX5_unite_329 rfl rfl ?_
  refine q_iload_n G 4 1 dX5_unite_330 rfl rfl ?_
  refine q_callV (As := [.int (qI (i))]) (rest := []) G dX5_unite_331 cw_X5_58 (c_X5_settle l D cy (wL M (stM (mL M) qa qb qc i.toNat (la * f) (lb + ((2 * la) * n)) (C9))) mo qa qb qc qf qt hMO i hi d (by have := hd.1; omega) hd.2.1 (by simp only [mL_wL, stM_a _ _ _ _ n1 n2, stM_b _ _ _ _ n3, stM_c]; exact hsm.2)) hF.1 hF.2 (by decide) rfl rfl rfl (Nat.le_of_ble_eq_true rfl) rfl rfl ⟨Nat.le_of_ble_eq_true rfl, Nat.le_of_ble_eq_true rfl⟩ ⟨by decide, by decide⟩ (fun v9 M9 hq9 => ?_)
  obtain ⟨rfl, x9, y9, z9, e9, rd9, ps9, eq9⟩ := hq9
  refine q_st (st2 := []) rfl ?_
  refine q_mem (M2 := wL M (stM (mL M) qa qb qc i.toNat x9 y9 z9)) (by rw [e9]; simp only [mL_wL, wL_wL, stM_stM _ _ _ _ _ _ _ _ _ _ _ n1 n2 n3]) ?_
  simp only [mL_wL, stM_a _ _ _ _ n1 n2, stM_b _ _ _ _ n3, stM_c] at eq9
  exact q_vret G dX5_unite_334 hret (by omega) (by omega) (⟨rfl, x9, y9, z9, rfl, rd9, ps9, _, _, _, cu, eq9⟩)
