def seN (S : Int) (g : pt) (x y z : Int) : Prop := z = S → x < g.1 ∨ (x = g.1 ∧ y < g.2)
theorem se_step {p q r a S x y z : Int} {g : pt} (h : seI p q r a S g x y z) (hS : 2 ≤ S ∧ S ≤ 14) (hb : inBx S g) (hn : seN S g x y z) :
    (y + 1 ≤ z → seI p q r a S g x (y + 1) z) ∧ (z < y + 1 → x + 1 ≤ z → seI p q r a S g (x + 1) (-z) z) ∧ (z < y + 1 → z < x + 1 → seI p q r a S g 0 1 (z + 1)) := by
  obtain ⟨h1, h2, h3, h4⟩ := h
  obtain ⟨b1, b2, b3, b4, b5, b6⟩ := hb
  refine ⟨fun k => ⟨h1, h2, by omega, fun e => ?_⟩, fun k k2 => ⟨h1, by omega, by omega, fun e => ?_⟩, fun k k2 => ⟨?_, ?_, ?_, fun e => ?_⟩⟩
  · rcases hn e with h5 | h5
    · exact Or.inl h5
    · exact Or.inr ⟨h5.1, by omega⟩
  · rcases hn e with h5 | h5
    · rcases (show x + 1 < g.1 ∨ x + 1 = g.1 by omega) with h6 | h6
      · exact Or.inl h6
      · exact Or.inr ⟨h6, by omega⟩
    · omega
  · refine ⟨by omega, ?_⟩
    refine Int.not_lt.mp (fun h5 => ?_)
    rcases hn (by omega) with h6 | h6 <;> omega
  · omega
  · omega
  · rcases (show g.1 = 0 ∨ 0 < g.1 by omega) with h5 | h5
    · exact Or.inr ⟨h5.symm, by have := b6 h5; omega⟩
    · exact Or.inl h5
theorem inv_vu {x y v k : Int} (h : x * v = 1 + y * k) (hy : y ≠ 0) : x * v - (x * v - 1).tdiv y * y = 1 := by
  have e : x * v - 1 = y * k := by omega
  rw [e, Int.mul_tdiv_cancel_left k hy]
  have : k * y = y * k := Int.mul_comm _ _
  omega
set_option maxRecDepth 100000 in
set_option maxHeartbeats 4000000 in
theorem l_un53 {p : Program} {e : Env} {s : State} {m : MethodId} {args : Array Value} {below : List Frame} {meth : Method} {c : Code} (l : Launch) (D : va_G) (cy : Nat → ClassId) (M : qM) (mo qa qb qc qf qt : Nat) (hMO : qMO M mo qa qb qc qf qt) (i : Int) (hi : 0 ≤ i ∧ i < 64) (d la lb lc rp rq rr : Int) (hU : unP M qa qb qc d la lb lc rp rq rr) (S : Int) (g : pt) (hS : 2 ≤ S ∧ S ≤ 14) (hS4 : S * S * (S * S) < 44 * la) (hG1 : inBx S g) (hG2 : Int.gcd (gv rp rq rr g) la = 1) (G : qG p s m args meth c cX5_unite 27 yX5_unite.cls D cy (qA (mP M) s.heap.size)) (hret : meth.sig.returnType = none) : ∀ (w9 : Nat) (x y z : Int), ((S - z) * 10000 + (S - x) * 100 + (S - y)).toNat < w9 → (seI rp rq rr la S g x y z ∧ True) → qK p l e { frames := 2, cells := 0, slots := 0, locals := 60 } s m args below meth c (MQ below (qQ D cy (mP M) (po_unite M qa qb qc i.toNat la lb lc rp rq rr)) args s 0 0 (qA (mP M) s.heap.size)) 27 D cy (qA (mP M) s.heap.size) 0 0 53 [(16, .int (qI (z))), (14, .long (qL (y))), (12, .long (qL (x))), (10, .long (qL (rr))), (8, .long (qL (rq))), (6, .long (qL (rp))), (4, .long (qL (lb))), (2, .long (qL (la))), (1, .int (qI (i))), (0, .ref mo)] [] (M) := by
  intro w9
  induction w9 with
  | zero => intro x y z h9; exact absurd h9 (Nat.not_lt_zero _)
  | succ w9 ih =>
    intro x y z hm hI
    obtain ⟨hF, ⟨r2, r3, r4, r5, r8⟩, ⟨a2, a3, a4, a5, a8⟩, ⟨n1, n2, n3, n4, n5, n6⟩⟩ := id hMO
    obtain ⟨⟨u1, u2, u3⟩, ⟨u4, u5, u6⟩, hd, ⟨v1, -, v3⟩, ⟨w1, -, w3, w4⟩, hap⟩ := id hU
    have g1 := rd_rng v1 hU.2.2.2.1.2.1 v3 hd.2.1
    have g2 := rd_rng w1 hU.2.2.2.2.1.2.1 w3 hd.2.1
    obtain ⟨⟨z1, z2⟩, ⟨z3, z4⟩, ⟨z5, z6⟩, -⟩ := id hI.1
    have hvb := gv_b (x := x) (y := y) ⟨w1, g2.1⟩ ⟨g2.2.1, g2.2.2.1⟩ ⟨g2.2.2.2.1, g2.2.2.2.2⟩ (by omega) (by omega)
    have hvb2 : -1000000000000 ≤ gv rp rq rr (x, y) ∧ gv rp rq rr (x, y) ≤ 1000000000000 := hvb
    refine q_lload G 2 dX5_unite_53 rfl ?_
    refine q_lload G 1 dX5_unite_55 rfl ?_
    refine q_callS (As := [.long (qL (x)), .long (qL (y))]) (rest := []) G dX5_unite_57 cw_X5_48 (c_X5_divisor l D cy M x y (by omega) (by omega)) rfl rfl (Nat.le_of_ble_eq_true rfl) rfl rfl ⟨Nat.le_of_ble_eq_true rfl, Nat.le_of_ble_eq_true rfl⟩ ⟨by decide, by decide⟩ (fun v9 M9 hq9 => ?_)
    obtain ⟨rfl, e9⟩ := hq9
    refine q_mem e9 ?_
    refine q_st (st2 := [.long (qL (((Int.gcd x y : Nat) : Int)))]) rfl ?_
    have hg1 := gcd_r (x := x) (y := y) (N := 14) (by omega) (by omega) (by omega) (by omega)
    refine q_lconst (z := 1) G dX5_unite_60 (by decide +kernel) ?_
    refine q_lcmp_ne (tgt := 87) G dX5_unite_61 dX5_unite_62 (by decide) (by first | assumption | omega) (by first | assumption | omega) (fun c1 => ?_) (fun c1 => ?_)
    · have hst : seN S g x y z := se_ne hI.1 hG1.2.2.2.2.1 hG2 (by first | exact Or.inl (by omega) | exact Or.inr (by omega))
      refine q_lload G 1 dX5_unite_87 rfl ?_
      refine q_lconst (z := 1) G dX5_unite_89 (by decide +kernel) ?_
      refine q_ladd G dX5_unite_90 ?_
      refine q_lstore (lv' := [(14, .long (qL (y + 1))), (16, .int (qI (z))), (12, .long (qL (x))), (10, .long (qL (rr))), (8, .long (qL (rq))), (6, .long (qL (rp))), (4, .long (qL (lb))), (2, .long (qL (la))), (1, .int (qI (i))), (0, .ref mo)]) G dX5_unite_91 (by decide) rfl ?_
      refine q_lload G 0 dX5_unite_93 rfl ?_
      refine q_iload G 1 dX5_unite_95 rfl ?_
      refine q_i2l G dX5_unite_97 (by first | assumption | omega) ?_
      refine q_lcmp_le (tgt := 114) G dX5_unite_98 dX5_unite_99 (by decide) (by first | assumption | omega) (by first | assumption | omega) (fun c2 => ?_) (fun c2 => ?_)
      · refine q_lload G 2 dX5_unite_114 rfl ?_
        refine q_iload G 1 dX5_unite_116 rfl ?_
        refine q_i2l G dX5_unite_118 (by first | assumption | omega) ?_
        refine q_lcmp_le (tgt := 53) G dX5_unite_119 dX5_unite_120 (by decide) (by first | assumption | omega) (by first | assumption | omega) (fun c3 => ?_) (fun c3 => ?_)
        · refine q_lvs [1, 0, 2, 3, 4, 5, 6, 7, 8, 9] rfl ?_
          exact ih _ _ _ (by omega) ⟨(se_step hI.1 hS hG1 hst).1 (by omega), trivial⟩
        · refine q_iinc (lv' := [(16, .int (qI (z + 1))), (14, .long (qL (y + 1))), (12, .long (qL (x))), (10, .long (qL (rr))), (8, .long (qL (rq))), (6, .long (qL (rp))), (4, .long (qL (lb))), (2, .long (qL (la))), (1, .int (qI (i))), (0, .ref mo)]) G 1 dX5_unite_123 rfl (by decide) rfl ?_
          refine q_lconst (z := 0) G dX5_unite_126 (by decide +kernel) ?_
          refine q_lstore (lv' := [(12, .long (qL (0))), (16, .int (qI (z + 1))), (14, .long (qL (y + 1))), (10, .long (qL (rr))), (8, .long (qL (rq))), (6, .long (qL (rp))), (4, .long (qL (lb))), (2, .long (qL (la))), (1, .int (qI (i))), (0, .ref mo)]) G dX5_unite_127 (by decide) rfl ?_
          refine q_lconst (z := 1) G dX5_unite_129 (by decide +kernel) ?_
          refine q_lstore (lv' := [(14, .long (qL (1))), (12, .long (qL (0))), (16, .int (qI (z + 1))), (10, .long (qL (rr))), (8, .long (qL (rq))), (6, .long (qL (rp))), (4, .long (qL (lb))), (2, .long (qL (la))), (1, .int (qI (i))), (0, .ref mo)]) G dX5_unite_130 (by decide) rfl ?_
          refine q_goto (tgt := 53) G dX5_unite_132 (by decide) ?_
          refine q_lvs [2, 0, 1, 3, 4, 5, 6, 7, 8, 9] rfl ?_
          exact ih _ _ _ (by have h9 := ((se_step hI.1 hS hG1 hst).2.2 (by omega) (by omega)).1.2; omega) ⟨(se_step hI.1 hS hG1 hst).2.2 (by omega) (by omega), trivial⟩
      · refine q_iload G 1 dX5_unite_102 rfl ?_
        refine q_ineg G dX5_unite_104 ?_
        refine q_i2l G dX5_unite_105 (by first | assumption | omega) ?_
        refine q_lstore (lv' := [(14, .long (qL (-z))), (16, .int (qI (z))), (12, .long (qL (x))), (10, .long (qL (rr))), (8, .long (qL (rq))), (6, .long (qL (rp))), (4, .long (qL (lb))), (2, .long (qL (la))), (1, .int (qI (i))), (0, .ref mo)]) G dX5_unite_106 (by decide) rfl ?_
        refine q_lload G 2 dX5_unite_108 rfl ?_
        refine q_lconst (z := 1) G dX5_unite_110 (by decide +kernel) ?_
        refine q_ladd G dX5_unite_111 ?_
        refine q_lstore (lv' := [(12, .long (qL (x + 1))), (14, .long (qL (-z))), (16, .int (qI (z))), (10, .long (qL (rr))), (8, .long (qL (rq))), (6, .long (qL (rp))), (4, .long (qL (lb))), (2, .long (qL (la))), (1, .int (qI (i))), (0, .ref mo)]) G dX5_unite_112 (by decide) rfl ?_
        refine q_lload G 0 dX5_unite_114 rfl ?_
        refine q_iload G 2 dX5_unite_116 rfl ?_
        refine q_i2l G dX5_unite_118 (by first | assumption | omega) ?_
        refine q_lcmp_le (tgt := 53) G dX5_unite_119 dX5_unite_120 (by decide) (by first | assumption | omega) (by first | assumption | omega) (fun c4 => ?_) (fun c4 => ?_)
        · refine q_lvs [2, 1, 0, 3, 4, 5, 6, 7, 8, 9] rfl ?_
          exact ih _ _ _ (by omega) ⟨(se_step hI.1 hS hG1 hst).2.1 (by omega) (by omega), trivial⟩
        · refine q_iinc (lv' := [(16, .int (qI (z + 1))), (12, .long (qL (x + 1))), (14, .long (qL (-z))), (10, .long (qL (rr))), (8, .long (qL (rq))), (6, .long (qL (rp))), (4, .long (qL (lb))), (2, .long (qL (la))), (1, .int (qI (i))), (0, .ref mo)]) G 2 dX5_unite_123 rfl (by decide) rfl ?_
          refine q_lconst (z := 0) G dX5_unite_126 (by decide +kernel) ?_
          refine q_lstore (lv' := [(12, .long (qL (0))), (16, .int (qI (z + 1))), (14, .long (qL (-z))), (10, .long (qL (rr))), (8, .long (qL (rq))), (6, .long (qL (rp))), (4, .long (qL (lb))), (2, .long (qL (la))), (1, .int (qI (i))), (0, .ref mo)]) G dX5_unite_127 (by decide) rfl ?_
          refine q_lconst (z := 1) G dX5_unite_129 (by decide +kernel) ?_
          refine q_lstore (lv' := [(14, .long (qL (1))), (12, .long (qL (0))), (16, .int (qI (z + 1))), (10, .long (qL (rr))), (8, .long (qL (rq))), (6, .long (qL (rp))), (4, .long (qL (lb))), (2, .long (qL (la))), (1, .int (qI (i))), (0, .ref mo)]) G dX5_unite_130 (by decide) rfl ?_
          refine q_goto (tgt := 53) G dX5_unite_132 (by decide) ?_
          refine q_lvs [2, 0, 1, 3, 4, 5, 6, 7, 8, 9] rfl ?_
          exact ih _ _ _ (by have h9 := ((se_step hI.1 hS hG1 hst).2.2 (by omega) (by omega)).1.2; omega) ⟨(se_step hI.1 hS hG1 hst).2.2 (by omega) (by omega), trivial⟩
    · refine q_lload G 5 dX5_unite_65 rfl ?_
      refine q_lload G 4 dX5_unite_67 rfl ?_
      refine q_lload G 3 dX5_unite_69 rfl ?_
      refine q_lload G 2 dX5_unite_71 rfl ?_
      refine q_lload G 1 dX5_unite_73 rfl ?_
      refine q_callS (As := [.long (qL (rp)), .long (qL (rq)), .long (qL (rr)), .long (qL (x)), .long (qL (y))]) (rest := []) G dX5_unite_75 cw_X5_51 (c_X5_valueOf l D cy M rp rq rr x y) rfl rfl (Nat.le_of_ble_eq_true rfl) rfl rfl ⟨Nat.le_of_ble_eq_true rfl, Nat.le_of_ble_eq_true rfl⟩ ⟨by decide, by decide⟩ (fun v9 M9 hq9 => ?_)
      obtain ⟨rfl, e9⟩ := hq9
      refine q_mem e9 ?_
      refine q_st (st2 := [.long (qL (gv rp rq rr (x, y)))]) rfl ?_
      refine q_lload_n G 7 2 dX5_unite_78 rfl rfl ?_
      refine q_callS (As := [.long (qL (gv rp rq rr (x, y))), .long (qL (la))]) (rest := []) G dX5_unite_79 cw_X5_48 (c_X5_divisor l D cy M (gv rp rq rr (x, y)) la (by omega) (by omega)) rfl rfl (Nat.le_of_ble_eq_true rfl) rfl rfl ⟨Nat.le_of_ble_eq_true rfl, Nat.le_of_ble_eq_true rfl⟩ ⟨by decide, by decide⟩ (fun v9 M9 hq9 => ?_)
      obtain ⟨rfl, e9⟩ := hq9
      refine q_mem e9 ?_
      refine q_st (st2 := [.long (qL (((Int.gcd (gv rp rq rr (x, y)) la : Nat) : Int)))]) rfl ?_
      have hg3 := gcd_r (x := gv rp rq rr (x, y)) (y := la) (N := 1000000000000) (by omega) (by omega) (by omega) (by omega)
      refine q_lconst (z := 1) G dX5_unite_82 (by decide +kernel) ?_
      refine q_lcmp_eq (tgt := 135) G dX5_unite_83 dX5_unite_84 (by decide) (by first | assumption | omega) (by first | assumption | omega) (fun c5 => ?_) (fun c5 => ?_)
      · have hxy : Int.gcd x y = 1 := by omega
        have hgf : Int.gcd (gv rp rq rr (x, y)) la = 1 := by omega
        have hnz : ¬ (x = 0 ∧ y = 0) := fun h9 => by rw [h9.1, h9.2] at hxy; exact absurd hxy (by decide)
        have hfp := gv_pos w1 w3 (by have := hd.1; omega) hnz
        have hfl := gv_le (S := S) (x := x) (y := y) (q := rq) w1 g2.2.2.2.1 (by have := hU.2.2.2.2.1.2.1.1; omega) hU.2.2.2.2.1.2.1.2.1 (by omega) (by omega) (by omega) (by omega)
        have hbo := big_ok w1 hU.2.2.2.2.1.2.1 w3 hd.2.1 v1 hap hS.1 hS.2 hS4 hfp hfl
        refine q_lload G 5 dX5_unite_135 rfl ?_
        refine q_lload G 4 dX5_unite_137 rfl ?_
        refine q_lload G 3 dX5_unite_139 rfl ?_
        refine q_lload G 2 dX5_unite_141 rfl ?_
        refine q_lload G 1 dX5_unite_143 rfl ?_
        refine q_callS (As := [.long (qL (rp)), .long (qL (rq)), .long (qL (rr)), .long (qL (x)), .long (qL (y))]) (rest := []) G dX5_unite_145 cw_X5_51 (c_X5_valueOf l D cy M rp rq rr x y) rfl rfl (Nat.le_of_ble_eq_true rfl) rfl rfl ⟨Nat.le_of_ble_eq_true rfl, Nat.le_of_ble_eq_true rfl⟩ ⟨by decide, by decide⟩ (fun v9 M9 hq9 => ?_)
        obtain ⟨rfl, e9⟩ := hq9
        refine q_mem e9 ?_
        refine q_st (st2 := [.long (qL (gv rp rq rr (x, y)))]) rfl ?_
        refine q_nmL (fun f ef => ?_)
        rw [← ef] at hfp hfl hbo hgf
        refine q_lstore (lv' := [(17, .long (qL (f))), (16, .int (qI (z))), (14, .long (qL (y))), (12, .long (qL (x))), (10, .long (qL (rr))), (8, .long (qL (rq))), (6, .long (qL (rp))), (4, .long (qL (lb))), (2, .long (qL (la))), (1, .int (qI (i))), (0, .ref mo)]) G dX5_unite_148 (by decide) rfl ?_
        refine q_lload G 2 dX5_unite_150 rfl ?_
        refine q_lconst (z := 0) G dX5_unite_152 (by decide +kernel) ?_
        refine q_lcmp_ne (tgt := 161) G dX5_unite_153 dX5_unite_154 (by decide) (by first | assumption | omega) (by first | assumption | omega) (fun c6 => ?_) (fun c6 => ?_)
        · refine q_lload G 3 dX5_unite_161 rfl ?_
          refine q_lload G 2 dX5_unite_163 rfl ?_
          refine q_lconst (z := 0) G dX5_unite_165 (by decide +kernel) ?_
          refine q_lcmp_ge (tgt := 176) G dX5_unite_166 dX5_unite_167 (by decide) (by first | assumption | omega) (by first | assumption | omega) (fun c7 => ?_) (fun c7 => ?_)
          · refine q_lload G 2 dX5_unite_176 rfl ?_
            refine q_callS (As := [.long (qL (x)), .long (qL (y))]) (rest := []) G dX5_unite_178 cw_X5_55 (c_X5_inverse l D cy M x (y) (by omega) (by omega) (by omega) (by first | exact hxy | (rw [Int.gcd_neg]; exact hxy))) rfl rfl (Nat.le_of_ble_eq_true rfl) rfl rfl ⟨Nat.le_of_ble_eq_true rfl, Nat.le_of_ble_eq_true rfl⟩ ⟨by decide, by decide⟩ (fun v9 M9 hq9 => ?_)
            obtain ⟨⟨v, rfl, iv0, iv1, kk, hk⟩, e9⟩ := hq9
            refine q_st (st2 := [.long (qL (v))]) rfl ?_
            refine q_mem e9 ?_
            have hxv := ab_le (x := x) (y := v) (n := 14) (m := 14) (by omega) (by omega) (by omega) (by omega)
            refine q_lstore (lv' := [(19, .long (qL (v))), (17, .long (qL (f))), (16, .int (qI (z))), (14, .long (qL (y))), (12, .long (qL (x))), (10, .long (qL (rr))), (8, .long (qL (rq))), (6, .long (qL (rp))), (4, .long (qL (lb))), (2, .long (qL (la))), (1, .int (qI (i))), (0, .ref mo)]) G dX5_unite_181 (by decide) rfl ?_
            refine q_lload G 3 dX5_unite_183 rfl ?_
            refine q_lconst (z := 0) G dX5_unite_185 (by decide +kernel) ?_
            refine q_lcmp_ne (tgt := 194) G dX5_unite_186 dX5_unite_187 (by decide) (by first | assumption | omega) (by first | assumption | omega) (fun c8 => ?_) (fun c8 => ?_)
            · refine q_lload G 4 dX5_unite_194 rfl ?_
              refine q_lload G 0 dX5_unite_196 rfl ?_
              refine q_lmul G dX5_unite_198 ?_
              refine q_lconst (z := 1) G dX5_unite_199 (by decide +kernel) ?_
              refine q_lsub G dX5_unite_200 ?_
              refine q_lload G 3 dX5_unite_201 rfl ?_
              refine q_ldiv G dX5_unite_203 (by omega) (by omega) (by assumption) ?_
              have hvu : x * v - (x * v - 1).tdiv y * y = 1 := inv_vu (k := if y < 0 then -kk else kk) (by rw [hk]; split <;> first | (exfalso; omega) | grind) (by assumption)
              refine q_nmL (fun u eu => ?_)
              rw [← eu] at hvu
              have hub := uy_b (x := x) (v := v) (u := u) (y := y) (by omega) (by omega) (by omega) (by assumption)
              refine q_lstore (lv' := [(21, .long (qL (u))), (19, .long (qL (v))), (17, .long (qL (f))), (16, .int (qI (z))), (14, .long (qL (y))), (12, .long (qL (x))), (10, .long (qL (rr))), (8, .long (qL (rq))), (6, .long (qL (rp))), (4, .long (qL (lb))), (2, .long (qL (la))), (1, .int (qI (i))), (0, .ref mo)]) G dX5_unite_204 (by decide) rfl ?_
              refine q_lvs [0, 1, 2, 4, 5, 6, 7, 8, 9, 10, 11, 12] rfl ?_
              exact l_un206 l D cy M mo qa qb qc qf qt hMO i hi d la lb lc rp rq rr hU x y u v f hvu ef (by omega) (by omega) hub (by omega) hfp hbo.2 hbo.1 (by rw [Int.gcd_comm]; exact hgf) G hret
            · exact absurd c8 (show y ≠ 0 by assumption)
          · refine q_lload G 2 dX5_unite_170 rfl ?_
            refine q_lneg G dX5_unite_172 ?_
            refine q_goto (tgt := 178) G dX5_unite_173 (by decide) ?_
            refine q_callS (As := [.long (qL (x)), .long (qL (-y))]) (rest := []) G dX5_unite_178 cw_X5_55 (c_X5_inverse l D cy M x (-y) (by omega) (by omega) (by omega) (by first | exact hxy | (rw [Int.gcd_neg]; exact hxy))) rfl rfl (Nat.le_of_ble_eq_true rfl) rfl rfl ⟨Nat.le_of_ble_eq_true rfl, Nat.le_of_ble_eq_true rfl⟩ ⟨by decide, by decide⟩ (fun v9 M9 hq9 => ?_)
            obtain ⟨⟨v, rfl, iv0, iv1, kk, hk⟩, e9⟩ := hq9
            refine q_st (st2 := [.long (qL (v))]) rfl ?_
            refine q_mem e9 ?_
            have hxv := ab_le (x := x) (y := v) (n := 14) (m := 14) (by omega) (by omega) (by omega) (by omega)
            refine q_lstore (lv' := [(19, .long (qL (v))), (17, .long (qL (f))), (16, .int (qI (z))), (14, .long (qL (y))), (12, .long (qL (x))), (10, .long (qL (rr))), (8, .long (qL (rq))), (6, .long (qL (rp))), (4, .long (qL (lb))), (2, .long (qL (la))), (1, .int (qI (i))), (0, .ref mo)]) G dX5_unite_181 (by decide) rfl ?_
            refine q_lload G 3 dX5_unite_183 rfl ?_
            refine q_lconst (z := 0) G dX5_unite_185 (by decide +kernel) ?_
            refine q_lcmp_ne (tgt := 194) G dX5_unite_186 dX5_unite_187 (by decide) (by first | assumption | omega) (by first | assumption | omega) (fun c9 => ?_) (fun c9 => ?_)
            · refine q_lload G 4 dX5_unite_194 rfl ?_
              refine q_lload G 0 dX5_unite_196 rfl ?_
              refine q_lmul G dX5_unite_198 ?_
              refine q_lconst (z := 1) G dX5_unite_199 (by decide +kernel) ?_
              refine q_lsub G dX5_unite_200 ?_
              refine q_lload G 3 dX5_unite_201 rfl ?_
              refine q_ldiv G dX5_unite_203 (by omega) (by omega) (by assumption) ?_
              have hvu : x * v - (x * v - 1).tdiv y * y = 1 := inv_vu (k := if y < 0 then -kk else kk) (by rw [hk]; split <;> first | (exfalso; omega) | grind) (by assumption)
              refine q_nmL (fun u eu => ?_)
              rw [← eu] at hvu
              have hub := uy_b (x := x) (v := v) (u := u) (y := y) (by omega) (by omega) (by omega) (by assumption)
              refine q_lstore (lv' := [(21, .long (qL (u))), (19, .long (qL (v))), (17, .long (qL (f))), (16, .int (qI (z))), (14, .long (qL (y))), (12, .long (qL (x))), (10, .long (qL (rr))), (8, .long (qL (rq))), (6, .long (qL (rp))), (4, .long (qL (lb))), (2, .long (qL (la))), (1, .int (qI (i))), (0, .ref mo)]) G dX5_unite_204 (by decide) rfl ?_
              refine q_lvs [0, 1, 2, 4, 5, 6, 7, 8, 9, 10, 11, 12] rfl ?_
              exact l_un206 l D cy M mo qa qb qc qf qt hMO i hi d la lb lc rp rq rr hU x y u v f hvu ef (by omega) (by omega) hub (by omega) hfp hbo.2 hbo.1 (by rw [Int.gcd_comm]; exact hgf) G hret
            · exact absurd c9 (show y ≠ 0 by assumption)
        · refine q_lconst (z := 1) G dX5_unite_157 (by decide +kernel) ?_
          refine q_goto (tgt := 181) G dX5_unite_158 (by decide) ?_
          refine q_lstore (lv' := [(19, .long (qL (1))), (17, .long (qL (f))), (16, .int (qI (z))), (14, .long (qL (y))), (12, .long (qL (x))), (10, .long (qL (rr))), (8, .long (qL (rq))), (6, .long (qL (rp))), (4, .long (qL (lb))), (2, .long (qL (la))), (1, .int (qI (i))), (0, .ref mo)]) G dX5_unite_181 (by decide) rfl ?_
          refine q_lload G 3 dX5_unite_183 rfl ?_
          refine q_lconst (z := 0) G dX5_unite_185 (by decide +kernel) ?_
          refine q_lcmp_ne (tgt := 194) G dX5_unite_186 dX5_unite_187 (by decide) (by first | assumption | omega) (by first | assumption | omega) (fun c10 => ?_) (fun c10 => ?_)
          · exact absurd (show y = 0 by assumption) c10
          · refine q_lconst (z := 0) G dX5_unite_190 (by decide +kernel) ?_
            refine q_goto (tgt := 204) G dX5_unite_191 (by decide) ?_
            refine q_lstore (lv' := [(21, .long (qL (0))), (19, .long (qL (1))), (17, .long (qL (f))), (16, .int (qI (z))), (14, .long (qL (y))), (12, .long (qL (x))), (10, .long (qL (rr))), (8, .long (qL (rq))), (6, .long (qL (rp))), (4, .long (qL (lb))), (2, .long (qL (la))), (1, .int (qI (i))), (0, .ref mo)]) G dX5_unite_204 (by decide) rfl ?_
            refine q_lvs [0, 1, 2, 4, 5, 6, 7, 8, 9, 10, 11, 12] rfl ?_
            have hy0 : y = 0 := by assumption
            have hx1 : x = 1 := by rw [hy0, Int.gcd_zero] at hxy; omega
            exact l_un206 l D cy M mo qa qb qc qf qt hMO i hi d la lb lc rp rq rr hU x y 0 1 f (by rw [hx1, hy0]; decide) ef (by omega) (by omega) (by omega) (by omega) hfp hbo.2 hbo.1 (by rw [Int.gcd_comm]; exact hgf) G hret
      · have hst : seN S g x y z := se_ne hI.1 hG1.2.2.2.2.1 hG2 (by first | exact Or.inl (by omega) | exact Or.inr (by omega))
        refine q_lload G 1 dX5_unite_87 rfl ?_
        refine q_lconst (z := 1) G dX5_unite_89 (by decide +kernel) ?_
        refine q_ladd G dX5_unite_90 ?_
        refine q_lstore (lv' := [(14, .long (qL (y + 1))), (16, .int (qI (z))), (12, .long (qL (x))), (10, .long (qL (rr))), (8, .long (qL (rq))), (6, .long (qL (rp))), (4, .long (qL (lb))), (2, .long (qL (la))), (1, .int (qI (i))), (0, .ref mo)]) G dX5_unite_91 (by decide) rfl ?_
        refine q_lload G 0 dX5_unite_93 rfl ?_
        refine q_iload G 1 dX5_unite_95 rfl ?_
        refine q_i2l G dX5_unite_97 (by first | assumption | omega) ?_
        refine q_lcmp_le (tgt := 114) G dX5_unite_98 dX5_unite_99 (by decide) (by first | assumption | omega) (by first | assumption | omega) (fun c11 => ?_) (fun c11 => ?_)
        · refine q_lload G 2 dX5_unite_114 rfl ?_
          refine q_iload G 1 dX5_unite_116 rfl ?_
          refine q_i2l G dX5_unite_118 (by first | assumption | omega) ?_
          refine q_lcmp_le (tgt := 53) G dX5_unite_119 dX5_unite_120 (by decide) (by first | assumption | omega) (by first | assumption | omega) (fun c12 => ?_) (fun c12 => ?_)
          · refine q_lvs [1, 0, 2, 3, 4, 5, 6, 7, 8, 9] rfl ?_
            exact ih _ _ _ (by omega) ⟨(se_step hI.1 hS hG1 hst).1 (by omega), trivial⟩
          · refine q_iinc (lv' := [(16, .int (qI (z + 1))), (14, .long (qL (y + 1))), (12, .long (qL (x))), (10, .long (qL (rr))), (8, .long (qL (rq))), (6, .long (qL (rp))), (4, .long (qL (lb))), (2, .long (qL (la))), (1, .int (qI (i))), (0, .ref mo)]) G 1 dX5_unite_123 rfl (by decide) rfl ?_
            refine q_lconst (z := 0) G dX5_unite_126 (by decide +kernel) ?_
            refine q_lstore (lv' := [(12, .long (qL (0))), (16, .int (qI (z + 1))), (14, .long (qL (y + 1))), (10, .long (qL (rr))), (8, .long (qL (rq))), (6, .long (qL (rp))), (4, .long (qL (lb))), (2, .long (qL (la))), (1, .int (qI (i))), (0, .ref mo)]) G dX5_unite_127 (by decide) rfl ?_
            refine q_lconst (z := 1) G dX5_unite_129 (by decide +kernel) ?_
            refine q_lstore (lv' := [(14, .long (qL (1))), (12, .long (qL (0))), (16, .int (qI (z + 1))), (10, .long (qL (rr))), (8, .long (qL (rq))), (6, .long (qL (rp))), (4, .long (qL (lb))), (2, .long (qL (la))), (1, .int (qI (i))), (0, .ref mo)]) G dX5_unite_130 (by decide) rfl ?_
            refine q_goto (tgt := 53) G dX5_unite_132 (by decide) ?_
            refine q_lvs [2, 0, 1, 3, 4, 5, 6, 7, 8, 9] rfl ?_
            exact ih _ _ _ (by have h9 := ((se_step hI.1 hS hG1 hst).2.2 (by omega) (by omega)).1.2; omega) ⟨(se_step hI.1 hS hG1 hst).2.2 (by omega) (by omega), trivial⟩
        · refine q_iload G 1 dX5_unite_102 rfl ?_
          refine q_ineg G dX5_unite_104 ?_
          refine q_i2l G dX5_unite_105 (by first | assumption | omega) ?_
          refine q_lstore (lv' := [(14, .long (qL (-z))), (16, .int (qI (z))), (12, .long (qL (x))), (10, .long (qL (rr))), (8, .long (qL (rq))), (6, .long (qL (rp))), (4, .long (qL (lb))), (2, .long (qL (la))), (1, .int (qI (i))), (0, .ref mo)]) G dX5_unite_106 (by decide) rfl ?_
          refine q_lload G 2 dX5_unite_108 rfl ?_
          refine q_lconst (z := 1) G dX5_unite_110 (by decide +kernel) ?_
          refine q_ladd G dX5_unite_111 ?_
          refine q_lstore (lv' := [(12, .long (qL (x + 1))), (14, .long (qL (-z))), (16, .int (qI (z))), (10, .long (qL (rr))), (8, .long (qL (rq))), (6, .long (qL (rp))), (4, .long (qL (lb))), (2, .long (qL (la))), (1, .int (qI (i))), (0, .ref mo)]) G dX5_unite_112 (by decide) rfl ?_
          refine q_lload G 0 dX5_unite_114 rfl ?_
          refine q_iload G 2 dX5_unite_116 rfl ?_
          refine q_i2l G dX5_unite_118 (by first | assumption | omega) ?_
          refine q_lcmp_le (tgt := 53) G dX5_unite_119 dX5_unite_120 (by decide) (by first | assumption | omega) (by first | assumption | omega) (fun c13 => ?_) (fun c13 => ?_)
          · refine q_lvs [2, 1, 0, 3, 4, 5, 6, 7, 8, 9] rfl ?_
            exact ih _ _ _ (by omega) ⟨(se_step hI.1 hS hG1 hst).2.1 (by omega) (by omega), trivial⟩
          · refine q_iinc (lv' := [(16, .int (qI (z + 1))), (12, .long (qL (x + 1))), (14, .long (qL (-z))), (10, .long (qL (rr))), (8, .long (qL (rq))), (6, .long (qL (rp))), (4, .long (qL (lb))), (2, .long (qL (la))), (1, .int (qI (i))), (0, .ref mo)]) G 2 dX5_unite_123 rfl (by decide) rfl ?_
            refine q_lconst (z := 0) G dX5_unite_126 (by decide +kernel) ?_
            refine q_lstore (lv' := [(12, .long (qL (0))), (16, .int (qI (z + 1))), (14, .long (qL (-z))), (10, .long (qL (rr))), (8, .long (qL (rq))), (6, .long (qL (rp))), (4, .long (qL (lb))), (2, .long (qL (la))), (1, .int (qI (i))), (0, .ref mo)]) G dX5_unite_127 (by decide) rfl ?_
            refine q_lconst (z := 1) G dX5_unite_129 (by decide +kernel) ?_
            refine q_lstore (lv' := [(14, .long (qL (1))), (12, .long (qL (0))), (16, .int (qI (z + 1))), (10, .long (qL (rr))), (8, .long (qL (rq))), (6, .long (qL (rp))), (4, .long (qL (lb))), (2, .long (qL (la))), (1, .int (qI (i))), (0, .ref mo)]) G dX5_unite_130 (by decide) rfl ?_
            refine q_goto (tgt := 53) G dX5_unite_132 (by decide) ?_
            refine q_lvs [2, 0, 1, 3, 4, 5, 6, 7, 8, 9] rfl ?_
            exact ih _ _ _ (by have h9 := ((se_step hI.1 hS hG1 hst).2.2 (by omega) (by omega)).1.2; omega) ⟨(se_step hI.1 hS hG1 hst).2.2 (by omega) (by omega), trivial⟩
set_option maxRecDepth 100000 in
set_option maxHeartbeats 4000000 in
theorem c_X5_unite (l : Launch) (D : va_G) (cy : Nat → ClassId) (M : qM) (mo qa qb qc qf qt : Nat) (hMO : qMO M mo qa qb qc qf qt) (i : Int) (hi : 0 ≤ i ∧ i < 64) (d la lb lc rp rq rr : Int) (hU : unP M qa qb qc d la lb lc rp rq rr) : qCt l D cy yX5_unite cX5_unite 27 none { frames := 2, cells := 0, slots := 0, locals := 60 } 0 0 [.ref mo, .int (qI (i))] M (po_unite M qa qb qc i.toNat la lb lc rp rq rr) := by
  refine qCt_of (lv0 := [(0, .ref mo), (1, .int (qI (i)))]) (by decide) rfl (Nat.le_of_ble_eq_true rfl) ?_
  intro p e s m args below meth c G hname hret
  obtain ⟨hF, ⟨r2, r3, r4, r5, r8⟩, ⟨a2, a3, a4, a5, a8⟩, ⟨n1, n2, n3, n4, n5, n6⟩⟩ := id hMO
  obtain ⟨⟨u1, u2, u3⟩, ⟨u4, u5, u6⟩, hd, ⟨v1, -, v3⟩, ⟨w1, -, w3, w4⟩, hap⟩ := id hU
  have g1 := rd_rng v1 hU.2.2.2.1.2.1 v3 hd.2.1
  have g2 := rd_rng w1 hU.2.2.2.2.1.2.1 w3 hd.2.1
  refine q_aload_n G 0 0 dX5_unite_0 rfl rfl ?_
  refine q_gt (v := .ref qa) G dX5_unite_1 fl_X5_7 hF (by decide) rfl (congrArg va_rf r2) ?_
  refine q_bipush G dX5_unite_4 (by decide +kernel) ?_
  refine q_laload G dX5_unite_6 a2.1 a2.2.1 (by first | assumption | omega) (show (58) < ((mN M qa : Nat) : Int) by rw [a2.2.2]; omega) (show mN M qa < 2147483648 by rw [a2.2.2]; decide) ?_
  refine q_topL (z2 := la) u1 ?_
  refine q_lstore_n (lv' := [(2, .long (qL (la))), (0, .ref mo), (1, .int (qI (i)))]) G 2 dX5_unite_7 rfl (by decide) rfl ?_
  refine q_aload_n G 1 0 dX5_unite_8 rfl rfl ?_
  refine q_gt (v := .ref qb) G dX5_unite_9 fl_X5_13 hF (by decide) rfl (congrArg va_rf r3) ?_
  refine q_bipush G dX5_unite_12 (by decide +kernel) ?_
  refine q_laload G dX5_unite_14 a3.1 a3.2.1 (by first | assumption | omega) (show (58) < ((mN M qb : Nat) : Int) by rw [a3.2.2]; omega) (show mN M qb < 2147483648 by rw [a3.2.2]; decide) ?_
  refine q_topL (z2 := lb) u2 ?_
  refine q_lstore (lv' := [(4, .long (qL (lb))), (2, .long (qL (la))), (0, .ref mo), (1, .int (qI (i)))]) G dX5_unite_15 (by decide) rfl ?_
  refine q_aload_n G 2 0 dX5_unite_17 rfl rfl ?_
  refine q_gt (v := .ref qa) G dX5_unite_18 fl_X5_7 hF (by decide) rfl (congrArg va_rf r2) ?_
  refine q_bipush G dX5_unite_21 (by decide +kernel) ?_
  refine q_laload G dX5_unite_23 a2.1 a2.2.1 (by first | assumption | omega) (show (59) < ((mN M qa : Nat) : Int) by rw [a2.2.2]; omega) (show mN M qa < 2147483648 by rw [a2.2.2]; decide) ?_
  refine q_topL (z2 := rp) u4 ?_
  refine q_lstore (lv' := [(6, .long (qL (rp))), (4, .long (qL (lb))), (2, .long (qL (la))), (0, .ref mo), (1, .int (qI (i)))]) G dX5_unite_24 (by decide) rfl ?_
  refine q_aload_n G 3 0 dX5_unite_26 rfl rfl ?_
  refine q_gt (v := .ref qb) G dX5_unite_27 fl_X5_13 hF (by decide) rfl (congrArg va_rf r3) ?_
  refine q_bipush G dX5_unite_30 (by decide +kernel) ?_
  refine q_laload G dX5_unite_32 a3.1 a3.2.1 (by first | assumption | omega) (show (59) < ((mN M qb : Nat) : Int) by rw [a3.2.2]; omega) (show mN M qb < 2147483648 by rw [a3.2.2]; decide) ?_
  refine q_topL (z2 := rq) u5 ?_
  refine q_lstore (lv' := [(8, .long (qL (rq))), (6, .long (qL (rp))), (4, .long (qL (lb))), (2, .long (qL (la))), (0, .ref mo), (1, .int (qI (i)))]) G dX5_unite_33 (by decide) rfl ?_
  refine q_aload_n G 4 0 dX5_unite_35 rfl rfl ?_
  refine q_gt (v := .ref qc) G dX5_unite_36 fl_X5_16 hF (by decide) rfl (congrArg va_rf r4) ?_
  refine q_bipush G dX5_unite_39 (by decide +kernel) ?_
  refine q_laload G dX5_unite_41 a4.1 a4.2.1 (by first | assumption | omega) (show (59) < ((mN M qc : Nat) : Int) by rw [a4.2.2]; omega) (show mN M qc < 2147483648 by rw [a4.2.2]; decide) ?_
  refine q_topL (z2 := rr) u6 ?_
  refine q_lstore (lv' := [(10, .long (qL (rr))), (8, .long (qL (rq))), (6, .long (qL (rp))), (4, .long (qL (lb))), (2, .long (qL (la))), (0, .ref mo), (1, .int (qI (i)))]) G dX5_unite_42 (by decide) rfl ?_
  refine q_lconst (z := 1) G dX5_unite_44 (by decide +kernel) ?_
  refine q_lstore (lv' := [(12, .long (qL (1))), (10, .long (qL (rr))), (8, .long (qL (rq))), (6, .long (qL (rp))), (4, .long (qL (lb))), (2, .long (qL (la))), (0, .ref mo), (1, .int (qI (i)))]) G dX5_unite_45 (by decide) rfl ?_
  refine q_lconst (z := 0) G dX5_unite_47 (by decide +kernel) ?_
  refine q_lstore (lv' := [(14, .long (qL (0))), (12, .long (qL (1))), (10, .long (qL (rr))), (8, .long (qL (rq))), (6, .long (qL (rp))), (4, .long (qL (lb))), (2, .long (qL (la))), (0, .ref mo), (1, .int (qI (i)))]) G dX5_unite_48 (by decide) rfl ?_
  refine q_iconst G dX5_unite_50 ?_
  refine q_istore (lv' := [(16, .int (qI (1))), (14, .long (qL (0))), (12, .long (qL (1))), (10, .long (qL (rr))), (8, .long (qL (rq))), (6, .long (qL (rp))), (4, .long (qL (lb))), (2, .long (qL (la))), (0, .ref mo), (1, .int (qI (i)))]) G dX5_unite_51 (by decide) rfl ?_
  obtain ⟨S, g, s1, s2, s3, s4, s5⟩ := srch (a := la) w4 v1 g1.1
  refine q_lvs [0, 1, 2, 3, 4, 5, 6, 7, 9, 8] rfl ?_
  exact l_un53 l D cy M mo qa qb qc qf qt hMO i hi d la lb lc rp rq rr hU S g ⟨s1, s2⟩ s3 s4 s5 G hret _ 1 0 1 (Nat.lt_succ_self _) ⟨⟨by omega, by omega, by omega, fun h9 => by omega⟩, trivial⟩
