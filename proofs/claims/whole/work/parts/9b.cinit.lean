set_option maxRecDepth 100000 in
set_option maxHeartbeats 4000000 in
theorem l_init2 {p : Program} {e : Env} {s : State} {m : MethodId} {args : Array Value} {below : List Frame} {meth : Method} {c : Code} (l : Launch) (D : va_G) (cy : Nat → ClassId) (M : qM) (x : Nat) (hO : qO M x 4) (G : qG p s m args meth c cX4_init 2 yX4_init.cls D cy (qA (mP M) s.heap.size)) (hret : meth.sig.returnType = none) (hname : meth.name = "<init>") : ∀ (w9 : Nat) (j : Nat) (N : qM), 3 - j < w9 → j ≤ 3 ∧ K5 x j N → qK p l e { frames := 3, cells := 80, slots := 356, locals := 60 } s m args below meth c (MQ below (qQ D cy (mP M) (poX4 x)) args s 80 356 (qA (mP M) s.heap.size)) 2 D cy (qA (mP M) s.heap.size) (76 + j) (344 + 3 * j) 61 [(1, .int (qI ((j : Int)))), (0, .ref x)] [] (N) := by
  intro w9
  induction w9 with
  | zero => intro j N h9; exact absurd h9 (Nat.not_lt_zero _)
  | succ w9 ih =>
    intro j N hm hI
    obtain ⟨hj0, hI⟩ := hI
    have ox := K5_x hI
    obtain ⟨sl, hsl, hsa⟩ := K5_r hI
    refine q_iload_n G 0 1 dX4_init_61 rfl rfl ?_
    refine q_iconst G dX4_init_62 ?_
    refine q_icmp_ge (tgt := 85) G dX4_init_63 (by decide) (by omega) (by omega) (fun c1 => ?_) (fun c1 => ?_)
    · have hj3 : j = 3 := by omega
      refine q_aload_n G 1 0 dX4_init_85 rfl rfl ?_
      refine q_iconst G dX4_init_86 ?_
      refine q_newaZ (n := 3) G dX4_init_87 (by decide) (by decide) (by dsimp only; omega) (by dsimp only; omega) (fun qf hqf => ?_)
      have oz : qO (sN (N) qf 8 (Int.toNat 3)) x 4 := qO_old hqf ox
      refine q_pR (z := some qf) G dX4_init_89 (pl_X4_30 _) (fun _ _ _ _ _ => hname) oz (by decide) (Nat.le_of_ble_eq_true rfl) (fs_4_3 _ _ _) ?_
      refine q_aload_n G 1 0 dX4_init_92 rfl rfl ?_
      refine q_iconst G dX4_init_93 ?_
      refine q_pI (z := 0) G dX4_init_94 pl_X4_34f nf_4_4 oz (by decide) (Nat.le_of_ble_eq_true rfl) (fs_4_4 _ _ _) ?_
      refine q_aload_n G 1 0 dX4_init_97 rfl rfl ?_
      refine q_iconst G dX4_init_98 ?_
      refine q_pI (z := 0) G dX4_init_99 (pl_X4_38 _) nf_4_5 oz (by decide) (Nat.le_of_ble_eq_true rfl) (fs_4_5 _ _ _) ?_
      refine q_aload_n G 1 0 dX4_init_102 rfl rfl ?_
      refine q_null G dX4_init_103 ?_
      refine q_pR (z := none) G dX4_init_104 pl_X4_42n nf_4_6 oz (by decide) (Nat.le_of_ble_eq_true rfl) (fs_4_6 _ _ _) ?_
      exact q_vret G dX4_init_107 hret (by omega) (by omega) ((by rw [hj3] at hI; exact K5_e hI hqf))
    · have hj : j < 3 := by omega
      refine q_aload_n G 1 0 dX4_init_66 rfl rfl ?_
      refine q_gt (v := .ref sl) G dX4_init_67 fl_X4_25 ox (by decide) rfl (congrArg va_rf hsl) ?_
      refine q_iload_n G 0 1 dX4_init_70 rfl rfl ?_
      refine q_new_1 G dX4_init_71 (by decide +kernel) (by dsimp only; omega) (by dsimp only; omega) (fun q hq => ?_)
      have oq : qO (sN (N) q 1 0) q 1 := qO_new
      obtain ⟨hK2, hA2⟩ := K5_s hI hj hq hsl (stF (mL (sN N q 1 0)) q 1 1 1)
      refine q_dup G dX4_init_74 rfl ?_
      refine q_callI (As := []) (rest := [.ref q, .int (qI ((j : Int))), .ref sl]) G dX4_init_75 cw_X4_29 (c_X1_init l D cy (sN (N) q 1 0) q oq) rfl rfl (Nat.le_of_ble_eq_true rfl) rfl rfl ⟨Nat.le_of_ble_eq_true rfl, Nat.le_of_ble_eq_true rfl⟩ ⟨by first | decide | (dsimp only; omega), by first | decide | (dsimp only; omega)⟩ (fun v9 M9 hq9 => ?_)
      obtain ⟨rfl, e9⟩ := hq9
      refine q_mem e9 ?_
      refine q_st (st2 := [.ref q, .int (qI ((j : Int))), .ref sl]) rfl ?_
      refine q_aastF G dX4_init_78 hA2.1 hA2.2.1 oq.1 oq.2 (by omega) (by have h9 : mN (wL (sN (N) q 1 0) (stF (mL (sN (N) q 1 0)) q 1 1 1)) sl = 3 := hA2.2.2; rw [h9]; omega) (by have h9 : mN (wL (sN (N) q 1 0) (stF (mL (sN (N) q 1 0)) q 1 1 1)) sl = 3 := hA2.2.2; rw [h9]; decide) ?_
      refine q_iinc (lv' := [(1, .int (qI (((j : Int)) + 1))), (0, .ref x)]) G 0 dX4_init_79 rfl (by decide) rfl ?_
      refine q_goto (tgt := 61) G dX4_init_82 (by decide) ?_
      refine q_mem (M2 := sR (wL (sN N q 1 0) (stF (mL (sN N q 1 0)) q 1 1 1)) sl j (some q)) (by rw [Int.toNat_natCast]) ?_
      refine q_cs (cells2 := 76 + (j + 1)) (slots2 := 344 + 3 * (j + 1)) (by omega) (by omega) ?_
      refine q_lvs [0, 1] rfl ?_
      exact ih (j + 1) _ (by omega) ⟨hj, hK2⟩
set_option maxRecDepth 100000 in
set_option maxHeartbeats 4000000 in
theorem l_init1 {p : Program} {e : Env} {s : State} {m : MethodId} {args : Array Value} {below : List Frame} {meth : Method} {c : Code} (l : Launch) (D : va_G) (cy : Nat → ClassId) (M : qM) (x : Nat) (hO : qO M x 4) (G : qG p s m args meth c cX4_init 2 yX4_init.cls D cy (qA (mP M) s.heap.size)) (hret : meth.sig.returnType = none) (hname : meth.name = "<init>") : ∀ (w9 : Nat) (i : Nat) (N : qM), 16 - i < w9 → i ≤ 16 ∧ K4 x i N → qK p l e { frames := 3, cells := 80, slots := 356, locals := 60 } s m args below meth c (MQ below (qQ D cy (mP M) (poX4 x)) args s 80 356 (qA (mP M) s.heap.size)) 2 D cy (qA (mP M) s.heap.size) (11 + 4 * i) (53 + 18 * i) 26 [(1, .int (qI ((i : Int)))), (0, .ref x)] [] (N) := by
  intro w9
  induction w9 with
  | zero => intro i N h9; exact absurd h9 (Nat.not_lt_zero _)
  | succ w9 ih =>
    intro i N hm hI
    obtain ⟨hi0, hI⟩ := hI
    have ox := K4_x hI
    obtain ⟨bk, hbk, hba⟩ := K4_r hI
    refine q_iload_n G 0 1 dX4_init_26 rfl rfl ?_
    refine q_bipush G dX4_init_27 (by decide +kernel) ?_
    refine q_icmp_ge (tgt := 51) G dX4_init_29 (by decide) (by omega) (by omega) (fun c1 => ?_) (fun c1 => ?_)
    · have hi6 : i = 16 := by omega
      rw [hi6] at hI
      refine q_aload_n G 1 0 dX4_init_51 rfl rfl ?_
      refine q_iconst G dX4_init_52 ?_
      refine q_newqF (n := 3) G dX4_init_53 (by decide +kernel) (by decide) (by decide) (by dsimp only; omega) (by dsimp only; omega) (fun qs hqs => ?_)
      have oz : qO (sN (N) qs 9 (Int.toNat 3)) x 4 := qO_old hqs ox
      refine q_pR (z := some qs) G dX4_init_56 (pl_X4_25 _) (fun _ _ _ _ _ => hname) oz (by decide) (Nat.le_of_ble_eq_true rfl) (fs_4_2 _ _ _) ?_
      refine q_iconst G dX4_init_59 ?_
      refine q_istore_n (lv' := [(1, .int (qI (0))), (0, .ref x)]) G 1 dX4_init_60 rfl (by decide) rfl ?_
      refine q_cs (cells2 := 76 + 0) (slots2 := 344 + 3 * 0) (by omega) (by omega) ?_
      refine q_lvs [0, 1] rfl ?_
      exact l_init2 l D cy M x hO G hret hname _ 0 _ (Nat.lt_succ_self _) ⟨by decide, K5_0 hI hqs⟩
    · have hi : i < 16 := by omega
      refine q_aload_n G 1 0 dX4_init_32 rfl rfl ?_
      refine q_gt (v := .ref bk) G dX4_init_33 fl_X4_18 ox (by decide) rfl (congrArg va_rf hbk) ?_
      refine q_iload_n G 0 1 dX4_init_36 rfl rfl ?_
      refine q_new_3 G dX4_init_37 (by decide +kernel) (by dsimp only; omega) (by dsimp only; omega) (fun q hq => ?_)
      have oq : qO (sN (N) q 3 0) q 3 := qO_new
      refine q_dup G dX4_init_40 rfl ?_
      obtain ⟨ad, T, E, S0, hT, hE, hN, hq9, hk9⟩ := K4_s hI hi hq hbk
      refine q_st (st2 := [.ref (ad (14 + i)), .ref (ad (14 + i)), .int (qI ((i : Int))), .ref bk]) (by rw [hq9]) ?_
      refine q_callI (As := []) (rest := [.ref (ad (14 + i)), .int (qI ((i : Int))), .ref bk]) G dX4_init_41 cw_X4_22 (c_X3_init l D cy (sN N q 3 0) ad T E S0 i hi hT hE hN (by rw [hq9]; exact oq)) rfl rfl (Nat.le_of_ble_eq_true rfl) rfl rfl ⟨Nat.le_of_ble_eq_true rfl, Nat.le_of_ble_eq_true rfl⟩ ⟨by first | decide | (dsimp only; omega), by first | decide | (dsimp only; omega)⟩ (fun v9 M9 hq9 => ?_)
      obtain ⟨rfl, hB9⟩ := hq9
      refine q_st (st2 := [.ref (ad (14 + i)), .int (qI ((i : Int))), .ref bk]) rfl ?_
      obtain ⟨hK2, hA2, hO2⟩ := hk9 _ _ hB9
      rw [← hq9] at hO2
      refine q_aastR G dX4_init_44 hA2.1 hA2.2.1 hO2.1 hO2.2 (by omega) (by have h9 : mN (M9) bk = 16 := hA2.2.2; rw [h9]; omega) (by have h9 : mN (M9) bk = 16 := hA2.2.2; rw [h9]; decide) ?_
      refine q_iinc (lv' := [(1, .int (qI (((i : Int)) + 1))), (0, .ref x)]) G 0 dX4_init_45 rfl (by decide) rfl ?_
      refine q_goto (tgt := 26) G dX4_init_48 (by decide) ?_
      refine q_mem (M2 := sR M9 bk i (some q)) (by rw [Int.toNat_natCast, hq9]) ?_
      refine q_cs (cells2 := 11 + 4 * (i + 1)) (slots2 := 53 + 18 * (i + 1)) (by omega) (by omega) ?_
      refine q_lvs [0, 1] rfl ?_
      exact ih (i + 1) _ (by omega) ⟨hi, hK2⟩
set_option maxRecDepth 100000 in
set_option maxHeartbeats 4000000 in
theorem c_X4_init (l : Launch) (D : va_G) (cy : Nat → ClassId) (M : qM) (x : Nat) (hO : qO M x 4) : qCt l D cy yX4_init cX4_init 2 none { frames := 3, cells := 80, slots := 356, locals := 60 } 80 356 [.ref x] M (poX4 x) := by
  refine qCt_of (lv0 := [(0, .ref x)]) (by decide) rfl (Nat.le_of_ble_eq_true rfl) ?_
  intro p e s m args below meth c G hname hret
  refine q_aload_n G 0 0 dX4_init_0 rfl rfl ?_
  refine q_obj G dX4_init_1 tw_20 (by decide) (by decide) ?_
  refine q_aload_n G 0 0 dX4_init_4 rfl rfl ?_
  refine q_new_2 G dX4_init_5 (by decide +kernel) (by dsimp only; omega) (by dsimp only; omega) (fun q1 hq1 => ?_)
  have oq1 : qO (sN (M) q1 2 0) q1 2 := qO_new
  have oz : qO (sN (M) q1 2 0) x 4 := qO_old hq1 hO
  have S0 : Stg M (fun _ => x) (fun r => r = 0) (fun _ _ _ => False) := ⟨fun r hr => by rw [hr]; exact hO, fun r s hr hs _ => by rw [hr, hs], fun _ _ _ h => h.elim⟩
  have S1 : Stg (sN M q1 2 0) (up1 (fun _ => x) 1 q1) (fun r => r = 0 ∨ r = 1) (fun _ _ _ => False) := Stg_new (r1 := 1) (n := 0) S0 hq1 (by decide)
  refine q_dup G dX4_init_8 rfl ?_
  refine q_callI (As := []) (rest := [.ref q1, .ref x]) G dX4_init_9 cw_X4_9 (c_X2_init l D cy (sN M q1 2 0) (up1 (fun _ => x) 1 q1) (fun r => r = 0 ∨ r = 1) (fun _ _ _ => False) S1 (Or.inr rfl) (fun _ _ h => h) (by intro k hk; omega) oq1) rfl rfl (Nat.le_of_ble_eq_true rfl) rfl rfl ⟨Nat.le_of_ble_eq_true rfl, Nat.le_of_ble_eq_true rfl⟩ ⟨by first | decide | (dsimp only; omega), by first | decide | (dsimp only; omega)⟩ (fun v9 M9 hq9 => ?_)
  obtain ⟨rfl, hB⟩ := hq9
  refine q_st (st2 := [.ref q1, .ref x]) rfl ?_
  have ox9 : qO M9 x 4 := ⟨(hB.choose_spec.2.2.1 x oz.1).1, (hB.choose_spec.2.2.1 x oz.1).2.1.trans oz.2⟩
  refine q_pR (z := some q1) G dX4_init_12 (pl_X4_10 _) (fun _ _ _ _ _ => hname) ox9 (by decide) (Nat.le_of_ble_eq_true rfl) (fs_4_0 _ _ _) ?_
  refine q_aload_n G 0 0 dX4_init_15 rfl rfl ?_
  refine q_bipush G dX4_init_16 (by decide +kernel) ?_
  refine q_newqR (n := 16) G dX4_init_18 (by decide +kernel) (by decide) (by decide) (by dsimp only; omega) (by dsimp only; omega) (fun q2 hq2 => ?_)
  have oy : qO (sN (sR (M9) x 0 (some q1)) q2 10 (Int.toNat 16)) x 4 := qO_old (M := sR (M9) x 0 (some q1)) hq2 ox9
  refine q_pR (z := some q2) G dX4_init_21 (pl_X4_18 _) (fun _ _ _ _ _ => hname) oy (by decide) (Nat.le_of_ble_eq_true rfl) (fs_4_1 _ _ _) ?_
  refine q_iconst G dX4_init_24 ?_
  refine q_istore_n (lv' := [(1, .int (qI (0))), (0, .ref x)]) G 1 dX4_init_25 rfl (by decide) rfl ?_
  refine q_lvs [0, 1] rfl ?_
  exact l_init1 l D cy M x hO G hret hname _ 0 _ (Nat.lt_succ_self _) ⟨by decide, K4_0 hO hq1 hB rfl hq2⟩
