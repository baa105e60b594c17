/-! primes; mixing -/
/-- no divisor from k on whose square is not above n -/
def nodv (n k : Int) : Prop := ∀ j : Int, k ≤ j → j * j ≤ n → n % j ≠ 0
def prm (n : Int) : Prop := 1 < n ∧ nodv n 2
theorem nodv_end {n k : Int} (hk : 0 < k) (h : n < k * k) : nodv n k := fun j hj hjj => by
  have := Int.mul_le_mul hj hj (by omega) (by omega)
  omega
theorem nodv_s {n k : Int} (h : n % k ≠ 0) : nodv n k ↔ nodv n (k + 1) := by
  constructor
  · intro h1 j hj hjj
    exact h1 j (by omega) hjj
  · intro h1 j hj hjj
    rcases (show j = k ∨ k + 1 ≤ j by omega) with rfl | h2
    · exact h
    · exact h1 j h2 hjj
def po_prm (M : qM) (P : Prop) : Option Value → qM → Prop := fun v M' => (∃ z : Int, v = some (.int (qI z)) ∧ ((z = 1 ∧ P) ∨ (z = 0 ∧ ¬ P))) ∧ M' = M
set_option maxRecDepth 100000 in
set_option maxHeartbeats 4000000 in
theorem l_isPrime4 {p : Program} {e : Env} {s : State} {m : MethodId} {args : Array Value} {below : List Frame} {meth : Method} {c : Code} (l : Launch) (D : va_G) (cy : Nat → ClassId) (M : qM) (n : Int) (hn : 0 ≤ n ∧ n ≤ 1000000) (G : qG p s m args meth c cX4_isPrime 2 yX4_isPrime.cls D cy (qA (mP M) s.heap.size)) (hret : meth.sig.returnType = (some .boolean)) : ∀ (w9 : Nat) (k : Int), (2000 - k).toNat < w9 → (2 ≤ k ∧ k ≤ 1100 ∧ (nodv n 2 ↔ nodv n k)) → qK p l e { frames := 0, cells := 0, slots := 0, locals := 0 } s m args below meth c (MQ below (qQ D cy (mP M) (po_prm M (prm n))) args s 0 0 (qA (mP M) s.heap.size)) 2 D cy (qA (mP M) s.heap.size) 0 0 2 [(1, .int (qI (k))), (0, .int (qI (n)))] [] (M) := by
  intro w9
  induction w9 with
  | zero => intro k h9; exact absurd h9 (Nat.not_lt_zero _)
  | succ w9 ih =>
    intro k hm hI
    obtain ⟨hk2, hk3, -⟩ := id hI
    have hk4 : k * k ≤ 1000000 → k ≤ 1000 := fun h => Int.not_lt.mp (fun h2 => by have := Int.mul_le_mul (show 1001 ≤ k by omega) (show 1001 ≤ k by omega) (by omega) (by omega); omega)
    have hkk := ab_le (x := k) (y := k) (n := 1100) (m := 1100) (by omega) (by omega) (by omega) (by omega)
    refine q_iload_n G 0 1 dX4_isPrime_2 rfl rfl ?_
    refine q_iload_n G 0 1 dX4_isPrime_3 rfl rfl ?_
    refine q_imul G dX4_isPrime_4 ?_
    refine q_iload_n G 1 0 dX4_isPrime_5 rfl rfl ?_
    refine q_icmp_gt (tgt := 23) G dX4_isPrime_6 (by decide) (by omega) (by omega) (fun c1 => ?_) (fun c1 => ?_)
    · refine q_iload_n G 1 0 dX4_isPrime_23 rfl rfl ?_
      refine q_iconst G dX4_isPrime_24 ?_
      refine q_icmp_le (tgt := 32) G dX4_isPrime_25 (by decide) (by omega) (by omega) (fun c2 => ?_) (fun c2 => ?_)
      · refine q_iconst G dX4_isPrime_32 ?_
        exact q_zret G dX4_isPrime_33 hret (by decide +kernel) (by omega) (by omega) (⟨⟨_, rfl, Or.inr ⟨rfl, fun h9 => absurd h9.1 (by omega)⟩⟩, rfl⟩)
      · refine q_iconst G dX4_isPrime_28 ?_
        refine q_goto (tgt := 33) G dX4_isPrime_29 (by decide) ?_
        exact q_zret G dX4_isPrime_33 hret (by decide +kernel) (by omega) (by omega) (⟨⟨_, rfl, Or.inl ⟨rfl, by omega, by rw [hI.2.2]; exact nodv_end (by omega) (by assumption)⟩⟩, rfl⟩)
    · refine q_iload_n G 1 0 dX4_isPrime_9 rfl rfl ?_
      refine q_iload_n G 0 1 dX4_isPrime_10 rfl rfl ?_
      refine q_irem G dX4_isPrime_11 (by omega) (by omega) (by omega) ?_
      refine q_topI (z2 := n % k) (Int.tmod_eq_emod_of_nonneg (by omega)) ?_
      refine q_if_ne (tgt := 17) G dX4_isPrime_12 (by decide) (by have := Int.emod_nonneg n (show k ≠ 0 by omega); have := Int.emod_lt_of_pos n (show 0 < k by omega); omega) (fun c3 => ?_) (fun c3 => ?_)
      · refine q_iinc (lv' := [(1, .int (qI (k + 1))), (0, .int (qI (n)))]) G 0 dX4_isPrime_17 rfl (by decide) rfl ?_
        refine q_goto (tgt := 2) G dX4_isPrime_20 (by decide) ?_
        refine q_lvs [0, 1] rfl ?_
        exact ih (k + 1) (by omega) ⟨by omega, by have := hk4 (by omega); omega, by rw [hI.2.2]; exact nodv_s (by assumption)⟩
      · refine q_iconst G dX4_isPrime_15 ?_
        exact q_zret G dX4_isPrime_16 hret (by decide +kernel) (by omega) (by omega) (⟨⟨_, rfl, Or.inr ⟨rfl, fun h9 => absurd h9.2 (by rw [hI.2.2]; exact fun h8 => h8 k (Int.le_refl k) (by assumption) (by assumption))⟩⟩, rfl⟩)
set_option maxRecDepth 100000 in
set_option maxHeartbeats 4000000 in
theorem c_X4_isPrime (l : Launch) (D : va_G) (cy : Nat → ClassId) (M : qM) (n : Int) (hn : 0 ≤ n ∧ n ≤ 1000000) : qCt l D cy yX4_isPrime cX4_isPrime 2 (some .boolean) { frames := 0, cells := 0, slots := 0, locals := 0 } 0 0 [.int (qI (n))] M (po_prm M (prm n)) := by
  refine qCt_of (lv0 := [(0, .int (qI (n)))]) (by decide) rfl (Nat.le_of_ble_eq_true rfl) ?_
  intro p e s m args below meth c G hname hret
  refine q_iconst G dX4_isPrime_0 ?_
  refine q_istore_n (lv' := [(1, .int (qI (2))), (0, .int (qI (n)))]) G 1 dX4_isPrime_1 rfl (by decide) rfl ?_
  refine q_lvs [0, 1] rfl ?_
  exact l_isPrime4 l D cy M n hn G hret _ 2 (Nat.lt_succ_self _) ⟨by omega, by omega, Iff.rfl⟩
set_option maxRecDepth 100000 in
set_option maxHeartbeats 4000000 in
theorem l_isPrime5 {p : Program} {e : Env} {s : State} {m : MethodId} {args : Array Value} {below : List Frame} {meth : Method} {c : Code} (l : Launch) (D : va_G) (cy : Nat → ClassId) (M : qM) (n : Int) (hn : 0 ≤ n ∧ n ≤ 1000000) (G : qG p s m args meth c cX5_isPrime 2 yX5_isPrime.cls D cy (qA (mP M) s.heap.size)) (hret : meth.sig.returnType = (some .boolean)) : ∀ (w9 : Nat) (k : Int), (2000 - k).toNat < w9 → (2 ≤ k ∧ k ≤ 1100 ∧ (nodv n 2 ↔ nodv n k)) → qK p l e { frames := 0, cells := 0, slots := 0, locals := 0 } s m args below meth c (MQ below (qQ D cy (mP M) (po_prm M (prm n))) args s 0 0 (qA (mP M) s.heap.size)) 2 D cy (qA (mP M) s.heap.size) 0 0 2 [(1, .int (qI (k))), (0, .int (qI (n)))] [] (M) := by
  intro w9
  induction w9 with
  | zero => intro k h9; exact absurd h9 (Nat.not_lt_zero _)
  | succ w9 ih =>
    intro k hm hI
    obtain ⟨hk2, hk3, -⟩ := id hI
    have hk4 : k * k ≤ 1000000 → k ≤ 1000 := fun h => Int.not_lt.mp (fun h2 => by have := Int.mul_le_mul (show 1001 ≤ k by omega) (show 1001 ≤ k by omega) (by omega) (by omega); omega)
    have hkk := ab_le (x := k) (y := k) (n := 1100) (m := 1100) (by omega) (by omega) (by omega) (by omega)
    refine q_iload_n G 0 1 dX5_isPrime_2 rfl rfl ?_
    refine q_iload_n G 0 1 dX5_isPrime_3 rfl rfl ?_
    refine q_imul G dX5_isPrime_4 ?_
    refine q_iload_n G 1 0 dX5_isPrime_5 rfl rfl ?_
    refine q_icmp_gt (tgt := 23) G dX5_isPrime_6 (by decide) (by omega) (by omega) (fun c1 => ?_) (fun c1 => ?_)
    · refine q_iload_n G 1 0 dX5_isPrime_23 rfl rfl ?_
      refine q_iconst G dX5_isPrime_24 ?_
      refine q_icmp_le (tgt := 32) G dX5_isPrime_25 (by decide) (by omega) (by omega) (fun c2 => ?_) (fun c2 => ?_)
      · refine q_iconst G dX5_isPrime_32 ?_
        exact q_zret G dX5_isPrime_33 hret (by decide +kernel) (by omega) (by omega) (⟨⟨_, rfl, Or.inr ⟨rfl, fun h9 => absurd h9.1 (by omega)⟩⟩, rfl⟩)
      · refine q_iconst G dX5_isPrime_28 ?_
        refine q_goto (tgt := 33) G dX5_isPrime_29 (by decide) ?_
        exact q_zret G dX5_isPrime_33 hret (by decide +kernel) (by omega) (by omega) (⟨⟨_, rfl, Or.inl ⟨rfl, by omega, by rw [hI.2.2]; exact nodv_end (by omega) (by assumption)⟩⟩, rfl⟩)
    · refine q_iload_n G 1 0 dX5_isPrime_9 rfl rfl ?_
      refine q_iload_n G 0 1 dX5_isPrime_10 rfl rfl ?_
      refine q_irem G dX5_isPrime_11 (by omega) (by omega) (by omega) ?_
      refine q_topI (z2 := n % k) (Int.tmod_eq_emod_of_nonneg (by omega)) ?_
      refine q_if_ne (tgt := 17) G dX5_isPrime_12 (by decide) (by have := Int.emod_nonneg n (show k ≠ 0 by omega); have := Int.emod_lt_of_pos n (show 0 < k by omega); omega) (fun c3 => ?_) (fun c3 => ?_)
      · refine q_iinc (lv' := [(1, .int (qI (k + 1))), (0, .int (qI (n)))]) G 0 dX5_isPrime_17 rfl (by decide) rfl ?_
        refine q_goto (tgt := 2) G dX5_isPrime_20 (by decide) ?_
        refine q_lvs [0, 1] rfl ?_
        exact ih (k + 1) (by omega) ⟨by omega, by have := hk4 (by omega); omega, by rw [hI.2.2]; exact nodv_s (by assumption)⟩
      · refine q_iconst G dX5_isPrime_15 ?_
        exact q_zret G dX5_isPrime_16 hret (by decide +kernel) (by omega) (by omega) (⟨⟨_, rfl, Or.inr ⟨rfl, fun h9 => absurd h9.2 (by rw [hI.2.2]; exact fun h8 => h8 k (Int.le_refl k) (by assumption) (by assumption))⟩⟩, rfl⟩)
set_option maxRecDepth 100000 in
set_option maxHeartbeats 4000000 in
theorem c_X5_isPrime (l : Launch) (D : va_G) (cy : Nat → ClassId) (M : qM) (n : Int) (hn : 0 ≤ n ∧ n ≤ 1000000) : qCt l D cy yX5_isPrime cX5_isPrime 2 (some .boolean) { frames := 0, cells := 0, slots := 0, locals := 0 } 0 0 [.int (qI (n))] M (po_prm M (prm n)) := by
  refine qCt_of (lv0 := [(0, .int (qI (n)))]) (by decide) rfl (Nat.le_of_ble_eq_true rfl) ?_
  intro p e s m args below meth c G hname hret
  refine q_iconst G dX5_isPrime_0 ?_
  refine q_istore_n (lv' := [(1, .int (qI (2))), (0, .int (qI (n)))]) G 1 dX5_isPrime_1 rfl (by decide) rfl ?_
  refine q_lvs [0, 1] rfl ?_
  exact l_isPrime5 l D cy M n hn G hret _ 2 (Nat.lt_succ_self _) ⟨by omega, by omega, Iff.rfl⟩
/-- the least prime from n on: never above 65539 here -/
def lpI (n c : Int) : Prop := n ≤ c ∧ c ≤ 65539 ∧ ∀ j, n ≤ j → j < c → ¬ prm j
def isLp (n c : Int) : Prop := n ≤ c ∧ c ≤ 65539 ∧ prm c ∧ ∀ j, n ≤ j → j < c → ¬ prm j
theorem isLp_unique {n c c' : Int} (h : isLp n c) (h' : isLp n c') : c = c' := by
  rcases Int.lt_trichotomy c c' with h1 | h1 | h1
  · exact absurd h.2.2.1 (h'.2.2.2 c h.1 h1)
  · exact h1
  · exact absurd h'.2.2.1 (h.2.2.2 c' h'.1 h1)
theorem prm_65539 : prm 65539 := by
  refine ⟨by decide, fun j hj hjj => ?_⟩
  have hb : j ≤ 256 := by
    refine Int.not_lt.mp (fun h => ?_)
    have := Int.mul_le_mul (show 257 ≤ j by omega) (show 257 ≤ j by omega) (by omega) (by omega)
    omega
  have hall : ∀ k : Fin 257, 2 ≤ k.val → 65539 % k.val ≠ 0 := by decide +kernel
  have h1 := hall ⟨j.toNat, by omega⟩ (by show 2 ≤ j.toNat; omega)
  intro h2
  apply h1
  show 65539 % j.toNat = 0
  have h3 : j = (j.toNat : Int) := by omega
  rw [h3] at h2
  have h4 : ((65539 % j.toNat : Nat) : Int) = 0 := by
    rw [Int.natCast_emod]; exact h2
  exact Int.ofNat_eq_zero.mp h4
def po_lp (M : qM) (n : Int) : Option Value → qM → Prop := fun v M' => (∃ c : Int, v = some (.int (qI c)) ∧ isLp n c) ∧ M' = M
set_option maxRecDepth 100000 in
set_option maxHeartbeats 4000000 in
theorem l_lp4 {p : Program} {e : Env} {s : State} {m : MethodId} {args : Array Value} {below : List Frame} {meth : Method} {c : Code} (l : Launch) (D : va_G) (cy : Nat → ClassId) (M : qM) (n : Int) (hn : 0 ≤ n ∧ n ≤ 65538) (G : qG p s m args meth c cX4_leastPrimeFrom 3 yX4_leastPrimeFrom.cls D cy (qA (mP M) s.heap.size)) (hret : meth.sig.returnType = (some .int)) : ∀ (w9 : Nat) (i cd : Int), (65540 - cd).toNat < w9 → (0 ≤ i ∧ cd = n + i ∧ lpI n cd) → qK p l e { frames := 1, cells := 0, slots := 0, locals := 21 } s m args below meth c (MQ below (qQ D cy (mP M) (po_lp M n)) args s 0 0 (qA (mP M) s.heap.size)) 3 D cy (qA (mP M) s.heap.size) 0 0 4 [(2, .int (qI (i))), (1, .int (qI (cd))), (0, .int (qI (n)))] [] (M) := by
  intro w9
  induction w9 with
  | zero => intro i cd h9; exact absurd h9 (Nat.not_lt_zero _)
  | succ w9 ih =>
    intro i cd hm hI
    obtain ⟨hi1, hi2, hi3, hi4, -⟩ := id hI
    refine q_iload_n G 0 2 dX4_leastPrimeFrom_4 rfl rfl ?_
    refine q_ldc (z := 100000) G dX4_leastPrimeFrom_5 tw_372 (by decide +kernel) ?_
    refine q_icmp_ge (tgt := 26) G dX4_leastPrimeFrom_7 (by decide) (by omega) (by omega) (fun c1 => ?_) (fun c1 => ?_)
    · exact absurd c1 (by omega)
    · refine q_iload_n G 1 1 dX4_leastPrimeFrom_10 rfl rfl ?_
      refine q_callS (As := [.int (qI (cd))]) (rest := []) G dX4_leastPrimeFrom_11 cw_X4_250 (c_X4_isPrime l D cy M cd (by omega)) rfl rfl (Nat.le_of_ble_eq_true rfl) rfl rfl ⟨Nat.le_of_ble_eq_true rfl, Nat.le_of_ble_eq_true rfl⟩ ⟨by decide, by decide⟩ (fun v9 M9 hq9 => ?_)
      obtain ⟨⟨z9, rfl, hz⟩, e9⟩ := hq9
      refine q_st (st2 := [.int (qI (z9))]) rfl ?_
      refine q_mem e9 ?_
      refine q_if_ne (tgt := 26) G dX4_leastPrimeFrom_14 (by decide) (by omega) (fun c2 => ?_) (fun c2 => ?_)
      · refine q_iload_n G 1 1 dX4_leastPrimeFrom_26 rfl rfl ?_
        exact q_iret G dX4_leastPrimeFrom_27 hret (by omega) (by omega) (⟨⟨_, rfl, by omega, by omega, by rcases hz with ⟨h7, h8⟩ | ⟨h7, h8⟩; exact h8; exact absurd h7 (by omega), hI.2.2.2.2⟩, rfl⟩)
      · refine q_iinc (lv' := [(1, .int (qI (cd + 1))), (2, .int (qI (i))), (0, .int (qI (n)))]) G 1 dX4_leastPrimeFrom_17 rfl (by decide) rfl ?_
        refine q_iinc (lv' := [(2, .int (qI (i + 1))), (1, .int (qI (cd + 1))), (0, .int (qI (n)))]) G 1 dX4_leastPrimeFrom_20 rfl (by decide) rfl ?_
        refine q_goto (tgt := 4) G dX4_leastPrimeFrom_23 (by decide) ?_
        refine q_lvs [0, 1, 2] rfl ?_
        have hnp : ¬ prm cd := by rcases hz with ⟨h7, h8⟩ | ⟨h7, h8⟩; exact absurd h7 (by omega); exact h8
        have hne : cd ≠ 65539 := fun h9 => hnp (by rw [h9]; exact prm_65539)
        exact ih (i + 1) (cd + 1) (by omega) ⟨by omega, by omega, by omega, by omega, fun j h1 h2 => by rcases (show j < cd ∨ j = cd by omega) with h3 | h3; exact hI.2.2.2.2 j h1 h3; rw [h3]; exact hnp⟩
set_option maxRecDepth 100000 in
set_option maxHeartbeats 4000000 in
theorem c_X4_leastPrimeFrom (l : Launch) (D : va_G) (cy : Nat → ClassId) (M : qM) (n : Int) (hn : 0 ≤ n ∧ n ≤ 65538) : qCt l D cy yX4_leastPrimeFrom cX4_leastPrimeFrom 3 (some .int) { frames := 1, cells := 0, slots := 0, locals := 21 } 0 0 [.int (qI (n))] M (po_lp M n) := by
  refine qCt_of (lv0 := [(0, .int (qI (n)))]) (by decide) rfl (Nat.le_of_ble_eq_true rfl) ?_
  intro p e s m args below meth c G hname hret
  refine q_iload_n G 0 0 dX4_leastPrimeFrom_0 rfl rfl ?_
  refine q_istore_n (lv' := [(1, .int (qI (n))), (0, .int (qI (n)))]) G 1 dX4_leastPrimeFrom_1 rfl (by decide) rfl ?_
  refine q_iconst G dX4_leastPrimeFrom_2 ?_
  refine q_istore_n (lv' := [(2, .int (qI (0))), (1, .int (qI (n))), (0, .int (qI (n)))]) G 2 dX4_leastPrimeFrom_3 rfl (by decide) rfl ?_
  refine q_lvs [0, 1, 2] rfl ?_
  exact l_lp4 l D cy M n hn G hret _ 0 n (Nat.lt_succ_self _) ⟨by omega, by omega, by omega, by omega, fun j h1 h2 => absurd h1 (by omega)⟩
