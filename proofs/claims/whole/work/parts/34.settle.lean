/-! the class's way to the reduced form -/
theorem rmd_mod {p q : Int} (hq : 0 < q) : rmd p q = p % q := by
  unfold rmd
  rw [if_neg (by omega)]
  have h1 := eu_tm p q
  have h2 : (p.tmod q).natAbs < q.natAbs := by rw [Int.natAbs_tmod]; exact Nat.mod_lt _ (by omega)
  have h3 := Int.emod_add_mul_ediv p q
  have h4 := Int.emod_nonneg p (show q ≠ 0 by omega)
  have h5 := Int.emod_lt_of_pos p hq
  by_cases h : p.tmod q < 0
  · rw [if_pos h]
    have e : q * (p.tdiv q - 1 - p / q) = p % q - (p.tmod q + q) := by grind
    have hz : p.tdiv q - 1 - p / q = 0 := by
      rcases Int.lt_trichotomy (p.tdiv q - 1 - p / q) 0 with h6 | h6 | h6
      · have := Int.mul_le_mul_of_nonneg_left (show p.tdiv q - 1 - p / q ≤ -1 by omega) (show 0 ≤ q by omega)
        omega
      · exact h6
      · have := Int.mul_le_mul_of_nonneg_left (show 1 ≤ p.tdiv q - 1 - p / q by omega) (show 0 ≤ q by omega)
        omega
    rw [hz] at e; omega
  · rw [if_neg h]
    have e : q * (p.tdiv q - p / q) = p % q - p.tmod q := by grind
    have hz : p.tdiv q - p / q = 0 := by
      rcases Int.lt_trichotomy (p.tdiv q - p / q) 0 with h6 | h6 | h6
      · have := Int.mul_le_mul_of_nonneg_left (show p.tdiv q - p / q ≤ -1 by omega) (show 0 ≤ q by omega)
        omega
      · exact h6
      · have := Int.mul_le_mul_of_nonneg_left (show 1 ≤ p.tdiv q - p / q by omega) (show 0 ≤ q by omega)
        omega
    rw [hz] at e; omega
theorem quo_mul {q w : Int} (hq : q ≠ 0) : quo (q * w) q = w := by
  unfold quo; rw [if_neg hq]; exact Int.mul_tdiv_cancel_left w hq
/-- b brought near zero -/
theorem st_near {x y z d : Int} (hx : 0 < x) (hd : y * y - 4 * x * z = -d) :
    fEq x y z x (x - rmd (x - y) (2 * x)) (quo ((x - rmd (x - y) (2 * x)) * (x - rmd (x - y) (2 * x)) + d) (4 * x)) ∧ -x < x - rmd (x - y) (2 * x) ∧ x - rmd (x - y) (2 * x) ≤ x := by
  rw [rmd_mod (by omega)]
  have h1 := Int.emod_add_mul_ediv (x - y) (2 * x)
  have h2 := Int.emod_nonneg (x - y) (show 2 * x ≠ 0 by omega)
  have h3 := Int.emod_lt_of_pos (x - y) (show 0 < 2 * x by omega)
  generalize (x - y) / (2 * x) = k at h1
  generalize (x - y) % (2 * x) = r at h1 h2 h3 ⊢
  have e1 : x - r = y + 2 * x * k := by omega
  have e2 : (x - r) * (x - r) + d = 4 * x * (z + k * y + x * k * k) := by rw [e1]; grind
  refine ⟨?_, by omega, by omega⟩
  rw [e2, quo_mul (by omega), e1]
  exact fEq_move x y z k
/-- how many turns are left at most -/
def stB (a : Int) : Nat := min a.toNat 31623 + Nat.log2 a.toNat
theorem stB_le {a : Int} (h : a ≤ 2147483648) : stB a ≤ 31623 + 31 := by
  unfold stB
  have : Nat.log2 a.toNat ≤ 31 := by
    by_cases h0 : a.toNat = 0
    · rw [h0]; decide
    · have := (Nat.log2_lt h0 (k := 32)).mpr (by omega)
      omega
  omega
theorem stB_dec {a c : Int} (hc : 0 < c) (h : c < a) (h2 : 31623 < a → 2 * c ≤ a) : stB c + 1 ≤ stB a := by
  unfold stB
  have hm : Nat.log2 c.toNat ≤ Nat.log2 a.toNat := by
    have h0 : a.toNat ≠ 0 := by omega
    have h1 := Nat.lt_log2_self (n := a.toNat)
    have := (Nat.log2_lt (show c.toNat ≠ 0 by omega) (k := Nat.log2 a.toNat + 1)).mpr (by omega)
    omega
  by_cases h3 : 31623 < a
  · have h4 : Nat.log2 c.toNat + 1 ≤ Nat.log2 a.toNat := by
      have h1 := Nat.lt_log2_self (n := a.toNat)
      rw [Nat.pow_succ] at h1
      have h5 := h2 h3
      have := (Nat.log2_lt (show c.toNat ≠ 0 by omega) (k := Nat.log2 a.toNat)).mpr (by omega)
      omega
    omega
  · omega
/-- at the loop's head -/
def stI (d a0 b0 c0 n a b c : Int) : Prop := 0 < a ∧ 0 < c ∧ b * b - 4 * a * c = -d ∧ fEq a0 b0 c0 a b c ∧ a ≤ 2147483648 ∧ (-2305843009213693952 ≤ b ∧ b ≤ 2305843009213693952) ∧ c ≤ 2305843009213693952 ∧ (0 ≤ n ∧ n ≤ 100000) ∧ (n = 0 ∨ isRd a b c ∨ (-a < b ∧ b ≤ a ∧ n + stB a ≤ 40000))
theorem st_pos {x y z d : Int} (hx : 0 < x) (hd : y * y - 4 * x * z = -d) (h : 0 < d) : 0 < z := by
  refine Int.not_le.mp (fun h1 => ?_)
  have h2 := Int.mul_nonpos_of_nonneg_of_nonpos (show 0 ≤ 4 * x by omega) h1
  have h3 : 0 ≤ y * y := by rcases Int.le_total 0 y with h | h; exact Int.mul_nonneg h h; exact Int.mul_nonneg_of_nonpos_of_nonpos h h
  omega
theorem st_cle {x y z d : Int} (hx : 0 < x) (hy : -x ≤ y) (hy2 : y ≤ x) (hd : y * y - 4 * x * z = -d) (hd2 : d ≤ 1000000000) : z ≤ x + 1000000000 := by
  have h1 := Int.mul_nonneg (show 0 ≤ x - y by omega) (show 0 ≤ x + y by omega)
  refine Int.not_lt.mp (fun h2 => ?_)
  have h3 := Int.mul_le_mul_of_nonneg_left (show x + 1000000001 ≤ z by omega) (show 0 ≤ x by omega)
  have h4 := Int.mul_nonneg (show 0 ≤ x by omega) (show 0 ≤ x by omega)
  grind
theorem st_turn {d a0 b0 c0 n a b c x y z : Int} (hd0 : 0 < d) (hd9 : d ≤ 1000000000) (hI : stI d a0 b0 c0 n a b c) (hnr : ¬ isRd a b c) (hxyz : (c ≤ a ∧ x = c ∧ y = -b ∧ z = a) ∨ (a < c ∧ x = a ∧ y = b ∧ z = c)) :
    stI d a0 b0 c0 (n + 1) x (x - rmd (x - y) (2 * x)) (quo ((x - rmd (x - y) (2 * x)) * (x - rmd (x - y) (2 * x)) + d) (4 * x)) ∧ n < 100000 := by
  obtain ⟨h1, h2, h3, h4, h5, h6, h7, h8, h9⟩ := hI
  have hxp : 0 < x := by omega
  have hdx : y * y - 4 * x * z = -d := by
    rcases hxyz with ⟨-, rfl, rfl, rfl⟩ | ⟨-, rfl, rfl, rfl⟩
    · grind
    · exact h3
  have hEx : fEq a b c x y z := by
    rcases hxyz with ⟨-, rfl, rfl, rfl⟩ | ⟨-, rfl, rfl, rfl⟩
    · exact fEq_swap _ _ _
    · exact fEq_rfl _ _ _
  obtain ⟨e1, e2, e3⟩ := st_near hxp hdx
  have e4 := fEq_disc e1
  have hlt : n < 100000 := by
    rcases h9 with h | h | h
    · omega
    · exact absurd h hnr
    · omega
  -- the turns that are left
  have hB : isRd x (x - rmd (x - y) (2 * x)) (quo ((x - rmd (x - y) (2 * x)) * (x - rmd (x - y) (2 * x)) + d) (4 * x)) ∨ n + 1 + stB x ≤ 40000 := by
    rcases h9 with h | h | ⟨g1, g2, g3⟩
    · right
      have := stB_le (show x ≤ 2147483648 by omega)
      omega
    · exact absurd h hnr
    · rcases Int.lt_trichotomy a c with h10 | h10 | h10
      · exact absurd ⟨g1, g2, by omega, fun h => by omega⟩ hnr
      · -- a = c and b < 0
        have hb : b < 0 := by
          refine Int.not_le.mp (fun h => hnr ⟨g1, g2, by omega, fun _ => h⟩)
        left
        have hxa : x = a := by omega
        have hya : y = -b := by omega
        rw [hxa, hya]
        have hr : rmd (a - -b) (2 * a) = a + b := by
          rw [rmd_mod (by omega)]
          have : a - -b = a + b := by omega
          rw [this]
          exact Int.emod_eq_of_lt (by omega) (by omega)
        rw [hr]
        have e5 : a - (a + b) = -b := by omega
        rw [e5]
        have e6 : -b * -b + d = 4 * a * a := by rw [h10.symm] at h3; grind
        rw [e6, quo_mul (by omega)]
        exact ⟨by omega, by omega, by omega, fun _ => by omega⟩
      · right
        have hx2 : x = c := by omega
        have := stB_dec (a := a) (c := c) h2 h10 (fun h11 => by
          -- 4 a c = b b + d ≤ a a + d ≤ 2 a a
          have k1 := Int.mul_nonneg (show 0 ≤ a - b by omega) (show 0 ≤ a + b by omega)
          have k2 := Int.mul_le_mul (show 31624 ≤ a by omega) (show 31624 ≤ a by omega) (by omega) (by omega)
          refine Int.not_lt.mp (fun h12 => ?_)
          have k3 := Int.mul_le_mul_of_nonneg_left (show a + 1 ≤ 2 * c by omega) (show 0 ≤ a by omega)
          grind)
        rw [hx2]; omega
  generalize x - rmd (x - y) (2 * x) = nb at e1 e2 e3 e4 hB ⊢
  generalize quo (nb * nb + d) (4 * x) = nc at e1 e4 hB ⊢
  have hdn : nb * nb - 4 * x * nc = -d := by omega
  have hc := st_cle hxp (by omega) e3 hdn hd9
  refine ⟨⟨hxp, st_pos hxp hdn hd0, hdn, fEq_trans h4 (fEq_trans hEx e1), by omega, by omega, by omega, by omega, ?_⟩, hlt⟩
  rcases hB with h | h
  · exact Or.inr (Or.inl h)
  · exact Or.inr (Or.inr ⟨e2, e3, h⟩)
