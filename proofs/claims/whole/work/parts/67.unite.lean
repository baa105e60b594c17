/-! the reference's product: numbers -/
theorem gv_le {p q r x y S : Int} (hp : 0 < p) (hr : 0 < r) (hq1 : -p ≤ q) (hq2 : q ≤ p) (hx : -S ≤ x) (hx2 : x ≤ S) (hy : -S ≤ y) (hy2 : y ≤ S) : gv p q r (x, y) ≤ (2 * p + r) * (S * S) := by
  have h1 := sq_le hx hx2
  have h2 := sq_le hy hy2
  have h3 := ab_le hx hx2 hy hy2
  have h4 := ab_le (x := q) (y := x * y) (n := p) (m := S * S) hq1 hq2 h3.1 h3.2
  have h5 := Int.mul_le_mul_of_nonneg_left h1 (show 0 ≤ p by omega)
  have h6 := Int.mul_le_mul_of_nonneg_left h2 (show 0 ≤ r by omega)
  show p * x * x + q * x * y + r * y * y ≤ _
  have e1 : p * x * x = p * (x * x) := by grind
  have e2 : q * x * y = q * (x * y) := by grind
  have e3 : r * y * y = r * (y * y) := by grind
  have e4 : (2 * p + r) * (S * S) = p * (S * S) + p * (S * S) + r * (S * S) := by grind
  omega
theorem gv_pos {p q r d x y : Int} (hp : 0 < p) (hd : q * q - 4 * p * r = -d) (hd0 : 0 < d) (h : ¬ (x = 0 ∧ y = 0)) : 0 < gv p q r (x, y) := by
  have e : 4 * p * gv p q r (x, y) = (2 * p * x + q * y) * (2 * p * x + q * y) + d * (y * y) := by
    have hd2 : d = 4 * p * r - q * q := by omega
    rw [hd2]; unfold gv; grind
  have h1 := sq_nn (2 * p * x + q * y)
  have hy0 := sq_nn y
  have h2 := Int.mul_nonneg (show 0 ≤ d by omega) hy0
  refine Int.not_le.mp (fun h3 => ?_)
  have h4 := Int.mul_nonpos_of_nonneg_of_nonpos (show 0 ≤ 4 * p by omega) h3
  by_cases hy : y = 0
  · subst hy
    have hx : x ≠ 0 := fun h9 => h ⟨h9, rfl⟩
    have h5 : gv p q r (x, 0) = p * (x * x) := by unfold gv; grind
    rw [h5] at h3
    have h6 : 0 < x * x := by
      rcases Int.lt_or_gt_of_ne hx with h | h
      · exact Int.mul_pos_of_neg_of_neg h h
      · exact Int.mul_pos h h
    have := Int.mul_pos hp h6
    omega
  · have h6 : 0 < y * y := by
      rcases Int.lt_or_gt_of_ne hy with h | h
      · exact Int.mul_pos_of_neg_of_neg h h
      · exact Int.mul_pos h h
    have := Int.mul_pos hd0 h6
    omega
theorem big_ok {p q r d a S f : Int} (hp : 0 < p) (hrd : isRd p q r) (hd : q * q - 4 * p * r = -d) (hd9 : d ≤ 1000000000) (ha : 0 < a) (hap : a ≤ p) (hS : 2 ≤ S) (hS2 : S ≤ 14) (hS4 : S * S * (S * S) < 44 * a) (hf0 : 0 < f) (hf : f ≤ (2 * p + r) * (S * S)) :
    a * (f * f) ≤ 9000000000000000000 ∧ f ≤ 3000000000 := by
  obtain ⟨x1, x2, x3, x4, x5⟩ := rd_rng hp hrd hd hd9
  have hb := rd_bound hp hrd (d := d) (by omega)
  obtain ⟨r1, r2, r3, r4⟩ := hrd
  -- w = p (2 p + r)
  obtain ⟨t, ht⟩ : ∃ t, t = 2 * p + r := ⟨_, rfl⟩
  rw [← ht] at hf
  have hw : 4 * (p * t) ≤ 9 * (p * p) + 1000000000 := by
    have h1 := sq_le (x := q) (n := p) (by omega) r2
    have h2 : 4 * (p * t) = 8 * (p * p) + 4 * p * r := by rw [ht]; grind
    omega
  have ht0 : 0 < t := by omega
  have hff : f * f ≤ (t * (S * S)) * (t * (S * S)) := sq_le (by omega) hf
  have e1 : (t * (S * S)) * (t * (S * S)) = (t * t) * (S * S * (S * S)) := by grind
  have hSS := sq_nn S
  have h4 : a * (f * f) ≤ a * ((t * t) * (S * S * (S * S))) := by rw [← e1]; exact Int.mul_le_mul_of_nonneg_left hff (by omega)
  have htt := sq_nn t
  have key : a * ((t * t) * (S * S * (S * S))) ≤ 9000000000000000000 := by
    by_cases hc : p ≤ 9428
    · have hpp := ab_le (x := p) (y := p) (n := 9428) (m := 9428) (by omega) hc (by omega) hc
      have hw2 : a * t ≤ 449996164 := by
        have := Int.mul_le_mul_of_nonneg_right hap (show 0 ≤ t by omega)
        omega
      have hat0 := Int.mul_nonneg (show 0 ≤ a by omega) (show 0 ≤ t by omega)
      have h5 := sq_le (x := a * t) (n := 449996164) (by omega) hw2
      have h6 : a * ((t * t) * (S * S * (S * S))) ≤ a * ((t * t) * (44 * a)) := Int.mul_le_mul_of_nonneg_left (Int.mul_le_mul_of_nonneg_left (by omega) htt) (by omega)
      have h7 : a * ((t * t) * (44 * a)) = 44 * ((a * t) * (a * t)) := by grind
      omega
    · have hS4b : S * S * (S * S) ≤ 38416 := by
        have h5 := ab_le (x := S) (y := S) (n := 14) (m := 14) (by omega) hS2 (by omega) hS2
        have h6 := ab_le (x := S * S) (y := S * S) (n := 196) (m := 196) (by omega) (by omega) (by omega) (by omega)
        omega
      have hw2 : p * t ≤ 1000000000 := by omega
      have hpt0 := Int.mul_nonneg (show 0 ≤ p by omega) (show 0 ≤ t by omega)
      have h5 := sq_le (x := p * t) (n := 1000000000) (by omega) hw2
      -- p (p t t) ≤ 10^18, so p t t ≤ 106100000000000
      have h6 : p * (t * t) ≤ 106100000000000 := by
        refine Int.not_lt.mp (fun h7 => ?_)
        have h8 := Int.mul_le_mul (show 9429 ≤ p by omega) (show 106100000000001 ≤ p * (t * t) by omega) (by decide) (by omega)
        have h9 : p * (p * (t * t)) = (p * t) * (p * t) := by grind
        omega
      have h7 : a * ((t * t) * (S * S * (S * S))) ≤ a * ((t * t) * 38416) := Int.mul_le_mul_of_nonneg_left (Int.mul_le_mul_of_nonneg_left hS4b htt) (by omega)
      have h8 := Int.mul_le_mul_of_nonneg_right hap htt
      have h9 : a * ((t * t) * 38416) = 38416 * (a * (t * t)) := by grind
      omega
  refine ⟨by omega, ?_⟩
  refine Int.not_lt.mp (fun h5 => ?_)
  have h6 := Int.mul_le_mul (show 3000000001 ≤ f by omega) (show 3000000001 ≤ f by omega) (by decide) (by omega)
  have h7 := Int.mul_le_mul_of_nonneg_right (show 1 ≤ a by omega) (sq_nn f)
  omega
/-- where the two suit -/
theorem unite_cu {a b c p q r d f mi cc n : Int} (ha : 0 < a) (hf : 0 < f) (hd1 : b * b - 4 * a * c = -d) (he : fEq p q r f mi cc) (hd2 : q * q - 4 * p * r = -d) (hg : Int.gcd a f = 1) (hn : ∃ t, b + 2 * a * n = mi + 2 * f * t) :
    ∃ C, c + n * b + a * n * n = f * C ∧ fCu a b c p q r (a * f) (b + 2 * a * n) C := by
  obtain ⟨t, ht⟩ := hn
  have e1 := fEq_move a b c n
  have e2 := fEq_move f mi cc t
  have hdl := fEq_disc e1
  have hdr := (fEq_disc e2).trans (fEq_disc he)
  rw [← ht] at e2 hdr
  have hac : a * (c + n * b + a * n * n) = f * (cc + t * mi + f * t * t) := by
    have h1 : 4 * a * (c + n * b + a * n * n) = 4 * f * (cc + t * mi + f * t * t) := by omega
    have h2 : 4 * a * (c + n * b + a * n * n) = 4 * (a * (c + n * b + a * n * n)) := by grind
    have h3 : 4 * f * (cc + t * mi + f * t * t) = 4 * (f * (cc + t * mi + f * t * t)) := by grind
    omega
  have hdv : f ∣ c + n * b + a * n * n := by
    have h1 : f ∣ a * (c + n * b + a * n * n) := ⟨_, hac⟩
    have h2 : f.natAbs ∣ a.natAbs * (c + n * b + a * n * n).natAbs := by rw [← Int.natAbs_mul]; exact Int.natAbs_dvd_natAbs.mpr h1
    have h3 : Nat.Coprime f.natAbs a.natAbs := by show Int.gcd f a = 1; rw [Int.gcd_comm]; exact hg
    exact Int.natAbs_dvd_natAbs.mp (Nat.Coprime.dvd_of_dvd_mul_left h3 h2)
  obtain ⟨C, hC⟩ := hdv
  refine ⟨C, hC, ?_⟩
  have hC2 : cc + t * mi + f * t * t = a * C := by
    rw [hC] at hac
    have h1 : f * (a * C) = f * (cc + t * mi + f * t * t) := by rw [← hac]; grind
    exact (Int.eq_of_mul_eq_mul_left (by omega) h1).symm
  rw [hC] at e1
  rw [hC2] at e2
  exact fCu_right (fCu_left (fCu_suit a f (b + 2 * a * n) C) (fEq_symm e1)) (fEq_symm (fEq_trans he e2))
/-- the search's place -/
def seI (p q r a S : Int) (g : pt) (x y z : Int) : Prop := (1 ≤ z ∧ z ≤ S) ∧ (0 ≤ x ∧ x ≤ z) ∧ (-z ≤ y ∧ y ≤ z) ∧ (z = S → x < g.1 ∨ (x = g.1 ∧ y ≤ g.2))
theorem se_ne {p q r a S x y z : Int} {g : pt} (h : seI p q r a S g x y z) (hg : Int.gcd g.1 g.2 = 1) (hg2 : Int.gcd (gv p q r g) a = 1) (hb : Int.gcd x y ≠ 1 ∨ Int.gcd (gv p q r (x, y)) a ≠ 1) : z = S → x < g.1 ∨ (x = g.1 ∧ y < g.2) := by
  intro hz
  rcases h.2.2.2 hz with h1 | ⟨h1, h2⟩
  · exact Or.inl h1
  · refine Or.inr ⟨h1, ?_⟩
    refine Int.lt_iff_le_and_ne.mpr ⟨h2, fun h3 => ?_⟩
    have e : ((x, y) : pt) = g := by rw [h1, h3]
    rcases hb with hb | hb
    · rw [h1, h3] at hb; exact hb hg
    · rw [e] at hb; exact hb hg2
