/-! Euclid's steps -/
def euI (p q n hi lo f fl s sl : Int) : Prop :=
  f * p + s * q = hi ∧ fl * p + sl * q = lo ∧
  (∃ e : Int, (e = 1 ∨ e = -1) ∧ f * lo - fl * hi = e * q ∧ s * lo - sl * hi = -(e * p)) ∧
  (f * lo) * (fl * hi) ≤ 0 ∧ (s * lo) * (sl * hi) ≤ 0 ∧
  f.natAbs ≤ max 1 q.natAbs ∧ s.natAbs ≤ max 1 p.natAbs ∧
  hi.natAbs ≤ max p.natAbs q.natAbs ∧ lo.natAbs ≤ max p.natAbs q.natAbs ∧
  ((n = 0 ∧ fl = 0 ∧ sl = 1) ∨ (1 ≤ n ∧ lo.natAbs < hi.natAbs ∧ ∃ k : Nat, n + k ≤ 100 ∧ hi.natAbs * lo.natAbs < 2 ^ k))
theorem eu_sg {x y : Int} (h : x * y ≤ 0) : (x ≤ 0 ∧ 0 ≤ y) ∨ (0 ≤ x ∧ y ≤ 0) := by
  rcases Int.lt_trichotomy x 0 with h1 | h1 | h1
  · left
    refine ⟨by omega, Int.not_lt.mp (fun h2 => ?_)⟩
    have := Int.mul_pos_of_neg_of_neg h1 h2
    omega
  · omega
  · right
    refine ⟨by omega, Int.not_lt.mp (fun h2 => ?_)⟩
    have := Int.mul_pos h1 h2
    omega
theorem eu_tm (a b : Int) : a - a.tdiv b * b = a.tmod b := by have := Int.tmod_def a b; have h2 : a.tdiv b * b = b * a.tdiv b := Int.mul_comm _ _; omega
/-- what is cut off has the sign of the whole -/
theorem eu_same (a b : Int) : 0 ≤ a.tmod b * a ∧ 0 ≤ (a.tdiv b * b) * a.tmod b := by
  have e := eu_tm a b
  have h1 := tmod_abs a b
  rcases Int.le_total 0 a with h0 | h0
  · have h2 := Int.tmod_nonneg b h0
    refine ⟨Int.mul_nonneg h2 h0, Int.mul_nonneg ?_ h2⟩
    omega
  · have h3 : (-a).tmod b = -(a.tmod b) := Int.neg_tmod a b
    have h2 := Int.tmod_nonneg (a := -a) b (by omega)
    refine ⟨Int.mul_nonneg_of_nonpos_of_nonpos (by omega) h0, Int.mul_nonneg_of_nonpos_of_nonpos ?_ (by omega)⟩
    omega
theorem eu_sign {f fl lo hi : Int} (h : (f * lo) * (fl * hi) ≤ 0) : (fl * hi.tmod lo) * ((f - hi.tdiv lo * fl) * lo) ≤ 0 := by
  obtain ⟨h1, h2⟩ := eu_same hi lo
  have e : (fl * hi.tmod lo) * ((f - hi.tdiv lo * fl) * lo) = (f * lo * fl) * hi.tmod lo - (fl * fl) * ((hi.tdiv lo * lo) * hi.tmod lo) := by grind
  have h3 : 0 ≤ (fl * fl) * ((hi.tdiv lo * lo) * hi.tmod lo) := Int.mul_nonneg (by rcases Int.le_total 0 fl with h | h; exact Int.mul_nonneg h h; exact Int.mul_nonneg_of_nonpos_of_nonpos h h) h2
  have h4 : (f * lo * fl) * hi.tmod lo ≤ 0 := by
    have h5 : (f * lo * fl) * hi ≤ 0 := by rw [Int.mul_assoc]; exact h
    have h6 := tmod_abs hi lo
    generalize f * lo * fl = z at h5 ⊢
    generalize hi.tmod lo = r at h1 h6 ⊢
    rcases Int.lt_trichotomy hi 0 with h7 | h7 | h7
    · have hr : r ≤ 0 := by
        refine Int.not_lt.mp (fun h8 => ?_)
        have := Int.mul_neg_of_pos_of_neg h8 h7
        omega
      have hz : 0 ≤ z := by
        refine Int.not_lt.mp (fun h8 => ?_)
        have := Int.mul_pos_of_neg_of_neg h8 h7
        omega
      exact Int.mul_nonpos_of_nonneg_of_nonpos hz hr
    · have hr : r = 0 := by omega
      rw [hr]; omega
    · have hr : 0 ≤ r := by
        refine Int.not_lt.mp (fun h8 => ?_)
        have := Int.mul_neg_of_neg_of_pos h8 h7
        omega
      have hz : z ≤ 0 := by
        refine Int.not_lt.mp (fun h8 => ?_)
        have := Int.mul_pos h8 h7
        omega
      exact Int.mul_nonpos_of_nonpos_of_nonneg hz hr
  omega
theorem eu_le {x y e q : Int} (he : e = 1 ∨ e = -1) (h : x - y = e * q) (hs : x * y ≤ 0) : y.natAbs ≤ q.natAbs := by
  rcases he with rfl | rfl <;> rcases eu_sg hs with h1 | h1 <;> omega
theorem eu_half {a b : Nat} (hb : 0 < b) (h : b < a) : 2 * (a % b) < a := by
  have h1 := Nat.mod_lt a hb
  have h2 := Nat.div_add_mod a b
  have h3 : 1 ≤ a / b := Nat.div_pos (by omega) hb
  have h4 := Nat.mul_le_mul_left b h3
  omega
theorem eu_cnt0 {a b : Nat} (ha : a < 281474976710656) (hb : b < 281474976710656) : a * b < 2 ^ 96 := by
  have h := Nat.mul_lt_mul'' ha hb
  have e : (2 : Nat) ^ 96 = 281474976710656 * 281474976710656 := by decide
  rw [e]; exact h
theorem eu_cnt1 {a b k : Nat} (hb : 0 < b) (h : b < a) (hk : a * b < 2 ^ k) : ∃ j, k = j + 1 ∧ b * (a % b) < 2 ^ j := by
  have h0 := Nat.mul_pos (show 0 < a by omega) hb
  have hk0 : k ≠ 0 := by
    rintro rfl
    rw [Nat.pow_zero] at hk; omega
  obtain ⟨j, rfl⟩ : ∃ j, k = j + 1 := ⟨k - 1, by omega⟩
  refine ⟨j, rfl, ?_⟩
  have h16 := eu_half hb h
  have h17 := Nat.mul_le_mul_left b (show 2 * (a % b) ≤ a by omega)
  rw [Nat.pow_succ] at hk
  generalize 2 ^ j = w at hk ⊢
  have h18 : b * (2 * (a % b)) = 2 * (b * (a % b)) := by grind
  have h19 : b * a = a * b := Nat.mul_comm _ _
  omega
theorem eu_init (p q : Int) : euI p q 0 p q 1 0 0 1 := by
  refine ⟨by omega, by omega, ⟨1, Or.inl rfl, by omega, by omega⟩, by omega, by omega, by omega, by omega, by omega, by omega, Or.inl ⟨rfl, rfl, rfl⟩⟩
set_option maxHeartbeats 100000 in
theorem eu_step {p q n hi lo f fl s sl : Int} (hp : p.natAbs < 281474976710656) (hq : q.natAbs < 281474976710656) (h : euI p q n hi lo f fl s sl) (h0 : lo ≠ 0) :
    euI p q (n + 1) lo (hi - quo hi lo * lo) fl (f - quo hi lo * fl) sl (s - quo hi lo * sl) ∧ n < 100000 ∧ (hi - quo hi lo * lo).natAbs < lo.natAbs := by
  obtain ⟨h1, h2, ⟨e, he, h3, h4⟩, h5, h6, h7, h8, h9, h10, h11⟩ := h
  have eq : quo hi lo = hi.tdiv lo := by unfold quo; rw [if_neg h0]
  have em : hi - hi.tdiv lo * lo = hi.tmod lo := eu_tm hi lo
  have hlt : (hi.tmod lo).natAbs < lo.natAbs := by rw [Int.natAbs_tmod]; exact Nat.mod_lt _ (Int.natAbs_pos.mpr h0)
  have b1 : fl.natAbs ≤ max 1 q.natAbs ∧ sl.natAbs ≤ max 1 p.natAbs := by
    rcases h11 with ⟨-, g1, g2⟩ | ⟨-, h12, -⟩
    · subst g1 g2; exact ⟨Nat.zero_le _, Nat.le_max_left _ _⟩
    · have c1 := eu_le he h3 h5
      have c2 := eu_le (q := -p) he (by rw [h4]; grind) h6
      rw [Int.natAbs_mul] at c1 c2
      have d1 := Nat.le_mul_of_pos_right fl.natAbs (show 0 < hi.natAbs from Nat.lt_of_le_of_lt (Nat.zero_le _) h12)
      have d2 := Nat.le_mul_of_pos_right sl.natAbs (show 0 < hi.natAbs from Nat.lt_of_le_of_lt (Nat.zero_le _) h12)
      rw [Int.natAbs_neg] at c2
      exact ⟨Nat.le_trans (Nat.le_trans d1 c1) (Nat.le_max_right _ _), Nat.le_trans (Nat.le_trans d2 c2) (Nat.le_max_right _ _)⟩
  have hn : 0 ≤ n ∧ n ≤ 100 := by
    rcases h11 with ⟨h, -⟩ | ⟨h, -, k, h2, -⟩
    · rw [h]; decide
    · exact ⟨Int.le_trans (by decide) h, Int.le_trans (Int.le_add_of_nonneg_right (Int.natCast_nonneg k)) h2⟩
  have g2 : (f - hi.tdiv lo * fl) * p + (s - hi.tdiv lo * sl) * q = hi.tmod lo := by rw [← em, ← h1, ← h2]; grind
  have g3 : fl * hi.tmod lo - (f - hi.tdiv lo * fl) * lo = -e * q := by
    have : fl * (hi - hi.tdiv lo * lo) - (f - hi.tdiv lo * fl) * lo = -(f * lo - fl * hi) := by grind
    rw [← em, this, h3]; grind
  have g4 : sl * hi.tmod lo - (s - hi.tdiv lo * sl) * lo = -(-e * p) := by
    have : sl * (hi - hi.tdiv lo * lo) - (s - hi.tdiv lo * sl) * lo = -(s * lo - sl * hi) := by grind
    rw [← em, this, h4]; grind
  have g5 := eu_sign h5
  have g6 := eu_sign h6
  have g9 : (hi.tmod lo).natAbs ≤ max p.natAbs q.natAbs := Nat.le_trans (Nat.le_of_lt hlt) h10
  have ge : -e = 1 ∨ -e = -1 := he.elim (fun h => Or.inr (by rw [h])) (fun h => Or.inl (by rw [h]; rfl))
  have g11 : ∃ k : Nat, n + 1 + k ≤ 100 ∧ lo.natAbs * (hi.tmod lo).natAbs < 2 ^ k := by
    clear h3 h4 h5 h6 g2 g3 g4 g5 g6 em
    rcases h11 with ⟨rfl, -, -⟩ | ⟨h12, h13, k, h14, h15⟩
    · have k1 : lo.natAbs < 281474976710656 := Nat.lt_of_le_of_lt h10 (Nat.max_lt.mpr ⟨hp, hq⟩)
      exact ⟨96, by decide, eu_cnt0 k1 (Nat.lt_trans hlt k1)⟩
    · obtain ⟨j, rfl, hj⟩ := eu_cnt1 (Int.natAbs_pos.mpr h0) h13 h15
      rw [← Int.natAbs_tmod] at hj
      clear h15
      exact ⟨j, by clear hj h7 h8 h9 h10 h13 hlt b1 g9 hp hq; omega, hj⟩
  rw [eq, em]
  exact ⟨⟨h2, g2, ⟨-e, ge, g3, g4⟩, g5, g6, b1.1, b1.2, h10, g9, Or.inr ⟨Int.le_add_of_nonneg_left hn.1, hlt, g11⟩⟩, Int.lt_of_le_of_lt hn.2 (by decide), hlt⟩
theorem eu_lt {p q n hi lo f fl s sl : Int} (h : euI p q n hi lo f fl s sl) : 0 ≤ n ∧ n ≤ 100 := by
  obtain ⟨-, -, -, -, -, -, -, -, -, h11⟩ := h
  rcases h11 with ⟨h, -⟩ | ⟨h, -, k, h2, -⟩ <;> omega
/-- the greatest common divisor, and how it comes of the two -/
def isEu (p q g u v : Int) : Prop := u * p + v * q = g ∧ 0 ≤ g ∧ g ∣ p ∧ g ∣ q ∧ u.natAbs ≤ max 1 q.natAbs ∧ v.natAbs ≤ max 1 p.natAbs
theorem eu_end {p q n hi f fl s sl : Int} (h : euI p q n hi 0 f fl s sl) {z : Int} (hz : z = if hi < 0 then -1 else 1) : isEu p q (z * hi) (z * f) (z * s) := by
  obtain ⟨h1, h2, ⟨e, he, h3, h4⟩, h5, h6, h7, h8, h9, h10, h11⟩ := h
  clear h11
  have hzz : z = 1 ∨ z = -1 := by rw [hz]; split <;> omega
  have d1 : hi ∣ q := by
    rcases he with rfl | rfl
    · exact ⟨-fl, by grind⟩
    · exact ⟨fl, by grind⟩
  have d2 : hi ∣ p := by
    rcases he with rfl | rfl
    · exact ⟨sl, by grind⟩
    · exact ⟨-sl, by grind⟩
  have d3 : z * hi ∣ hi := by rcases hzz with rfl | rfl; exact ⟨1, by omega⟩; exact ⟨-1, by omega⟩
  refine ⟨by rw [← h1]; grind, ?_, Int.dvd_trans d3 d2, Int.dvd_trans d3 d1, ?_, ?_⟩
  · rw [hz]; split <;> omega
  · rcases hzz with rfl | rfl <;> omega
  · rcases hzz with rfl | rfl <;> omega
theorem stF_u0 (L : Nat → Nat → Int) (a : Nat) (x y z v : Int) : up2 (stF L a x y z) a 0 v = stF L a v y z := by
  funext b k; simp only [stF, up2]; repeat' split
  all_goals first | rfl | omega
theorem stF_u1 (L : Nat → Nat → Int) (a : Nat) (x y z v : Int) : up2 (stF L a x y z) a 1 v = stF L a x v z := by
  funext b k; simp only [stF, up2]; repeat' split
  all_goals first | rfl | omega
theorem stF_u2 (L : Nat → Nat → Int) (a : Nat) (x y z v : Int) : up2 (stF L a x y z) a 2 v = stF L a x y v := by
  funext b k; simp only [stF, up2]; repeat' split
  all_goals first | rfl | omega
theorem stF_12 (L : Nat → Nat → Int) (a : Nat) (y z : Int) : up2 (up2 L a 1 y) a 2 z = stF L a (L a 0) y z := by
  have h := stF_self L a
  have h1 : up2 (up2 L a 1 y) a 2 z = up2 (up2 (stF L a (L a 0) (L a 1) (L a 2)) a 1 y) a 2 z := by rw [h]
  rw [h1, stF_u1, stF_u2]
