/-! the class's product -/
def isMul (a b c a' b' c' x y z : Int) : Prop := isRd x y z ∧ 0 < x ∧ ∃ A B C, fCu a b c a' b' c' A B C ∧ fEq A B C x y z
theorem isMul_unique {a b c a' b' c' x y z x' y' z' : Int} (hp : fPr a b c) (h : isMul a b c a' b' c' x y z) (h' : isMul a b c a' b' c' x' y' z') : x = x' ∧ y = y' ∧ z = z' := by
  obtain ⟨r, p, A, B, C, h1, h2⟩ := h
  obtain ⟨r', p', A', B', C', h1', h2'⟩ := h'
  exact rd_unique p p' r r' (fEq_trans (fEq_symm h2) (fEq_trans (fCu_unique hp h1 h1') h2'))
theorem isMul_good {a b c a' b' c' x y z : Int} (h : isMul a b c a' b' c' x y z) (hp : fPr a b c) (hp' : fPr a' b' c') : fPr x y z ∧ y * y - 4 * x * z = b * b - 4 * a * c := by
  obtain ⟨r, p, A, B, C, h1, h2⟩ := h
  exact ⟨fEq_pr h2 (fCu_pr h1 hp hp'), (fEq_disc h2).trans (fCu_disc h1)⟩
theorem odd_b {a b c d : Int} (h : b * b - 4 * a * c = -d) (hd : d % 2 = 1) : b % 2 = 1 := by
  rcases (show b % 2 = 1 ∨ b % 2 = 0 by omega) with h1 | h1
  · exact h1
  · obtain ⟨k, hk⟩ : ∃ k, b = 2 * k := ⟨b / 2, by omega⟩
    have : d = 2 * (2 * (a * c) - 2 * (k * k)) := by rw [hk] at h; grind
    omega
/-- Gauss's composition -/
theorem gauss {a1 b1 c1 a2 b2 c2 d s w u v g1 e1 e2 q1 q2 r : Int} (ha1 : 0 < a1) (hd1 : b1 * b1 - 4 * a1 * c1 = -d) (hd2 : b2 * b2 - 4 * a2 * c2 = -d)
    (hs : 2 * s = b1 + b2) (hg : u * a1 + v * a2 = g1) (hw : e1 * g1 + e2 * s = w) (hw0 : w ≠ 0) (h1 : a1 = w * q1) (h2 : a2 = w * q2) (hsd : w ∣ s) (hq1 : 0 < q1)
    (hr : r = (e1 * v * (s - b2) - e2 * c2) % q1) : ∃ C, fCu a1 b1 c1 a2 b2 c2 (q1 * q2) (b2 + 2 * q2 * r) C := by
  obtain ⟨q3, h3⟩ := hsd
  have hone : e1 * (u * q1 + v * q2) + e2 * q3 = 1 := by
    have : w * (e1 * (u * q1 + v * q2) + e2 * q3) = w * 1 := by
      have k : w * (e1 * (u * q1 + v * q2) + e2 * q3) = e1 * (u * (w * q1) + v * (w * q2)) + e2 * (w * q3) := by grind
      rw [k, ← h1, ← h2, ← h3, hg, hw]; omega
    exact Int.eq_of_mul_eq_mul_left hw0 this
  have hrel : q1 * c1 - q2 * c2 = q3 * (s - b2) := by
    have : w * (q1 * c1 - q2 * c2) = w * (q3 * (s - b2)) := by
      have k1 : w * (q1 * c1 - q2 * c2) = (w * q1) * c1 - (w * q2) * c2 := by grind
      have k2 : w * (q3 * (s - b2)) = (w * q3) * (s - b2) := by grind
      rw [k1, k2, ← h1, ← h2, ← h3]
      have k3 : b1 = 2 * s - b2 := by omega
      rw [k3] at hd1
      have k4 : 4 * (a1 * c1 - a2 * c2) = 4 * (s * (s - b2)) := by grind
      omega
    exact Int.eq_of_mul_eq_mul_left hw0 this
  have hem := Int.emod_add_mul_ediv (e1 * v * (s - b2) - e2 * c2) q1
  rw [← hr] at hem
  generalize (e1 * v * (s - b2) - e2 * c2) / q1 = k at hem
  have hp2 : (e1 * u * (s - b2) + e2 * c1 + k * q2) * q1 = -(r * q2 + (b2 - s)) := by
    have t1 : r = e1 * v * (s - b2) - e2 * c2 - q1 * k := by omega
    have t2 : q2 * c2 = q1 * c1 - q3 * (s - b2) := by omega
    have t3 : e1 * v * q2 = 1 - e2 * q3 - e1 * u * q1 := by grind
    rw [t1]
    have t4 : (e1 * v * (s - b2) - e2 * c2 - q1 * k) * q2 = (e1 * v * q2) * (s - b2) - e2 * (q2 * c2) - q1 * k * q2 := by grind
    rw [t4, t3, t2]; grind
  have hp3 : -(e1 * v * c1 + e1 * u * c2 - k * q3) * q1 = -(r * q3 + c2) := by
    have t1 : r = e1 * v * (s - b2) - e2 * c2 - q1 * k := by omega
    have t3 : e1 * v * q2 = 1 - e2 * q3 - e1 * u * q1 := by grind
    rw [t1]
    have t4 : (e1 * v * (s - b2) - e2 * c2 - q1 * k) * q3 = e1 * v * (q3 * (s - b2)) - e2 * c2 * q3 - q1 * k * q3 := by grind
    rw [t4, ← hrel]
    have t5 : e1 * v * (q1 * c1 - q2 * c2) = e1 * v * q1 * c1 - (e1 * v * q2) * c2 := by grind
    rw [t5, t3]; grind
  generalize e1 * u * (s - b2) + e2 * c1 + k * q2 = p2 at hp2
  generalize -(e1 * v * c1 + e1 * u * c2 - k * q3) = p3 at hp3
  refine ⟨-r * p2 - w * p3, w, -r, p2, p3, 0, q1, q2, q3, ?_, ?_, ?_, ?_, ?_, ?_, ?_, ?_, ?_⟩
  · rw [h1]; grind
  · have : q1 * (p2 * q3 - p3 * q2) = q1 * c1 := by
      have k1 : q1 * (p2 * q3 - p3 * q2) = q3 * (p2 * q1) - q2 * (p3 * q1) := by grind
      rw [k1, hp2, hp3]; grind
    exact Int.eq_of_mul_eq_mul_left (by omega) this
  · rw [h2]; grind
  · grind
  · grind
  · grind
  · grind
  · grind
  · grind
theorem quo_dvd {p q w : Int} (hq : q ≠ 0) (h : p = q * w) : quo p q = w := by rw [h]; exact quo_mul hq
theorem sq_le {x n : Int} (h1 : -n ≤ x) (h2 : x ≤ n) : x * x ≤ n * n := by
  have := Int.mul_nonneg (show 0 ≤ n - x by omega) (show 0 ≤ n + x by omega)
  grind
theorem sq_nn (x : Int) : 0 ≤ x * x := by rcases Int.le_total 0 x with h | h; exact Int.mul_nonneg h h; exact Int.mul_nonneg_of_nonpos_of_nonpos h h
theorem ab_le {x y n m : Int} (h1 : -n ≤ x) (h2 : x ≤ n) (h3 : -m ≤ y) (h4 : y ≤ m) : -(n * m) ≤ x * y ∧ x * y ≤ n * m := by
  have k1 := Int.mul_nonneg (show 0 ≤ n - x by omega) (show 0 ≤ m - y by omega)
  have k2 := Int.mul_nonneg (show 0 ≤ n + x by omega) (show 0 ≤ m + y by omega)
  have k3 := Int.mul_nonneg (show 0 ≤ n - x by omega) (show 0 ≤ m + y by omega)
  have k4 := Int.mul_nonneg (show 0 ≤ n + x by omega) (show 0 ≤ m - y by omega)
  constructor <;> grind
/-- the numbers of a reduced form of a discriminant -/
theorem rd_rng {a b c d : Int} (ha : 0 < a) (hr : isRd a b c) (hd : b * b - 4 * a * c = -d) (hd9 : d ≤ 1000000000) : a ≤ 18257 ∧ -18257 ≤ b ∧ b ≤ 18257 ∧ 0 < c ∧ c ≤ 333333333 := by
  have h1 := rd_bound ha hr (d := d) (by omega)
  have h2 := rd_sq (n := 18257) (by decide) h1 (by omega)
  obtain ⟨r1, r2, r3, r4⟩ := hr
  refine ⟨h2, by omega, by omega, by omega, ?_⟩
  have h3 := Int.mul_nonneg (show 0 ≤ a - b by omega) (show 0 ≤ a + b by omega)
  have h4 := Int.mul_le_mul_of_nonneg_left r3 (show 0 ≤ a by omega)
  refine Int.not_lt.mp (fun h5 => ?_)
  have h6 := Int.mul_nonneg (show 0 ≤ a - 1 by omega) (show 0 ≤ c by omega)
  have h7 : (a - b) * (a + b) = a * a - b * b := by grind
  have h8 : (a - 1) * c = a * c - c := by grind
  have h9 : 4 * a * c = 4 * (a * c) := by grind
  omega
