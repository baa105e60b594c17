/-! binary quadratic forms: alike forms, reduced ones, products by cubes -/
/-- (a', b', c') comes of (a, b, c) by a change of determinant 1 -/
def fEq (a b c a' b' c' : Int) : Prop := ∃ p q r s : Int, p * s - q * r = 1 ∧ a' = a * p * p + b * p * r + c * r * r ∧ b' = 2 * a * p * q + b * (p * s + q * r) + 2 * c * r * s ∧ c' = a * q * q + b * q * s + c * s * s
theorem fEq_rfl (a b c : Int) : fEq a b c a b c := ⟨1, 0, 0, 1, by grind, by grind, by grind, by grind⟩
theorem fEq_trans {a b c a' b' c' a'' b'' c'' : Int} (h : fEq a b c a' b' c') (h' : fEq a' b' c' a'' b'' c'') : fEq a b c a'' b'' c'' := by
  obtain ⟨p, q, r, s, h1, h2, h3, h4⟩ := h
  obtain ⟨p', q', r', s', h1', h2', h3', h4'⟩ := h'
  refine ⟨p * p' + q * r', p * q' + q * s', r * p' + s * r', r * q' + s * s', ?_, ?_, ?_, ?_⟩
  · have e : (p * p' + q * r') * (r * q' + s * s') - (p * q' + q * s') * (r * p' + s * r') = (p * s - q * r) * (p' * s' - q' * r') := by grind
    rw [e, h1, h1']; rfl
  · rw [h2', h2, h3, h4]; grind
  · rw [h3', h2, h3, h4]; grind
  · rw [h4', h2, h3, h4]; grind
theorem fEq_symm {a b c a' b' c' : Int} (h : fEq a b c a' b' c') : fEq a' b' c' a b c := by
  obtain ⟨p, q, r, s, h1, h2, h3, h4⟩ := h
  refine ⟨s, -q, -r, p, by grind, ?_, ?_, ?_⟩
  · have e : a' * s * s + b' * s * (-r) + c' * (-r) * (-r) = a * ((p * s - q * r) * (p * s - q * r)) := by rw [h2, h3, h4]; grind
    rw [e, h1]; grind
  · have e : 2 * a' * s * (-q) + b' * (s * p + (-q) * (-r)) + 2 * c' * (-r) * p = b * ((p * s - q * r) * (p * s - q * r)) := by rw [h2, h3, h4]; grind
    rw [e, h1]; grind
  · have e : a' * (-q) * (-q) + b' * (-q) * p + c' * p * p = c * ((p * s - q * r) * (p * s - q * r)) := by rw [h2, h3, h4]; grind
    rw [e, h1]; grind
theorem fEq_disc {a b c a' b' c' : Int} (h : fEq a b c a' b' c') : b' * b' - 4 * a' * c' = b * b - 4 * a * c := by
  obtain ⟨p, q, r, s, h1, h2, h3, h4⟩ := h
  have e : b' * b' - 4 * a' * c' = (b * b - 4 * a * c) * ((p * s - q * r) * (p * s - q * r)) := by rw [h2, h3, h4]; grind
  rw [e, h1]; grind
/-- b by 2 n a -/
theorem fEq_move (a b c n : Int) : fEq a b c a (b + 2 * a * n) (c + n * b + a * n * n) := ⟨1, n, 0, 1, by grind, by grind, by grind, by grind⟩
theorem fEq_swap (a b c : Int) : fEq a b c c (-b) a := ⟨0, -1, 1, 0, by grind, by grind, by grind, by grind⟩
/-- no common divisor above 1 -/
def fPr (a b c : Int) : Prop := ∃ x y z : Int, x * a + y * b + z * c = 1
theorem fEq_pr {a b c a' b' c' : Int} (h : fEq a b c a' b' c') (hp : fPr a b c) : fPr a' b' c' := by
  obtain ⟨p, q, r, s, h1, h2, h3, h4⟩ := fEq_symm h
  obtain ⟨x, y, z, e⟩ := hp
  refine ⟨x * p * p + 2 * y * p * q + z * q * q, x * p * r + y * (p * s + q * r) + z * q * s, x * r * r + 2 * y * r * s + z * s * s, ?_⟩
  rw [← e, h2, h3, h4]; grind
/-- three forms out of a cube -/
def fCu (a b c a' b' c' A B C : Int) : Prop := ∃ p0 p1 p2 p3 q0 q1 q2 q3 : Int,
  p0 * q1 - p1 * q0 = a ∧ p2 * q3 - p3 * q2 = c ∧ p0 * q2 - p2 * q0 = a' ∧ p1 * q3 - p3 * q1 = c' ∧ (p0 * q3 - p3 * q0) - (p1 * q2 - p2 * q1) = b ∧ (p0 * q3 - p3 * q0) + (p1 * q2 - p2 * q1) = b' ∧
  A = q1 * q2 - q0 * q3 ∧ B = p0 * q3 + p3 * q0 - p1 * q2 - p2 * q1 ∧ C = p1 * p2 - p0 * p3
theorem fCu_comm {a b c a' b' c' A B C : Int} (h : fCu a b c a' b' c' A B C) : fCu a' b' c' a b c A B C := by
  obtain ⟨p0, p1, p2, p3, q0, q1, q2, q3, h1, h2, h3, h4, h5, h6, h7, h8, h9⟩ := h
  exact ⟨p0, p2, p1, p3, q0, q2, q1, q3, h3, h4, h1, h2, by grind, by grind, by grind, by grind, by grind⟩
theorem fCu_disc {a b c a' b' c' A B C : Int} (h : fCu a b c a' b' c' A B C) : B * B - 4 * A * C = b * b - 4 * a * c := by
  obtain ⟨p0, p1, p2, p3, q0, q1, q2, q3, h1, h2, h3, h4, h5, h6, h7, h8, h9⟩ := h
  rw [h7, h8, h9, ← h1, ← h2, ← h5]; grind
