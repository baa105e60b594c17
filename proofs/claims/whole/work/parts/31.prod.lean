theorem cb_par {d01 d02 d03 d12 d13 d23 p0 p1 p2 p3 q0 q1 q2 q3 x0 x1 x2 x3 y0 y1 y2 y3 : Int}
    (a1 : p0 * q1 - p1 * q0 = d01) (a2 : p0 * q2 - p2 * q0 = d02) (a3 : p0 * q3 - p3 * q0 = d03) (a4 : p1 * q2 - p2 * q1 = d12) (a5 : p1 * q3 - p3 * q1 = d13) (a6 : p2 * q3 - p3 * q2 = d23)
    (b1 : x0 * y1 - x1 * y0 = d01) (b2 : x0 * y2 - x2 * y0 = d02) (b3 : x0 * y3 - x3 * y0 = d03) (b4 : x1 * y2 - x2 * y1 = d12) (b5 : x1 * y3 - x3 * y1 = d13) (b6 : x2 * y3 - x3 * y2 = d23)
    {u v w : Int} (e : u * d01 + v * (d03 - d12) + w * d23 = 1) :
    ∃ α β : Int, x0 = α * p0 + β * q0 ∧ x1 = α * p1 + β * q1 ∧ x2 = α * p2 + β * q2 ∧ x3 = α * p3 + β * q3 := by
  -- the three by three minors of (p, q, x) are 0
  have t012 : x0 * d12 - x1 * d02 + x2 * d01 = 0 := by rw [← b4, ← b2, ← b1]; grind
  have t013 : x0 * d13 - x1 * d03 + x3 * d01 = 0 := by rw [← b5, ← b3, ← b1]; grind
  have t023 : x0 * d23 - x2 * d03 + x3 * d02 = 0 := by rw [← b6, ← b3, ← b2]; grind
  have t123 : x1 * d23 - x2 * d13 + x3 * d12 = 0 := by rw [← b6, ← b5, ← b4]; grind
  refine ⟨u * (x0 * q1 - x1 * q0) + v * ((x0 * q3 - x3 * q0) - (x1 * q2 - x2 * q1)) + w * (x2 * q3 - x3 * q2), u * (p0 * x1 - p1 * x0) + v * ((p0 * x3 - p3 * x0) - (p1 * x2 - p2 * x1)) + w * (p2 * x3 - p3 * x2), ?_, ?_, ?_, ?_⟩
  · have k : x0 = x0 * (u * d01 + v * (d03 - d12) + w * d23) := by rw [e]; grind
    rw [k]
    subst a1 a2 a3 a4 a5 a6
    grind
  · have k : x1 = x1 * (u * d01 + v * (d03 - d12) + w * d23) := by rw [e]; grind
    rw [k]
    subst a1 a2 a3 a4 a5 a6
    grind
  · have k : x2 = x2 * (u * d01 + v * (d03 - d12) + w * d23) := by rw [e]; grind
    rw [k]
    subst a1 a2 a3 a4 a5 a6
    grind
  · have k : x3 = x3 * (u * d01 + v * (d03 - d12) + w * d23) := by rw [e]; grind
    rw [k]
    subst a1 a2 a3 a4 a5 a6
    grind
/-- two forms out of cubes with the same two are alike -/
theorem fCu_unique {a b c a' b' c' A B C A' B' C' : Int} (hp : fPr a b c) (h : fCu a b c a' b' c' A B C) (h' : fCu a b c a' b' c' A' B' C') : fEq A B C A' B' C' := by
  obtain ⟨u, v, w, e⟩ := hp
  obtain ⟨p0, p1, p2, p3, q0, q1, q2, q3, h1, h2, h3, h4, h5, h6, h7, h8, h9⟩ := h
  obtain ⟨x0, x1, x2, x3, y0, y1, y2, y3, g1, g2, g3, g4, g5, g6, g7, g8, g9⟩ := h'
  obtain ⟨s, hs⟩ : ∃ s, p0 * q3 - p3 * q0 = s := ⟨_, rfl⟩
  obtain ⟨t, ht⟩ : ∃ t, p1 * q2 - p2 * q1 = t := ⟨_, rfl⟩
  have gs : x0 * y3 - x3 * y0 = s := by omega
  have gt : x1 * y2 - x2 * y1 = t := by omega
  have e2 : u * a + v * (s - t) + w * c = 1 := by rw [← e]; have : s - t = b := by omega
                                                  rw [this]
  obtain ⟨α, β, k0, k1, k2, k3⟩ := cb_par h1 h3 hs ht h4 h2 g1 g3 gs gt g4 g2 e2
  have n1 : (-y0) * x1 - (-y1) * x0 = a := by rw [← g1]; grind
  have n2 : (-y0) * x2 - (-y2) * x0 = a' := by rw [← g3]; grind
  have n3 : (-y0) * x3 - (-y3) * x0 = s := by rw [← gs]; grind
  have n4 : (-y1) * x2 - (-y2) * x1 = t := by rw [← gt]; grind
  have n5 : (-y1) * x3 - (-y3) * x1 = c' := by rw [← g4]; grind
  have n6 : (-y2) * x3 - (-y3) * x2 = c := by rw [← g2]; grind
  obtain ⟨γ, δ, l0, l1, l2, l3⟩ := cb_par h1 h3 hs ht h4 h2 n1 n2 n3 n4 n5 n6 e2
  have m0 : y0 = -γ * p0 + -δ * q0 := by grind
  have m1 : y1 = -γ * p1 + -δ * q1 := by grind
  have m2 : y2 = -γ * p2 + -δ * q2 := by grind
  have m3 : y3 = -γ * p3 + -δ * q3 := by grind
  have det : α * -δ - β * -γ = 1 := by
    have d1 : a = (α * -δ - β * -γ) * a := by
      have : x0 * y1 - x1 * y0 = (α * -δ - β * -γ) * (p0 * q1 - p1 * q0) := by rw [k0, k1, m0, m1]; grind
      rw [g1, h1] at this; exact this
    have d2 : s = (α * -δ - β * -γ) * s := by
      have : x0 * y3 - x3 * y0 = (α * -δ - β * -γ) * (p0 * q3 - p3 * q0) := by rw [k0, k3, m0, m3]; grind
      rw [gs, hs] at this; exact this
    have d3 : t = (α * -δ - β * -γ) * t := by
      have : x1 * y2 - x2 * y1 = (α * -δ - β * -γ) * (p1 * q2 - p2 * q1) := by rw [k1, k2, m1, m2]; grind
      rw [gt, ht] at this; exact this
    have d4 : c = (α * -δ - β * -γ) * c := by
      have : x2 * y3 - x3 * y2 = (α * -δ - β * -γ) * (p2 * q3 - p3 * q2) := by rw [k2, k3, m2, m3]; grind
      rw [g2, h2] at this; exact this
    generalize α * -δ - β * -γ = z at d1 d2 d3 d4
    have : z * (u * a + v * (s - t) + w * c) = u * a + v * (s - t) + w * c := by
      have q : z * (u * a + v * (s - t) + w * c) = u * (z * a) + v * (z * s - z * t) + w * (z * c) := by grind
      rw [q, ← d1, ← d2, ← d3, ← d4]
    rw [e2] at this; omega
  refine ⟨-δ, -β, γ, α, by grind, ?_, ?_, ?_⟩
  · rw [g7, h7, h8, h9, m0, m1, m2, m3]; grind
  · rw [g8, h7, h8, h9, m0, m1, m2, m3, k0, k1, k2, k3]; grind
  · rw [g9, h7, h8, h9, k0, k1, k2, k3]; grind
/-- another first form that is alike -/
theorem fCu_left {a b c x y z a' b' c' A B C : Int} (h : fCu a b c a' b' c' A B C) (e : fEq a b c x y z) : fCu x y z a' b' c' A B C := by
  obtain ⟨p0, p1, p2, p3, q0, q1, q2, q3, h1, h2, h3, h4, h5, h6, h7, h8, h9⟩ := h
  obtain ⟨p, q, r, s, e1, e2, e3, e4⟩ := e
  have e5 : ∀ k : Int, k = (p * s - q * r) * k := by intro k; rw [e1]; omega
  refine ⟨p * p0 + r * p2, p * p1 + r * p3, q * p0 + s * p2, q * p1 + s * p3, p * q0 + r * q2, p * q1 + r * q3, q * q0 + s * q2, q * q1 + s * q3, ?_, ?_, ?_, ?_, ?_, ?_, ?_, ?_, ?_⟩
  · rw [e2, ← h1, ← h2, ← h5]; grind
  · rw [e4, ← h1, ← h2, ← h5]; grind
  · rw [e5 a', ← h3]; grind
  · rw [e5 c', ← h4]; grind
  · rw [e3, ← h1, ← h2, ← h5]; grind
  · rw [e5 b', ← h6]; grind
  · rw [e5 A, h7]; grind
  · rw [e5 B, h8]; grind
  · rw [e5 C, h9]; grind
theorem fCu_right {a b c x y z a' b' c' A B C : Int} (h : fCu a b c a' b' c' A B C) (e : fEq a' b' c' x y z) : fCu a b c x y z A B C := fCu_comm (fCu_left (fCu_comm h) e)
/-- two that suit: (a, B, f C) and (f, B, a C) -/
theorem fCu_suit (a f B C : Int) : fCu a B (f * C) f B (a * C) (a * f) B C :=
  ⟨1, 0, 0, -C, 0, a, f, B, by grind, by grind, by grind, by grind, by grind, by grind, by grind, by grind, by grind⟩
theorem fCu_pr {a b c a' b' c' A B C : Int} (h : fCu a b c a' b' c' A B C) (hf : fPr a b c) (hg : fPr a' b' c') : fPr A B C := by
  obtain ⟨p0, p1, p2, p3, q0, q1, q2, q3, h1, h2, h3, h4, h5, h6, h7, h8, h9⟩ := h
  obtain ⟨u, v, w, e⟩ := hf
  obtain ⟨x, y, z, e'⟩ := hg
  have c1 : a * a' = A * p0 * p0 + B * p0 * q0 + C * q0 * q0 := by rw [← h1, ← h3, h7, h8, h9]; grind
  have c2 : a * b' = 2 * A * p0 * p1 + B * (p0 * q1 + p1 * q0) + 2 * C * q0 * q1 := by rw [← h1, ← h6, h7, h8, h9]; grind
  have c3 : a * c' = A * p1 * p1 + B * p1 * q1 + C * q1 * q1 := by rw [← h1, ← h4, h7, h8, h9]; grind
  have c4 : b * a' = 2 * A * p0 * p2 + B * (p0 * q2 + p2 * q0) + 2 * C * q0 * q2 := by rw [← h5, ← h3, h7, h8, h9]; grind
  have c5 : b * b' = 2 * A * (p0 * p3 + p1 * p2) + B * (p0 * q3 + p3 * q0 + p1 * q2 + p2 * q1) + 2 * C * (q0 * q3 + q1 * q2) := by rw [← h5, ← h6, h7, h8, h9]; grind
  have c6 : b * c' = 2 * A * p1 * p3 + B * (p1 * q3 + p3 * q1) + 2 * C * q1 * q3 := by rw [← h5, ← h4, h7, h8, h9]; grind
  have c7 : c * a' = A * p2 * p2 + B * p2 * q2 + C * q2 * q2 := by rw [← h2, ← h3, h7, h8, h9]; grind
  have c8 : c * b' = 2 * A * p2 * p3 + B * (p2 * q3 + p3 * q2) + 2 * C * q2 * q3 := by rw [← h2, ← h6, h7, h8, h9]; grind
  have c9 : c * c' = A * p3 * p3 + B * p3 * q3 + C * q3 * q3 := by rw [← h2, ← h4, h7, h8, h9]; grind
  have key : (1 : Int) = u * x * (a * a') + u * y * (a * b') + u * z * (a * c') + v * x * (b * a') + v * y * (b * b') + v * z * (b * c') + w * x * (c * a') + w * y * (c * b') + w * z * (c * c') := by
    have : (1 : Int) = (u * a + v * b + w * c) * (x * a' + y * b' + z * c') := by rw [e, e']; rfl
    rw [this]; grind
  rw [c1, c2, c3, c4, c5, c6, c7, c8, c9] at key
  refine ⟨u * x * p0 * p0 + u * y * 2 * p0 * p1 + u * z * p1 * p1 + v * x * 2 * p0 * p2 + v * y * 2 * (p0 * p3 + p1 * p2) + v * z * 2 * p1 * p3 + w * x * p2 * p2 + w * y * 2 * p2 * p3 + w * z * p3 * p3,
    u * x * p0 * q0 + u * y * (p0 * q1 + p1 * q0) + u * z * p1 * q1 + v * x * (p0 * q2 + p2 * q0) + v * y * (p0 * q3 + p3 * q0 + p1 * q2 + p2 * q1) + v * z * (p1 * q3 + p3 * q1) + w * x * p2 * q2 + w * y * (p2 * q3 + p3 * q2) + w * z * p3 * q3,
    u * x * q0 * q0 + u * y * 2 * q0 * q1 + u * z * q1 * q1 + v * x * 2 * q0 * q2 + v * y * 2 * (q0 * q3 + q1 * q2) + v * z * 2 * q1 * q3 + w * x * q2 * q2 + w * y * 2 * q2 * q3 + w * z * q3 * q3, ?_⟩
  rw [key]; grind
