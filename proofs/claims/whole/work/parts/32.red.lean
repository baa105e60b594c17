/-! reduced forms -/
theorem rd_low {a b c : Int} (x y : Int) (h1 : -a ≤ b) (h2 : b ≤ a) (h3 : a ≤ c) : ∃ X Y : Int, 0 ≤ X ∧ 0 ≤ Y ∧ (X = x ∨ X = -x) ∧ (Y = y ∨ Y = -y) ∧ a * (X * X - X * Y + Y * Y) ≤ a * x * x + b * x * y + c * y * y := by
  have hy : 0 ≤ (c - a) * (y * y) := Int.mul_nonneg (by omega) (by rcases Int.le_total 0 y with h | h; exact Int.mul_nonneg h h; exact Int.mul_nonneg_of_nonpos_of_nonpos h h)
  rcases Int.le_total 0 x with hx | hx <;> rcases Int.le_total 0 y with h | h
  · have := Int.mul_nonneg (show 0 ≤ a + b by omega) (Int.mul_nonneg hx h)
    exact ⟨x, y, hx, h, Or.inl rfl, Or.inl rfl, by grind⟩
  · have := Int.mul_nonneg (show 0 ≤ a - b by omega) (Int.mul_nonneg hx (show 0 ≤ -y by omega))
    exact ⟨x, -y, hx, by omega, Or.inl rfl, Or.inr rfl, by grind⟩
  · have := Int.mul_nonneg (show 0 ≤ a - b by omega) (Int.mul_nonneg (show 0 ≤ -x by omega) h)
    exact ⟨-x, y, by omega, h, Or.inr rfl, Or.inl rfl, by grind⟩
  · have := Int.mul_nonneg (show 0 ≤ a + b by omega) (Int.mul_nonneg (show 0 ≤ -x by omega) (show 0 ≤ -y by omega))
    exact ⟨-x, -y, by omega, by omega, Or.inr rfl, Or.inr rfl, by grind⟩
theorem rd_one {X Y : Int} (hX : 0 ≤ X) (hY : 0 ≤ Y) (h : ¬ (X = 0 ∧ Y = 0)) : 1 ≤ X * X - X * Y + Y * Y := by
  rcases Int.le_total X Y with h1 | h1
  · have a1 := Int.mul_nonneg hY (show 0 ≤ Y - X by omega)
    by_cases h0 : X = 0
    · subst h0
      have a2 := Int.mul_le_mul (show 1 ≤ Y by omega) (show 1 ≤ Y by omega) (by omega) hY
      grind
    · have a2 := Int.mul_le_mul (show 1 ≤ X by omega) (show 1 ≤ X by omega) (by omega) hX
      grind
  · have a1 := Int.mul_nonneg hX (show 0 ≤ X - Y by omega)
    by_cases h0 : Y = 0
    · subst h0
      have a2 := Int.mul_le_mul (show 1 ≤ X by omega) (show 1 ≤ X by omega) (by omega) hX
      grind
    · have a2 := Int.mul_le_mul (show 1 ≤ Y by omega) (show 1 ≤ Y by omega) (by omega) hY
      grind
theorem rd_two {X Y : Int} (hX : 0 ≤ X) (hY : 0 ≤ Y) (h : X * X - X * Y + Y * Y ≤ 1) : Y ≤ 1 := by
  refine Int.not_lt.mp (fun h2 => ?_)
  rcases Int.lt_or_le X Y with h1 | h1
  · have a1 := Int.mul_le_mul (show 2 ≤ Y by omega) (show 1 ≤ Y - X by omega) (by omega) hY
    have a2 := Int.mul_nonneg hX hX
    grind
  · have a1 := Int.mul_nonneg hX (show 0 ≤ X - Y by omega)
    have a2 := Int.mul_le_mul (show 2 ≤ Y by omega) (show 2 ≤ Y by omega) (by omega) hY
    grind
theorem rd_min {a b c x y : Int} (ha : 0 < a) (h1 : -a ≤ b) (h2 : b ≤ a) (h3 : a ≤ c) (h : ¬ (x = 0 ∧ y = 0)) : a ≤ a * x * x + b * x * y + c * y * y := by
  obtain ⟨X, Y, hX, hY, eX, eY, hl⟩ := rd_low x y h1 h2 h3
  have h4 := rd_one hX hY (by omega)
  have h5 := Int.mul_le_mul_of_nonneg_left h4 (show 0 ≤ a by omega)
  omega
theorem rd_small {t a : Int} (ha : 0 < a) (h1 : -2 * a < 2 * a * t) (h2 : 2 * a * t < 2 * a) : t = 0 := by
  rcases Int.lt_trichotomy t 0 with h | h | h
  · have := Int.mul_le_mul_of_nonneg_left (show t ≤ -1 by omega) (show 0 ≤ 2 * a by omega)
    grind
  · exact h
  · have := Int.mul_le_mul_of_nonneg_left (show 1 ≤ t by omega) (show 0 ≤ 2 * a by omega)
    grind
theorem rd_c {a b c c' : Int} (ha : 0 < a) (h : b * b - 4 * a * c' = b * b - 4 * a * c) : c = c' := by
  have h2 : a * c = a * c' := by grind
  exact Int.eq_of_mul_eq_mul_left (by omega) h2
/-- for each form there is just one reduced one that is alike -/
theorem rd_unique {a b c a' b' c' : Int} (ha : 0 < a) (ha' : 0 < a') (hr : isRd a b c) (hr' : isRd a' b' c') (h : fEq a b c a' b' c') : a = a' ∧ b = b' ∧ c = c' := by
  obtain ⟨r1, r2, r3, r4⟩ := hr
  obtain ⟨r1', r2', r3', r4'⟩ := hr'
  have hd := fEq_disc h
  have e : a = a' := by
    have l1 : a ≤ a' := by
      obtain ⟨p, q, r, s, h1, h2, h3, h4⟩ := h
      rw [h2]
      refine rd_min ha (by omega) r2 r3 (fun h0 => ?_)
      rw [h0.1, h0.2] at h1
      omega
    have l2 : a' ≤ a := by
      obtain ⟨p, q, r, s, h1, h2, h3, h4⟩ := fEq_symm h
      rw [h2]
      refine rd_min ha' (by omega) r2' r3' (fun h0 => ?_)
      rw [h0.1, h0.2] at h1
      omega
    omega
  subst e
  obtain ⟨p, q, r, s, h1, h2, h3, h4⟩ := h
  obtain ⟨X, Y, hX, hY, eX, eY, hl⟩ := rd_low p r (show -a ≤ b by omega) r2 r3
  have hm : X * X - X * Y + Y * Y ≤ 1 := by
    refine Int.not_lt.mp (fun h5 => ?_)
    have := Int.mul_le_mul_of_nonneg_left (show 2 ≤ X * X - X * Y + Y * Y by omega) (show 0 ≤ a by omega)
    omega
  have hY1 := rd_two hX hY hm
  have hX1 := rd_two hY hX (by grind)
  by_cases hr0 : r = 0
  · subst hr0
    have hps : p * s = 1 := by grind
    have hb : b' = b + 2 * a * (p * q) := by rw [h3]; grind
    have ht := rd_small (t := p * q) ha (by omega) (by omega)
    have hb2 : b = b' := by rw [hb, ht]; omega
    subst hb2
    exact ⟨rfl, rfl, rd_c ha hd⟩
  · by_cases hp0 : p = 0
    · subst hp0
      have hrr : r * r = 1 := by
        rcases (show r = 1 ∨ r = -1 by omega) with rfl | rfl <;> rfl
      have hac : a = c := by
        have : a = c * (r * r) := by grind
        rw [hrr] at this; omega
      have hqr : q * r = -1 := by grind
      have hb : b' = -b + 2 * a * (r * s) := by
        have : b' = b * (q * r) + 2 * c * (r * s) := by grind
        rw [this, hqr, ← hac]; grind
      subst hac
      have hb0 := r4 rfl
      rcases Int.lt_trichotomy (r * s) 0 with ht | ht | ht
      · have := Int.mul_le_mul_of_nonneg_left (show r * s ≤ -1 by omega) (show 0 ≤ 2 * a by omega)
        omega
      · rw [ht] at hb
        have hb2 : b' = -b := by omega
        subst hb2
        have hc2 := rd_c (b := b) (c := a) (c' := c') ha (by grind)
        have := r4' hc2
        exact ⟨rfl, by omega, hc2⟩
      · rcases (show r * s = 1 ∨ 2 ≤ r * s by omega) with h5 | h5
        · rw [h5] at hb
          have hb2 : b = b' := by omega
          subst hb2
          exact ⟨rfl, rfl, rd_c ha hd⟩
        · have := Int.mul_le_mul_of_nonneg_left h5 (show 0 ≤ 2 * a by omega)
          omega
    · have hca : c ≤ a := by
        rcases (show p = 1 ∨ p = -1 by omega) with rfl | rfl <;> rcases (show r = 1 ∨ r = -1 by omega) with rfl | rfl <;> grind
      have hac : a = c := by omega
      subst hac
      have hb0 := r4 rfl
      have hba : b = a := by
        rcases (show p = 1 ∨ p = -1 by omega) with rfl | rfl <;> rcases (show r = 1 ∨ r = -1 by omega) with rfl | rfl <;> grind
      subst hba
      have hbb : b' * b' ≤ b * b := by
        have a1 := Int.mul_nonneg (show 0 ≤ b - b' by omega) (show 0 ≤ b + b' by omega)
        grind
      have hc : c' ≤ b := by
        refine Int.not_lt.mp (fun h5 => ?_)
        have := Int.mul_le_mul_of_nonneg_left (show b + 1 ≤ c' by omega) (show 0 ≤ b by omega)
        grind
      have hc2 : c' = b := by omega
      subst hc2
      have hb2 : b' * b' = c' * c' := by grind
      have hb3 : (b' - c') * (b' + c') = 0 := by grind
      rcases Int.mul_eq_zero.mp hb3 with h5 | h5
      · exact ⟨rfl, by omega, rfl⟩
      · omega
/-- of a reduced form with 4 a c - b b = d: 3 a a ≤ d -/
theorem rd_bound {a b c d : Int} (ha : 0 < a) (hr : isRd a b c) (hd : 4 * a * c - b * b = d) : 3 * (a * a) ≤ d := by
  obtain ⟨r1, r2, r3, r4⟩ := hr
  have h1 := Int.mul_nonneg (show 0 ≤ a - b by omega) (show 0 ≤ a + b by omega)
  have h2 := Int.mul_le_mul_of_nonneg_left r3 (show 0 ≤ a by omega)
  grind
theorem rd_sq {a n m : Int} (h0 : 0 ≤ n) (h : 3 * (a * a) ≤ m) (hm : m < 3 * ((n + 1) * (n + 1))) : a ≤ n := by
  refine Int.not_lt.mp (fun h5 => ?_)
  have := Int.mul_le_mul (show n + 1 ≤ a by omega) (show n + 1 ≤ a by omega) (by omega) (by omega)
  omega
