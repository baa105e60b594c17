/-! products exist; what alike forms give; the unit -/
theorem red_ex {d : Int} (hd0 : 0 < d) (hd9 : d ≤ 1000000000) : ∀ (w : Nat) (a0 b0 c0 a b c : Int), smU a b < w → smI d a0 b0 c0 a b c → ∃ x y z, isRd x y z ∧ 0 < x ∧ fEq a0 b0 c0 x y z := by
  intro w
  induction w with
  | zero => intro a0 b0 c0 a b c h; exact absurd h (Nat.not_lt_zero _)
  | succ w ih =>
    intro a0 b0 c0 a b c hw hI
    by_cases hr : isRd a b c
    · exact ⟨a, b, c, hr, hI.1, hI.2.2.2.1⟩
    · by_cases hn : -a < b ∧ b ≤ a
      · have h := sm_t2 hd0 hI hn hr
        exact ih _ _ _ _ _ _ (by omega) h.1
      · have h := sm_t1 hd0 hd9 hI hn rfl rfl
        exact ih _ _ _ _ _ _ (by omega) h.1
theorem eu_ex {p q : Int} (hp : p.natAbs < 281474976710656) (hq : q.natAbs < 281474976710656) : ∀ (w : Nat) (n hi lo f fl s sl : Int), lo.natAbs < w → euI p q n hi lo f fl s sl → ∃ g u v, isEu p q g u v := by
  intro w
  induction w with
  | zero => intro n hi lo f fl s sl h; exact absurd h (Nat.not_lt_zero _)
  | succ w ih =>
    intro n hi lo f fl s sl hw hI
    by_cases h0 : lo = 0
    · subst h0
      exact ⟨_, _, _, eu_end hI rfl⟩
    · obtain ⟨h1, -, h3⟩ := eu_step hp hq hI h0
      exact ih _ _ _ _ _ _ _ (Nat.lt_of_lt_of_le h3 (Nat.lt_succ_iff.mp hw)) h1
theorem rdOf_ex {d : Int} {f : qT3} (hd : dOk d) (hf : gd d f) : ∃ t, rdOf f t := by
  obtain ⟨a, b, c⟩ := f
  obtain ⟨x, y, z, h1, h2, h3⟩ := red_ex (by have := hd.1; omega) hd.2.1 _ a b c a b c (Nat.lt_succ_self _) (gd_smI (by have := hd.1; omega) hf)
  exact ⟨(x, y, z), h1, h2, h3⟩
theorem mlT_ex {d : Int} {f g : qT3} (hd : dOk d) (hf : gd d f) (hg : gd d g) : ∃ t, mlT f g t := by
  obtain ⟨⟨a1, b1, c1⟩, r1, p1, e1⟩ := rdOf_ex hd hf
  obtain ⟨⟨a2, b2, c2⟩, r2, p2, e2⟩ := rdOf_ex hd hg
  have k1 : b1 * b1 - 4 * a1 * c1 = -d := (fEq_disc e1).trans hf.1.2.1
  have k2 : b2 * b2 - 4 * a2 * c2 = -d := (fEq_disc e2).trans hg.1.2.1
  have z1 := rd_rng p1 r1 k1 hd.2.1
  have z2 := rd_rng p2 r2 k2 hd.2.1
  have z1' : a1 ≤ 18257 ∧ -18257 ≤ b1 ∧ b1 ≤ 18257 ∧ 0 < c1 ∧ c1 ≤ 333333333 := z1
  have z2' : a2 ≤ 18257 ∧ -18257 ≤ b2 ∧ b2 ≤ 18257 ∧ 0 < c2 ∧ c2 ≤ 333333333 := z2
  have p1' : 0 < a1 := p1
  have p2' : 0 < a2 := p2
  clear z1 z2
  obtain ⟨g1, u, v, h1⟩ := eu_ex (p := a1) (q := a2) (by omega) (by omega) _ _ _ _ _ _ _ _ (Nat.lt_succ_self _) (eu_init a1 a2)
  have hg1 := eu_g h1 p1'
  have hh := half_r (x := b1 + b2) (by omega) (by omega)
  obtain ⟨w, e3, e4, h2⟩ := eu_ex (p := g1) (q := (b1 + b2).tdiv 2) (by omega) (by omega) _ _ _ _ _ _ _ _ (Nat.lt_succ_self _) (eu_init g1 ((b1 + b2).tdiv 2))
  obtain ⟨-, -, -, -, -, P6⟩ := prod_ok hd p1' r1 k1 p2' r2 k2 h1 h2
  dsimp only at P6
  obtain ⟨-, -, P9, P10⟩ := P6
  obtain ⟨x, y, z, s1, s2, s3⟩ := red_ex (d := d) (by have := hd.1; omega) hd.2.1 _ _ _ _ _ _ _ (Nat.lt_succ_self _) (show smI d _ _ _ _ _ _ from by
    obtain ⟨q1, q2, q3, q4, q5⟩ := P10
    exact ⟨q1, st_pos q1 q2 (by have := hd.1; omega), q2, fEq_rfl _ _ _, by omega, q4, q5⟩)
  exact ⟨(x, y, z), s1, s2, _, _, _, fCu_right (fCu_left P9 (fEq_symm e1)) (fEq_symm e2), s3⟩
theorem mulT_spec {d : Int} {f g : qT3} (hd : dOk d) (hf : gd d f) (hg : gd d g) : mlT f g (mulT f g) ∧ gd d (mulT f g) ∧ rdT (mulT f g) := by
  have h := Classical.epsilon_spec (p := fun t => mlT f g t) (mlT_ex hd hf hg)
  have h2 : mlT f g (mulT f g) := h
  exact ⟨h2, mlT_good hd hf hg h2⟩
theorem mulT_right {d : Int} {f g g' : qT3} (hd : dOk d) (hf : gd d f) (hg : gd d g) (h : rdOf g g') : mulT f g' = mulT f g := by
  have hg' := rdOf_gd hd.2.1 hg h
  obtain ⟨⟨s1, s2, A, B, C, s3, s4⟩, -⟩ := mulT_spec hd hf hg'
  exact (mulT_eq hf (t := mulT f g') ⟨s1, s2, A, B, C, fCu_right s3 (fEq_symm h.2.2), s4⟩).symm
theorem mulT_sq {d : Int} {g g' : qT3} (hd : dOk d) (hg : gd d g) (h : rdOf g g') : mulT g' g' = mulT g g := by
  have hg' := rdOf_gd hd.2.1 hg h
  obtain ⟨⟨s1, s2, A, B, C, s3, s4⟩, -⟩ := mulT_spec hd hg' hg'
  exact (mulT_eq hg (t := mulT g' g') ⟨s1, s2, A, B, C, fCu_right (fCu_left s3 (fEq_symm h.2.2)) (fEq_symm h.2.2), s4⟩).symm
theorem pwN_red {d : Int} {g g' s : qT3} (hd : dOk d) (hg : gd d g) (hs : gd d s) (h : rdOf g g') (k n : Nat) : pwN k n g' s = pwN k n g s := by
  cases k with
  | zero => rfl
  | succ k =>
    unfold pwN
    by_cases h0 : n = 0
    · rw [if_pos h0, if_pos h0]
    · rw [if_neg h0, if_neg h0, mulT_sq hd hg h, mulT_right hd hs hg h]
/-- the unit leaves a reduced form as it is -/
theorem mulT_un {d : Int} {g : qT3} (hd : dOk d) (hg : gd d g) (hr : rdT g) : mulT (unT d) g = g := by
  obtain ⟨a, b, c⟩ := g
  have h1 : 0 < a := hg.1.1
  have h2 : b * b - 4 * a * c = -d := hg.1.2.1
  have ob := odd_b h2 (by have := hd.2.2; omega)
  have hu := unT_ok hd
  obtain ⟨n, hn⟩ : ∃ n, b = 1 + 2 * n := ⟨(b - 1) / 2, by omega⟩
  have e1 := fEq_move 1 1 ((1 + d) / 4) n
  have e2 : (1 : Int) + 2 * 1 * n = b := by omega
  have e3 : (1 + d) / 4 + n * 1 + 1 * n * n = a * c := by
    have h3 : 4 * ((1 + d) / 4 + n * 1 + 1 * n * n) = 4 * (a * c) := by
      have h4 : 4 * ((1 + d) / 4 + n * 1 + 1 * n * n) = 4 * ((1 + d) / 4) + 4 * n + 4 * (n * n) := by grind
      rw [h4, hu.1]
      rw [hn] at h2
      have h5 : (1 + 2 * n) * (1 + 2 * n) = 1 + 4 * n + 4 * (n * n) := by grind
      have h6 : 4 * a * c = 4 * (a * c) := by grind
      omega
    omega
  rw [e2, e3] at e1
  have s := fCu_suit 1 a b c
  have e4 : (1 : Int) * c = c := by omega
  have e5 : (1 : Int) * a = a := by omega
  rw [e4, e5] at s
  exact mulT_eq (unT_gd hd).1 (t := (a, b, c)) ⟨hr, h1, a, b, c, fCu_left s (fEq_symm e1), fEq_rfl _ _ _⟩
