/-! the search finds a point of small size -/
theorem bad_of {p q r a : Int} (ha : 0 < a) {v : pt} (h : Int.gcd (gv p q r v) a ≠ 1) : ∃ π, isP π ∧ π ∣ a ∧ π ∣ gv p q r v := by
  have h1 : ((Int.gcd (gv p q r v) a : Nat) : Int) ∣ a := Int.gcd_dvd_right _ a
  have h2 : ((Int.gcd (gv p q r v) a : Nat) : Int) ∣ gv p q r v := Int.gcd_dvd_left _ a
  have h3 : (Int.gcd (gv p q r v) a) ≠ 0 := by
    intro h0
    rw [h0] at h1
    have := Int.zero_dvd.mp h1
    omega
  obtain ⟨π, hp, hd⟩ := isP_ex _ (Int.gcd (gv p q r v) a : Int) (Nat.lt_succ_self _) (by omega)
  exact ⟨π, hp, Int.dvd_trans hd h1, Int.dvd_trans hd h2⟩
theorem isP_30 {π : Int} (hp : isP π) (h : π ∣ 30) : π = 2 ∨ π = 3 ∨ π = 5 := by
  have h1 : π ∣ 2 * (3 * 5) := h
  rcases isP_mul hp h1 with h2 | h2
  · have := Int.le_of_dvd (by decide) h2; have := hp.1; omega
  · rcases isP_mul hp h2 with h3 | h3
    · have := Int.le_of_dvd (by decide) h3
      have h4 := hp.1
      rcases (show π = 2 ∨ π = 3 by omega) with h5 | h5
      · exact Or.inl h5
      · exact Or.inr (Or.inl h5)
    · have := Int.le_of_dvd (by decide) h3
      have h4 := hp.1
      rcases (show π = 2 ∨ π = 3 ∨ π = 4 ∨ π = 5 by omega) with h5 | h5 | h5 | h5
      · exact Or.inl h5
      · exact Or.inr (Or.inl h5)
      · rw [h5] at h3; exact absurd h3 (by decide)
      · exact Or.inr (Or.inr h5)
theorem fold_lo {c a : Int} (hc : 0 < c) (ha : 0 < a) : ∀ (m : Nat) (Ps : List Int), m < 4 → Ps.length = m + 1 → Ps.Nodup → (∀ π ∈ Ps, isP π ∧ ¬ π ∣ 30) → Ps.foldl (· * ·) c ∣ a → c * bigT (m + 1) ≤ a := by
  intro m Ps hm hl hn hP hd
  have hle := Int.le_of_dvd ha hd
  refine Int.le_trans ?_ hle
  match m, hm, Ps, hl, hn, hP with
  | 0, _, [x], _, _, hP =>
    obtain ⟨i, h1, -⟩ := isP_lo (hP x (by simp)).1 (hP x (by simp)).2
    have h2 : ∀ i : Fin 4, 7 ≤ vl i.val := by decide
    have h3 := h2 i
    exact Int.mul_le_mul_of_nonneg_left (show (7 : Int) ≤ x by omega) (by omega)
  | 1, _, [x, y], _, hn, hP =>
    obtain ⟨i, h1, e1⟩ := isP_lo (hP x (by simp)).1 (hP x (by simp)).2
    obtain ⟨j, h2, e2⟩ := isP_lo (hP y (by simp)).1 (hP y (by simp)).2
    have hv : ∀ i : Fin 4, 0 ≤ vl i.val := by decide
    simp only [List.nodup_cons, List.mem_cons, List.not_mem_nil, or_false, not_or] at hn
    have h3 := lo2 i j (fun h => fun h9 => hn.1 (by rw [← e1 h, h9]; rw [h9] at h; exact e2 h))
    have h4 := mul_lo (hv i) h1 (hv j) h2
    show c * 77 ≤ c * x * y
    rw [Int.mul_assoc]
    exact Int.mul_le_mul_of_nonneg_left (by omega) (by omega)
  | 2, _, [x, y, z], _, hn, hP =>
    obtain ⟨i, h1, e1⟩ := isP_lo (hP x (by simp)).1 (hP x (by simp)).2
    obtain ⟨j, h2, e2⟩ := isP_lo (hP y (by simp)).1 (hP y (by simp)).2
    obtain ⟨k, h3, e3⟩ := isP_lo (hP z (by simp)).1 (hP z (by simp)).2
    have hv : ∀ i : Fin 4, 0 ≤ vl i.val := by decide
    simp only [List.nodup_cons, List.mem_cons, List.not_mem_nil, or_false, not_or] at hn
    have h4 := lo3 i j k (fun h => ⟨fun h9 => hn.1.1 (by rw [← e1 h, h9]; rw [h9] at h; exact e2 h), fun h9 => hn.1.2 (by rw [← e1 h, h9]; rw [h9] at h; exact e3 h)⟩) (fun h => fun h9 => hn.2.1 (by rw [← e2 h, h9]; rw [h9] at h; exact e3 h))
    have h5 := mul_lo (Int.mul_nonneg (hv i) (hv j)) (mul_lo (hv i) h1 (hv j) h2) (hv k) h3
    show c * 1001 ≤ c * x * y * z
    have e : c * x * y * z = c * (x * y * z) := by grind
    rw [e]
    exact Int.mul_le_mul_of_nonneg_left (by omega) (by omega)
  | 3, _, [x, y, z, w], _, hn, hP =>
    obtain ⟨i, h1, e1⟩ := isP_lo (hP x (by simp)).1 (hP x (by simp)).2
    obtain ⟨j, h2, e2⟩ := isP_lo (hP y (by simp)).1 (hP y (by simp)).2
    obtain ⟨k, h3, e3⟩ := isP_lo (hP z (by simp)).1 (hP z (by simp)).2
    obtain ⟨n, h4, e4⟩ := isP_lo (hP w (by simp)).1 (hP w (by simp)).2
    have hv : ∀ i : Fin 4, 0 ≤ vl i.val := by decide
    simp only [List.nodup_cons, List.mem_cons, List.not_mem_nil, or_false, not_or] at hn
    have h5 := lo4 i j k n (fun h => ⟨fun h9 => hn.1.1 (by rw [← e1 h, h9]; rw [h9] at h; exact e2 h), fun h9 => hn.1.2.1 (by rw [← e1 h, h9]; rw [h9] at h; exact e3 h), fun h9 => hn.1.2.2 (by rw [← e1 h, h9]; rw [h9] at h; exact e4 h)⟩) (fun h => ⟨fun h9 => hn.2.1.1 (by rw [← e2 h, h9]; rw [h9] at h; exact e3 h), fun h9 => hn.2.1.2 (by rw [← e2 h, h9]; rw [h9] at h; exact e4 h)⟩) (fun h => fun h9 => hn.2.2.1 (by rw [← e3 h, h9]; rw [h9] at h; exact e4 h))
    have h6 := mul_lo (Int.mul_nonneg (Int.mul_nonneg (hv i) (hv j)) (hv k)) (mul_lo (Int.mul_nonneg (hv i) (hv j)) (mul_lo (hv i) h1 (hv j) h2) (hv k) h3) (hv n) h4
    show c * 17017 ≤ c * x * y * z * w
    have e : c * x * y * z * w = c * (x * y * z * w) := by grind
    rw [e]
    exact Int.mul_le_mul_of_nonneg_left (by omega) (by omega)
/-- a point of a size: its numbers have no common divisor -/
def inBx (S : Int) (v : pt) : Prop := 0 ≤ v.1 ∧ v.1 ≤ S ∧ -S ≤ v.2 ∧ v.2 ≤ S ∧ Int.gcd v.1 v.2 = 1 ∧ (v.1 = 0 → v.2 = 1)
theorem inB_x {S : Int} {v : pt} (h : inB S v = true) : inBx S v := by
  simp only [inB, Bool.and_eq_true, Bool.or_eq_true, decide_eq_true_eq, beq_iff_eq] at h
  obtain ⟨h1, h2, h3, h4, h5, h6⟩ := h
  exact ⟨h1, h2, h3, h4, h5, fun h7 => h6.resolve_left (fun h8 => h8 h7)⟩
def cl2 (p q r a : Int) (q2 : Nat) : Prop := (q2 = 0 ∧ ¬ (2 : Int) ∣ a) ∨ (q2 ≠ 0 ∧ (2 : Int) ∣ a ∧ ∀ v : pt, Int.gcd v.1 v.2 = 1 → c2N v + 1 = q2 → ¬ (2 : Int) ∣ gv p q r v)
def cl3 (p q r a : Int) (q3 : Nat) : Prop := (q3 = 0 ∧ ¬ (3 : Int) ∣ a) ∨ (q3 ≠ 0 ∧ (3 : Int) ∣ a ∧ ∀ v : pt, Int.gcd v.1 v.2 = 1 → c3N v + 1 = q3 → ¬ (3 : Int) ∣ gv p q r v)
def cl5 (p q r a : Int) (q5 : Nat) : Prop := (q5 = 0 ∧ ¬ (5 : Int) ∣ a) ∨ (q5 ≠ 0 ∧ (5 : Int) ∣ a ∧ ∀ v : pt, Int.gcd v.1 v.2 = 1 → (c5N v ≠ (pat5.getD q5 (9, 9)).1 ∧ c5N v ≠ (pat5.getD q5 (9, 9)).2) → ¬ (5 : Int) ∣ gv p q r v)
theorem cl2_ex {p q r : Int} (a : Int) (hf : fPr p q r) : ∃ q2, q2 < 4 ∧ cl2 p q r a q2 := by
  by_cases h : (2 : Int) ∣ a
  · obtain ⟨i, hi⟩ := cls_2 hf
    exact ⟨i.val + 1, by omega, Or.inr ⟨by omega, h, hi⟩⟩
  · exact ⟨0, by decide, Or.inl ⟨rfl, h⟩⟩
theorem cl3_ex {p q r : Int} (a : Int) (hf : fPr p q r) : ∃ q3, q3 < 5 ∧ cl3 p q r a q3 := by
  by_cases h : (3 : Int) ∣ a
  · obtain ⟨i, hi⟩ := cls_3 hf
    exact ⟨i.val + 1, by omega, Or.inr ⟨by omega, h, hi⟩⟩
  · exact ⟨0, by decide, Or.inl ⟨rfl, h⟩⟩
theorem cl5_ex {p q r : Int} (a : Int) (hf : fPr p q r) : ∃ q5, q5 < 16 ∧ cl5 p q r a q5 := by
  by_cases h : (5 : Int) ∣ a
  · obtain ⟨i, hi⟩ := cls_5 hf
    exact ⟨i.val + 1, by omega, Or.inr ⟨by omega, h, hi⟩⟩
  · exact ⟨0, by decide, Or.inl ⟨rfl, h⟩⟩
theorem Pq_dvd {p q r a : Int} {q2 q3 q5 : Nat} (h2 : cl2 p q r a q2) (h3 : cl3 p q r a q3) (h5 : cl5 p q r a q5) : PqT q2 q3 q5 ∣ a ∧ PqT q2 q3 q5 ∣ 30 ∧ 0 < PqT q2 q3 q5 := by
  have d2 : (if q2 = 0 then (1 : Int) else 2) ∣ a := by
    rcases h2 with ⟨rfl, -⟩ | ⟨h, hd, -⟩
    · exact Int.one_dvd a
    · rw [if_neg h]; exact hd
  have d3 : (if q3 = 0 then (1 : Int) else 3) ∣ a := by
    rcases h3 with ⟨rfl, -⟩ | ⟨h, hd, -⟩
    · exact Int.one_dvd a
    · rw [if_neg h]; exact hd
  have d5 : (if q5 = 0 then (1 : Int) else 5) ∣ a := by
    rcases h5 with ⟨rfl, -⟩ | ⟨h, hd, -⟩
    · exact Int.one_dvd a
    · rw [if_neg h]; exact hd
  unfold PqT
  refine ⟨cop_mul ?_ d2 (cop_mul ?_ d3 d5), ?_, ?_⟩
  · repeat' split
    all_goals decide
  · repeat' split
    all_goals decide
  · repeat' split
    all_goals decide
  · repeat' split
    all_goals decide
theorem srch_core {p q r a : Int} (hf : fPr p q r) (ha : 0 < a) (ha2 : a ≤ 18257) {q2 q3 q5 m : Nat} (l2 : q2 < 4) (l3 : q3 < 5) (l5 : q5 < 16) (lm : m < 4) (h2 : cl2 p q r a q2) (h3 : cl3 p q r a q3) (h5 : cl5 p q r a q5) (hlo : PqT q2 q3 q5 * bigT m ≤ a) (hhi : a < PqT q2 q3 q5 * bigT (m + 1)) :
    ∃ (S : Int) (v : pt), 2 ≤ S ∧ S ≤ 14 ∧ S * S * (S * S) < 44 * a ∧ inBx S v ∧ Int.gcd (gv p q r v) a = 1 := by
  have hc := chk_all ⟨q2, l2⟩ ⟨q3, l3⟩ ⟨q5, l5⟩ ⟨m, lm⟩ (by show PqT q2 q3 q5 * bigT m ≤ 18257; omega)
  have hc : chkT q2 q3 q5 m = true := hc
  simp only [chkT, Bool.and_eq_true, List.all_eq_true, decide_eq_true_eq, beq_iff_eq] at hc
  obtain ⟨c1, c2, c3, c4, c5, c6⟩ := hc
  by_cases hg : ∃ v ∈ famT q2 q3 q5 m, Int.gcd (gv p q r v) a = 1
  · obtain ⟨v, hv, hg⟩ := hg
    exact ⟨sizT q2 q3 q5 m, v, c4, c5, by omega, inB_x (c2 v hv).1, hg⟩
  · exfalso
    obtain ⟨k1, k2, k3⟩ := Pq_dvd h2 h3 h5
    obtain ⟨Ps, e1, e2, e3⟩ := bad_list (a := a) (B := 30) hf m (famT q2 q3 q5 m) (pwC_apart _ c3) (by omega) (fun v hv => by
      obtain ⟨π, g1, g2, g3⟩ := bad_of (p := p) (q := q) (r := r) ha (v := v) (fun h => hg ⟨v, hv, h⟩)
      refine ⟨π, g1, fun h30 => ?_, g2, g3⟩
      have hx := inB_x (c2 v hv).1
      have hcl := (c2 v hv).2
      simp only [clC, Bool.and_eq_true, Bool.or_eq_true, beq_iff_eq, bne_iff_ne] at hcl
      rcases isP_30 g1 h30 with rfl | rfl | rfl
      · rcases h2 with ⟨-, h⟩ | ⟨hn, -, h⟩
        · exact h g2
        · exact h v hx.2.2.2.2.1 (hcl.1.resolve_left hn) g3
      · rcases h3 with ⟨-, h⟩ | ⟨hn, -, h⟩
        · exact h g2
        · exact h v hx.2.2.2.2.1 (hcl.2.1.resolve_left hn) g3
      · rcases h5 with ⟨-, h⟩ | ⟨hn, -, h⟩
        · exact h g2
        · exact h v hx.2.2.2.2.1 (hcl.2.2.resolve_left hn) g3)
    have hdv := prod_dvd (a := a) (c := PqT q2 q3 q5) Ps e2 (fun π hπ => by
      obtain ⟨v, -, b⟩ := e3 π hπ
      exact ⟨b.1, b.2.2.1, fun h => b.2.1 (Int.dvd_trans h k2)⟩) k1
    have := fold_lo k3 ha m Ps lm e1 e2 (fun π hπ => by
      obtain ⟨v, -, b⟩ := e3 π hπ
      exact ⟨b.1, b.2.1⟩) hdv
    omega
/-- 7 divides a, and a is large: by classes mod 7 -/
theorem srch_7 {p q r a : Int} (hf : fPr p q r) (ha : 17017 ≤ a) (ha2 : a ≤ 18257) (h2 : ¬ (2 : Int) ∣ a) (h3 : ¬ (3 : Int) ∣ a) (h5 : ¬ (5 : Int) ∣ a) (h7 : (7 : Int) ∣ a) :
    ∃ (S : Int) (v : pt), 2 ≤ S ∧ S ≤ 14 ∧ S * S * (S * S) < 44 * a ∧ inBx S v ∧ Int.gcd (gv p q r v) a = 1 := by
  obtain ⟨i, hi⟩ := cls_7 hf
  obtain ⟨c1, c2, c3⟩ := chk_7 i
  simp only [Bool.and_eq_true, List.all_eq_true, beq_iff_eq] at c2
  by_cases hg : ∃ v ∈ tb7.getD i.val [], Int.gcd (gv p q r v) a = 1
  · obtain ⟨v, hv, hg⟩ := hg
    exact ⟨8, v, by decide, by decide, by omega, inB_x (c2 v hv).1, hg⟩
  · exfalso
    obtain ⟨Ps, e1, e2, e3⟩ := bad_list (a := a) (B := 210) hf 3 (tb7.getD i.val []) (pwC_apart _ c3) (by omega) (fun v hv => by
      obtain ⟨π, g1, g2, g3⟩ := bad_of (p := p) (q := q) (r := r) (a := a) (by omega) (v := v) (fun h => hg ⟨v, hv, h⟩)
      refine ⟨π, g1, fun h210 => ?_, g2, g3⟩
      have hx := inB_x (c2 v hv).1
      have h9 : π ∣ 30 * 7 := h210
      rcases isP_mul g1 h9 with h | h
      · rcases isP_30 g1 h with rfl | rfl | rfl
        · exact h2 g2
        · exact h3 g2
        · exact h5 g2
      · have h10 : π = 7 := by
          have h11 := Int.le_of_dvd (by decide) h
          have h12 := g1.1
          rcases (show π = 2 ∨ π = 3 ∨ π = 4 ∨ π = 5 ∨ π = 6 ∨ π = 7 by omega) with r1 | r1 | r1 | r1 | r1 | r1
          · rw [r1] at h; exact absurd h (by decide)
          · rw [r1] at h; exact absurd h (by decide)
          · rw [r1] at h; exact absurd h (by decide)
          · rw [r1] at h; exact absurd h (by decide)
          · rw [r1] at h; exact absurd h (by decide)
          · exact r1
        rw [h10] at g3
        exact hi v hx.2.2.2.2.1 (c2 v hv).2 g3)
    have hdv := prod_dvd (a := a) (c := 7) Ps e2 (fun π hπ => by
      obtain ⟨v, -, b⟩ := e3 π hπ
      exact ⟨b.1, b.2.2.1, fun h => b.2.1 (Int.dvd_trans h (by decide))⟩) h7
    have := fold_lo (c := 7) (by decide) (by omega) 3 Ps (by decide) e1 e2 (fun π hπ => by
      obtain ⟨v, -, b⟩ := e3 π hπ
      exact ⟨b.1, fun h => b.2.1 (Int.dvd_trans h (by decide))⟩) hdv
    have h17 : bigT (3 + 1) = 17017 := rfl
    omega
theorem srch {p q r a : Int} (hf : fPr p q r) (ha : 0 < a) (ha2 : a ≤ 18257) : ∃ (S : Int) (v : pt), 2 ≤ S ∧ S ≤ 14 ∧ S * S * (S * S) < 44 * a ∧ inBx S v ∧ Int.gcd (gv p q r v) a = 1 := by
  obtain ⟨q2, l2, h2⟩ := cl2_ex a hf
  obtain ⟨q3, l3, h3⟩ := cl3_ex a hf
  obtain ⟨q5, l5, h5⟩ := cl5_ex a hf
  obtain ⟨k1, k2, k3⟩ := Pq_dvd h2 h3 h5
  have hle := Int.le_of_dvd ha k1
  by_cases b1 : a < PqT q2 q3 q5 * bigT 1
  · exact srch_core hf ha ha2 l2 l3 l5 (m := 0) (by decide) h2 h3 h5 (by show _ * 1 ≤ _; omega) b1
  by_cases b2 : a < PqT q2 q3 q5 * bigT 2
  · exact srch_core hf ha ha2 l2 l3 l5 (m := 1) (by decide) h2 h3 h5 (by omega) b2
  by_cases b3 : a < PqT q2 q3 q5 * bigT 3
  · exact srch_core hf ha ha2 l2 l3 l5 (m := 2) (by decide) h2 h3 h5 (by omega) b3
  by_cases b4 : a < PqT q2 q3 q5 * bigT 4
  · exact srch_core hf ha ha2 l2 l3 l5 (m := 3) (by decide) h2 h3 h5 (by omega) b4
  have hb4 : PqT q2 q3 q5 * 17017 ≤ a := Int.not_lt.mp b4
  have hP1 : PqT q2 q3 q5 = 1 := by omega
  have z2 : q2 = 0 ∧ q3 = 0 ∧ q5 = 0 := by
    unfold PqT at hP1
    refine ⟨?_, ?_, ?_⟩
    · refine Decidable.byContradiction (fun h => ?_)
      rw [if_neg h] at hP1
      revert hP1
      repeat' split
      all_goals decide
    · refine Decidable.byContradiction (fun h => ?_)
      rw [if_neg h] at hP1
      revert hP1
      repeat' split
      all_goals decide
    · refine Decidable.byContradiction (fun h => ?_)
      rw [if_neg h] at hP1
      revert hP1
      repeat' split
      all_goals decide
  have n2 : ¬ (2 : Int) ∣ a := by rcases h2 with h | h; exact h.2; exact absurd z2.1 h.1
  have n3 : ¬ (3 : Int) ∣ a := by rcases h3 with h | h; exact h.2; exact absurd z2.2.1 h.1
  have n5 : ¬ (5 : Int) ∣ a := by rcases h5 with h | h; exact h.2; exact absurd z2.2.2 h.1
  by_cases h7 : (7 : Int) ∣ a
  · exact srch_7 hf (by omega) ha2 n2 n3 n5 h7
  · -- four primes above 7 are too much
    have hc := chk_all ⟨0, by decide⟩ ⟨0, by decide⟩ ⟨0, by decide⟩ ⟨3, by decide⟩ (by decide)
    have hc : chkT 0 0 0 3 = true := hc
    simp only [chkT, Bool.and_eq_true, List.all_eq_true, decide_eq_true_eq, beq_iff_eq] at hc
    obtain ⟨c1, c2, c3, c4, c5, c6⟩ := hc
    have hPq : PqT 0 0 0 * bigT 3 = 1001 := rfl
    by_cases hg : ∃ v ∈ famT 0 0 0 3, Int.gcd (gv p q r v) a = 1
    · obtain ⟨v, hv, hg⟩ := hg
      exact ⟨sizT 0 0 0 3, v, c4, c5, by omega, inB_x (c2 v hv).1, hg⟩
    · exfalso
      obtain ⟨Ps, e1, e2, e3⟩ := bad_list (a := a) (B := 30) hf 3 (famT 0 0 0 3) (pwC_apart _ c3) (by omega) (fun v hv => by
        obtain ⟨π, g1, g2, g3⟩ := bad_of (p := p) (q := q) (r := r) ha (v := v) (fun h => hg ⟨v, hv, h⟩)
        refine ⟨π, g1, fun h30 => ?_, g2, g3⟩
        rcases isP_30 g1 h30 with rfl | rfl | rfl
        · exact n2 g2
        · exact n3 g2
        · exact n5 g2)
      have hdv := prod_dvd (a := a) (c := 1) Ps e2 (fun π hπ => by
        obtain ⟨v, -, b⟩ := e3 π hπ
        exact ⟨b.1, b.2.2.1, fun h => b.2.1 (Int.dvd_trans h (Int.one_dvd 30))⟩) (Int.one_dvd a)
      have hle2 := Int.le_of_dvd ha hdv
      match Ps, e1, e2, e3, hle2 with
      | [x, y, z, w], _, e2, e3, hle2 =>
        have lo : ∀ π ∈ [x, y, z, w], ∃ i : Fin 4, 1 ≤ i.val ∧ vl i.val ≤ π ∧ (i.val < 3 → vl i.val = π) := fun π hπ => by
          obtain ⟨v, -, b⟩ := e3 π hπ
          obtain ⟨i, j1, j2⟩ := isP_lo b.1 b.2.1
          refine ⟨i, ?_, j1, j2⟩
          refine Nat.pos_of_ne_zero (fun h0 => h7 ?_)
          have h8 := j2 (by omega)
          rw [h0] at h8
          have h9 : π = 7 := h8.symm
          rw [← h9]; exact b.2.2.1
        obtain ⟨i, i1, h1, f1⟩ := lo x (by simp)
        obtain ⟨j, i2, h2, f2⟩ := lo y (by simp)
        obtain ⟨k, i3, h3, f3⟩ := lo z (by simp)
        obtain ⟨n, i4, h4, f4⟩ := lo w (by simp)
        have hv : ∀ i : Fin 4, 0 ≤ vl i.val := by decide
        have hlo : ∀ i j k n : Fin 4, 1 ≤ i.val → 1 ≤ j.val → 1 ≤ k.val → 1 ≤ n.val → (i.val < 3 → i ≠ j ∧ i ≠ k ∧ i ≠ n) → (j.val < 3 → j ≠ k ∧ j ≠ n) → (k.val < 3 → k ≠ n) → 41327 ≤ vl i.val * vl j.val * vl k.val * vl n.val := by decide
        simp only [List.nodup_cons, List.mem_cons, List.not_mem_nil, or_false, not_or] at e2
        have h5 := hlo i j k n i1 i2 i3 i4 (fun h => ⟨fun h9 => e2.1.1 (by rw [← f1 h, h9]; rw [h9] at h; exact f2 h), fun h9 => e2.1.2.1 (by rw [← f1 h, h9]; rw [h9] at h; exact f3 h), fun h9 => e2.1.2.2 (by rw [← f1 h, h9]; rw [h9] at h; exact f4 h)⟩) (fun h => ⟨fun h9 => e2.2.1.1 (by rw [← f2 h, h9]; rw [h9] at h; exact f3 h), fun h9 => e2.2.1.2 (by rw [← f2 h, h9]; rw [h9] at h; exact f4 h)⟩) (fun h => fun h9 => e2.2.2.1 (by rw [← f3 h, h9]; rw [h9] at h; exact f4 h))
        have h6 := mul_lo (Int.mul_nonneg (Int.mul_nonneg (hv i) (hv j)) (hv k)) (mul_lo (Int.mul_nonneg (hv i) (hv j)) (mul_lo (hv i) h1 (hv j) h2) (hv k) h3) (hv n) h4
        have h8 : (1 : Int) * x * y * z * w ≤ a := hle2
        have h9 : (1 : Int) * x * y * z * w = x * y * z * w := by grind
        omega
