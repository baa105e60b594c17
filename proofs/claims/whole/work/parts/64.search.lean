/-! primes and values of forms -/
def isP (n : Int) : Prop := 2 ≤ n ∧ ∀ k : Int, 1 < k → k ∣ n → k = n
theorem isP_ex : ∀ (w : Nat) (n : Int), n.toNat < w → 2 ≤ n → ∃ π, isP π ∧ π ∣ n := by
  intro w
  induction w with
  | zero => intro n h; exact absurd h (Nat.not_lt_zero _)
  | succ w ih =>
    intro n hw hn
    by_cases h : ∃ k : Int, 1 < k ∧ k ∣ n ∧ k ≠ n
    · obtain ⟨k, h1, h2, h3⟩ := h
      have h4 := Int.le_of_dvd (by omega) h2
      obtain ⟨π, hp, hd⟩ := ih k (by omega) (by omega)
      exact ⟨π, hp, Int.dvd_trans hd h2⟩
    · refine ⟨n, ⟨hn, fun k h1 h2 => ?_⟩, Int.dvd_refl n⟩
      exact Decidable.byContradiction (fun h3 => h ⟨k, h1, h2, h3⟩)
theorem isP_gcd {π x : Int} (hp : isP π) (h : ¬ π ∣ x) : Int.gcd π x = 1 := by
  have h1 : ((Int.gcd π x : Nat) : Int) ∣ π := Int.gcd_dvd_left π x
  have h2 : ((Int.gcd π x : Nat) : Int) ∣ x := Int.gcd_dvd_right π x
  rcases (show (Int.gcd π x) = 0 ∨ (Int.gcd π x) = 1 ∨ 1 < (Int.gcd π x) by omega) with h3 | h3 | h3
  · rw [h3] at h1
    have := Int.zero_dvd.mp h1
    have := hp.1
    omega
  · exact h3
  · have := hp.2 _ (by omega) h1
    rw [this] at h2
    exact absurd h2 h
theorem isP_mul {π x y : Int} (hp : isP π) (h : π ∣ x * y) : π ∣ x ∨ π ∣ y := by
  by_cases h1 : π ∣ x
  · exact Or.inl h1
  · right
    have h2 := isP_gcd hp h1
    have h3 : π.natAbs ∣ x.natAbs * y.natAbs := by rw [← Int.natAbs_mul]; exact Int.natAbs_dvd_natAbs.mpr h
    exact Int.natAbs_dvd_natAbs.mp (Nat.Coprime.dvd_of_dvd_mul_left (show Nat.Coprime π.natAbs x.natAbs from h2) h3)
theorem isP_pow {π x : Int} (hp : isP π) (n : Nat) (h : π ∣ x ^ n) : π ∣ x := by
  induction n with
  | zero =>
    rw [Int.pow_zero] at h
    have := Int.le_of_dvd (by decide) h
    have := hp.1
    omega
  | succ n ih =>
    rw [Int.pow_succ] at h
    rcases isP_mul hp h with h | h
    · exact ih h
    · exact h
abbrev pt : Type := Int × Int
def gv (p q r : Int) (v : pt) : Int := p * v.1 * v.1 + q * v.1 * v.2 + r * v.2 * v.2
def dt (v w : pt) : Int := v.1 * w.2 - v.2 * w.1
/-- three points apart are no zeros of a form -/
theorem two_zero {p q r π : Int} (hp : isP π) (hf : fPr p q r) {u v w : pt} (h1 : ¬ π ∣ dt v w) (h2 : ¬ π ∣ dt u w) (h3 : ¬ π ∣ dt v u) (hu : π ∣ gv p q r u) (hv : π ∣ gv p q r v) (hw : π ∣ gv p q r w) : False := by
  obtain ⟨x, y, z, e⟩ := hf
  have key : ∀ t : pt, dt v w * dt v w * gv p q r t = dt t w * dt t w * gv p q r v + dt v t * dt v t * gv p q r w + dt t w * dt v t * (2 * p * v.1 * w.1 + q * (v.1 * w.2 + v.2 * w.1) + 2 * r * v.2 * w.2) := by
    intro t; unfold dt gv; grind
  have hB : π ∣ 2 * p * v.1 * w.1 + q * (v.1 * w.2 + v.2 * w.1) + 2 * r * v.2 * w.2 := by
    have k := key u
    have d1 : π ∣ dt u w * dt v u * (2 * p * v.1 * w.1 + q * (v.1 * w.2 + v.2 * w.1) + 2 * r * v.2 * w.2) := by
      have e2 : dt u w * dt v u * (2 * p * v.1 * w.1 + q * (v.1 * w.2 + v.2 * w.1) + 2 * r * v.2 * w.2) = dt v w * dt v w * gv p q r u - (dt u w * dt u w * gv p q r v + dt v u * dt v u * gv p q r w) := by omega
      rw [e2]
      exact Int.dvd_sub (Int.dvd_mul_of_dvd_right hu) (Int.dvd_add (Int.dvd_mul_of_dvd_right hv) (Int.dvd_mul_of_dvd_right hw))
    rcases isP_mul hp d1 with h | h
    · rcases isP_mul hp h with h | h
      · exact absurd h h2
      · exact absurd h h3
    · exact h
  have all : ∀ t : pt, π ∣ gv p q r t := by
    intro t
    have d1 : π ∣ dt v w * dt v w * gv p q r t := by
      rw [key t]
      exact Int.dvd_add (Int.dvd_add (Int.dvd_mul_of_dvd_right hv) (Int.dvd_mul_of_dvd_right hw)) (Int.dvd_mul_of_dvd_right hB)
    rcases isP_mul hp d1 with h | h
    · rcases isP_mul hp h with h | h
      · exact absurd h h1
      · exact absurd h h1
    · exact h
  have a1 : π ∣ p := by
    have := all (1, 0)
    have e2 : gv p q r (1, 0) = p := by unfold gv; grind
    rwa [e2] at this
  have a2 : π ∣ r := by
    have := all (0, 1)
    have e2 : gv p q r (0, 1) = r := by unfold gv; grind
    rwa [e2] at this
  have a3 : π ∣ q := by
    have := all (1, 1)
    have e2 : q = gv p q r (1, 1) - p - r := by unfold gv; grind
    rw [e2]
    exact Int.dvd_sub (Int.dvd_sub this a1) a2
  have a4 : π ∣ 1 := by
    rw [← e]
    exact Int.dvd_add (Int.dvd_add (Int.dvd_mul_of_dvd_right a1) (Int.dvd_mul_of_dvd_right a3)) (Int.dvd_mul_of_dvd_right a2)
  have := Int.le_of_dvd (by decide) a4
  have := hp.1
  omega
theorem cop_mul {x y a : Int} (hg : Int.gcd x y = 1) (hx : x ∣ a) (hy : y ∣ a) : x * y ∣ a := by
  have h := Nat.Coprime.mul_dvd_of_dvd_of_dvd (show Nat.Coprime x.natAbs y.natAbs from hg) (Int.natAbs_dvd_natAbs.mpr hx) (Int.natAbs_dvd_natAbs.mpr hy)
  rw [← Int.natAbs_mul] at h
  exact Int.natAbs_dvd_natAbs.mp h
def apart (B : Int) (F : List pt) : Prop := F.Pairwise (fun v w => dt v w ∣ B ^ 8)
theorem apart_no {B π : Int} {v w : pt} (hp : isP π) (hB : ¬ π ∣ B) (h : dt v w ∣ B ^ 8) : ¬ π ∣ dt v w := fun h1 => hB (isP_pow hp 8 (Int.dvd_trans h1 h))
theorem dt_neg (v w : pt) : dt w v = -dt v w := by unfold dt; grind
theorem dt_no {π : Int} {v w : pt} (h : ¬ π ∣ dt v w) : ¬ π ∣ dt w v := by rw [dt_neg]; exact fun h1 => h (Int.dvd_neg.mp h1)
theorem len_filter {α : Type} (f : α → Bool) (l : List α) : l.length = (l.filter f).length + (l.filter (fun x => !f x)).length := by
  induction l with
  | nil => rfl
  | cons x l ih =>
    cases h : f x <;> simp [List.filter_cons, h] <;> omega
def bad (p q r a B : Int) (v : pt) (π : Int) : Prop := isP π ∧ ¬ π ∣ B ∧ π ∣ a ∧ π ∣ gv p q r v
theorem bad_list {p q r a B : Int} (hf : fPr p q r) : ∀ (m : Nat) (F : List pt), apart B F → 2 * m + 1 ≤ F.length → (∀ v ∈ F, ∃ π, bad p q r a B v π) → ∃ Ps : List Int, Ps.length = m + 1 ∧ Ps.Nodup ∧ ∀ π ∈ Ps, ∃ v ∈ F, bad p q r a B v π := by
  intro m
  induction m with
  | zero =>
    intro F _ hl hb
    cases F with
    | nil => simp at hl
    | cons v F =>
      obtain ⟨π, h⟩ := hb v List.mem_cons_self
      refine ⟨[π], rfl, by simp, fun x hx => ?_⟩
      rw [List.mem_singleton.mp hx]
      exact ⟨v, List.mem_cons_self, h⟩
  | succ m ih =>
    intro F hA hl hb
    cases F with
    | nil => simp at hl
    | cons v F =>
      obtain ⟨π, h⟩ := hb v List.mem_cons_self
      have hA2 := List.pairwise_cons.mp hA
      have hk : (F.filter (fun w => decide (π ∣ gv p q r w))).length ≤ 1 := by
        have hK : (F.filter (fun w => decide (π ∣ gv p q r w))).Pairwise (fun v w => dt v w ∣ B ^ 8) := List.Pairwise.filter _ hA2.2
        have hm : ∀ w ∈ F.filter (fun w => decide (π ∣ gv p q r w)), w ∈ F ∧ π ∣ gv p q r w := fun w hw => by
          have := List.mem_filter.mp hw
          exact ⟨this.1, of_decide_eq_true this.2⟩
        generalize F.filter (fun w => decide (π ∣ gv p q r w)) = K at hK hm ⊢
        match K, hK, hm with
        | [], _, _ => simp
        | [_], _, _ => simp
        | u :: w :: K, hK, hm =>
          exfalso
          have e1 := hm u List.mem_cons_self
          have e2 := hm w (List.mem_cons_of_mem _ List.mem_cons_self)
          have e3 := (List.pairwise_cons.mp hK).1 w List.mem_cons_self
          exact two_zero h.1 hf (u := u) (v := v) (w := w) (apart_no h.1 h.2.1 (hA2.1 w e2.1)) (apart_no h.1 h.2.1 e3) (apart_no h.1 h.2.1 (hA2.1 u e1.1)) e1.2 h.2.2.2 e2.2
      have hlen := len_filter (fun w => decide (π ∣ gv p q r w)) F
      simp only [List.length_cons] at hl
      obtain ⟨Ps, q1, q2, q3⟩ := ih (F.filter (fun w => !decide (π ∣ gv p q r w))) (List.Pairwise.filter _ hA2.2) (by omega) (fun w hw => hb w (List.mem_cons_of_mem _ (List.mem_filter.mp hw).1))
      refine ⟨π :: Ps, by simp [q1], List.nodup_cons.mpr ⟨fun hx => ?_, q2⟩, fun x hx => ?_⟩
      · obtain ⟨w, hw, hb2⟩ := q3 π hx
        have := (List.mem_filter.mp hw).2
        simp [hb2.2.2.2] at this
      · rcases List.mem_cons.mp hx with rfl | hx
        · exact ⟨v, List.mem_cons_self, h⟩
        · obtain ⟨w, hw, hb2⟩ := q3 x hx
          exact ⟨w, List.mem_cons_of_mem _ (List.mem_filter.mp hw).1, hb2⟩
/-- distinct primes that divide a, and a number that none of them divides: their product divides a -/
theorem prod_dvd {a c : Int} : ∀ (Ps : List Int), Ps.Nodup → (∀ π ∈ Ps, isP π ∧ π ∣ a ∧ ¬ π ∣ c) → c ∣ a → Ps.foldl (· * ·) c ∣ a := by
  intro Ps
  induction Ps generalizing c with
  | nil => intro _ _ h; exact h
  | cons π Ps ih =>
    intro hn h hc
    have h1 := h π List.mem_cons_self
    have hn2 := List.nodup_cons.mp hn
    show Ps.foldl (· * ·) (c * π) ∣ a
    refine ih hn2.2 (fun x hx => ?_) ?_
    · have h2 := h x (List.mem_cons_of_mem _ hx)
      refine ⟨h2.1, h2.2.1, fun h3 => ?_⟩
      rcases isP_mul h2.1 h3 with h4 | h4
      · exact h2.2.2 h4
      · have h5 := h1.1.2 x (by have := h2.1.1; omega) h4
        rw [h5] at hx
        exact hn2.1 hx
    · rw [Int.mul_comm]
      exact cop_mul (isP_gcd h1.1 h1.2.2) h1.2.1 hc
def vl : Nat → Int
  | 0 => 7
  | 1 => 11
  | 2 => 13
  | _ => 17
theorem isP_lo {π : Int} (hp : isP π) (h : ¬ π ∣ 30) : ∃ i : Fin 4, vl i.val ≤ π ∧ (i.val < 3 → vl i.val = π) := by
  have h2 : ¬ (2 : Int) ∣ π := fun h9 => h (by rw [← hp.2 2 (by decide) h9]; decide)
  have h3 : ¬ (3 : Int) ∣ π := fun h9 => h (by rw [← hp.2 3 (by decide) h9]; decide)
  have h5 : ¬ (5 : Int) ∣ π := fun h9 => h (by rw [← hp.2 5 (by decide) h9]; decide)
  have h1 := hp.1
  have g2 : π % 2 = 1 := by omega
  have g3 : π % 3 = 1 ∨ π % 3 = 2 := by omega
  have g5 : π % 5 = 1 ∨ π % 5 = 2 ∨ π % 5 = 3 ∨ π % 5 = 4 := by omega
  clear h h2 h3 h5
  have g7 : 7 ≤ π := by
    rcases g3 with g3 | g3 <;> rcases g5 with g5 | g5 | g5 | g5 <;> omega
  rcases (show π = 7 ∨ π = 11 ∨ π = 13 ∨ 17 ≤ π by rcases g3 with g3 | g3 <;> rcases g5 with g5 | g5 | g5 | g5 <;> omega) with h | h | h | h
  · exact ⟨0, by rw [h]; decide, fun _ => h.symm⟩
  · exact ⟨1, by rw [h]; decide, fun _ => h.symm⟩
  · exact ⟨2, by rw [h]; decide, fun _ => h.symm⟩
  · exact ⟨3, h, fun h9 => absurd h9 (by decide)⟩
theorem mul_lo {x y m n : Int} (h0 : 0 ≤ m) (h1 : m ≤ x) (h2 : 0 ≤ n) (h3 : n ≤ y) : m * n ≤ x * y := Int.mul_le_mul h1 h3 h2 (by omega)
theorem lo2 : ∀ i j : Fin 4, (i.val < 3 → i ≠ j) → 77 ≤ vl i.val * vl j.val := by decide
theorem lo3 : ∀ i j k : Fin 4, (i.val < 3 → i ≠ j ∧ i ≠ k) → (j.val < 3 → j ≠ k) → 1001 ≤ vl i.val * vl j.val * vl k.val := by decide
theorem lo4 : ∀ i j k n : Fin 4, (i.val < 3 → i ≠ j ∧ i ≠ k ∧ i ≠ n) → (j.val < 3 → j ≠ k ∧ j ≠ n) → (k.val < 3 → k ≠ n) → 17017 ≤ vl i.val * vl j.val * vl k.val * vl n.val := by decide
