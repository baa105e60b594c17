def tb7 : List (List pt) := [[(0, 1), (7, -6), (7, -5), (7, -4), (7, -3), (7, -2), (7, -1)], [(1, 0), (1, -7), (1, 7), (2, -7), (2, 7), (3, -7), (3, 7)], [(1, 1), (3, -4), (4, -3), (2, -5), (5, -2), (1, -6), (6, -1)], [(1, 2), (2, -3), (3, -1), (4, 1), (1, -5), (5, -4), (5, 3)], [(2, -1), (1, 3), (3, 2), (1, -4), (3, -5), (4, 5), (5, 1)], [(2, 1), (1, -3), (3, -2), (1, 4), (3, 5), (4, -5), (5, -1)], [(1, -2), (2, 3), (3, 1), (4, -1), (1, 5), (5, -3), (5, 4)], [(1, -1), (3, 4), (4, 3), (2, 5), (5, 2), (1, 6), (6, 1)]]
def szT : List (List Int) := [[2, 2, 2, 2], [2, 2, 3, 7], [2, 3, 4, 7], [3, 5, 7, 10], [2, 3, 3, 7], [3, 5, 7, 9], [3, 6, 8, 14], [6, 9, 14, 2]]
def pat5 : List (Nat × Nat) := [(9, 9), (0, 1), (0, 2), (0, 3), (0, 4), (0, 5), (1, 2), (1, 3), (1, 4), (1, 5), (2, 3), (2, 4), (2, 5), (3, 4), (3, 5), (4, 5)]
def c2N (v : pt) : Nat := if v.1 % 2 = 0 then 0 else (1 + v.2 % 2).toNat
def c3N (v : pt) : Nat := if v.1 % 3 = 0 then 0 else (1 + (v.2 * v.1) % 3).toNat
def c5N (v : pt) : Nat := if v.1 % 5 = 0 then 0 else (1 + (v.2 * (v.1 * v.1 * v.1)) % 5).toNat
def c7N (v : pt) : Nat := if v.1 % 7 = 0 then 0 else (1 + (v.2 * (v.1 * v.1 * v.1 * v.1 * v.1)) % 7).toNat
def famT (q2 q3 q5 m : Nat) : List pt := (((tb.getD q2 []).getD q3 []).getD q5 []).getD m []
def b01 (q : Nat) : Nat := if q = 0 then 0 else 1
def sizT (q2 q3 q5 m : Nat) : Int := (szT.getD (4 * b01 q2 + 2 * b01 q3 + b01 q5) []).getD m 2
def bigT : Nat → Int
  | 0 => 1
  | 1 => 7
  | 2 => 77
  | 3 => 1001
  | _ => 17017
def PqT (q2 q3 q5 : Nat) : Int := (if q2 = 0 then 1 else 2) * ((if q3 = 0 then 1 else 3) * (if q5 = 0 then 1 else 5))
def inB (S : Int) (v : pt) : Bool := decide (0 ≤ v.1) && (decide (v.1 ≤ S) && (decide (-S ≤ v.2) && (decide (v.2 ≤ S) && (Int.gcd v.1 v.2 == 1 && (decide (v.1 ≠ 0) || v.2 == 1)))))
def pwC (B : Int) : List pt → Bool
  | [] => true
  | v :: F => F.all (fun w => decide (dt v w ∣ B ^ 8)) && pwC B F
theorem pwC_apart {B : Int} : ∀ F : List pt, pwC B F = true → apart B F := by
  intro F
  induction F with
  | nil => intro _; exact List.Pairwise.nil
  | cons v F ih =>
    intro h
    simp only [pwC, Bool.and_eq_true, List.all_eq_true, decide_eq_true_eq] at h
    exact List.pairwise_cons.mpr ⟨fun w hw => h.1 w hw, ih h.2⟩
def clC (q2 q3 q5 : Nat) (v : pt) : Bool := (q2 == 0 || c2N v + 1 == q2) && ((q3 == 0 || c3N v + 1 == q3) && (q5 == 0 || (c5N v != (pat5.getD q5 (9, 9)).1 && c5N v != (pat5.getD q5 (9, 9)).2)))
def chkT (q2 q3 q5 m : Nat) : Bool := (famT q2 q3 q5 m).length == 2 * m + 1 && ((famT q2 q3 q5 m).all (fun v => inB (sizT q2 q3 q5 m) v && clC q2 q3 q5 v) && (pwC 30 (famT q2 q3 q5 m) && (decide (2 ≤ sizT q2 q3 q5 m) && (decide (sizT q2 q3 q5 m ≤ 14) && decide (sizT q2 q3 q5 m * sizT q2 q3 q5 m * (sizT q2 q3 q5 m * sizT q2 q3 q5 m) < 44 * (PqT q2 q3 q5 * bigT m))))))
set_option maxRecDepth 100000 in
theorem chk_all : ∀ (q2 : Fin 4) (q3 : Fin 5) (q5 : Fin 16) (m : Fin 4), PqT q2.val q3.val q5.val * bigT m.val ≤ 18257 → chkT q2.val q3.val q5.val m.val = true := by decide +kernel
set_option maxRecDepth 100000 in
theorem chk_7 : ∀ k : Fin 8, (tb7.getD k.val []).length = 7 ∧ (tb7.getD k.val []).all (fun v => inB 8 v && (c7N v == k.val)) = true ∧ pwC 210 (tb7.getD k.val []) = true := by decide +kernel
theorem gv_mod (p q r n : Int) (v : pt) : gv p q r v % n = gv (p % n) (q % n) (r % n) (v.1 % n, v.2 % n) % n := by
  simp [gv, Int.add_emod, Int.mul_emod]
set_option maxRecDepth 100000 in
theorem res_2 : ∀ p q r : Fin 2, ¬ (p.val = 0 ∧ q.val = 0 ∧ r.val = 0) → ∃ i : Fin 3, ∀ x y : Fin 2, ¬ (x.val = 0 ∧ y.val = 0) → c2N ((x.val : Int), (y.val : Int)) = i.val → gv (p.val : Int) (q.val : Int) (r.val : Int) ((x.val : Int), (y.val : Int)) % 2 ≠ 0 := by decide +kernel
set_option maxRecDepth 100000 in
theorem res_3 : ∀ p q r : Fin 3, ¬ (p.val = 0 ∧ q.val = 0 ∧ r.val = 0) → ∃ i : Fin 4, ∀ x y : Fin 3, ¬ (x.val = 0 ∧ y.val = 0) → c3N ((x.val : Int), (y.val : Int)) = i.val → gv (p.val : Int) (q.val : Int) (r.val : Int) ((x.val : Int), (y.val : Int)) % 3 ≠ 0 := by decide +kernel
set_option maxRecDepth 100000 in
theorem res_5 : ∀ p q r : Fin 5, ¬ (p.val = 0 ∧ q.val = 0 ∧ r.val = 0) → ∃ i : Fin 15, ∀ x y : Fin 5, ¬ (x.val = 0 ∧ y.val = 0) → (c5N ((x.val : Int), (y.val : Int)) ≠ (pat5.getD (i.val + 1) (9, 9)).1 ∧ c5N ((x.val : Int), (y.val : Int)) ≠ (pat5.getD (i.val + 1) (9, 9)).2) → gv (p.val : Int) (q.val : Int) (r.val : Int) ((x.val : Int), (y.val : Int)) % 5 ≠ 0 := by decide +kernel
set_option maxRecDepth 100000 in
theorem res_7 : ∀ p q r : Fin 7, ¬ (p.val = 0 ∧ q.val = 0 ∧ r.val = 0) → ∃ i : Fin 8, ∀ x y : Fin 7, ¬ (x.val = 0 ∧ y.val = 0) → c7N ((x.val : Int), (y.val : Int)) = i.val → gv (p.val : Int) (q.val : Int) (r.val : Int) ((x.val : Int), (y.val : Int)) % 7 ≠ 0 := by decide +kernel
theorem c2_mod (v : pt) : c2N (v.1 % 2, v.2 % 2) = c2N v := by
  unfold c2N
  simp [Int.mul_emod]
theorem c3_mod (v : pt) : c3N (v.1 % 3, v.2 % 3) = c3N v := by
  unfold c3N
  simp [Int.mul_emod]
theorem c5_mod (v : pt) : c5N (v.1 % 5, v.2 % 5) = c5N v := by
  unfold c5N
  simp [Int.mul_emod]
theorem c7_mod (v : pt) : c7N (v.1 % 7, v.2 % 7) = c7N v := by
  unfold c7N
  simp [Int.mul_emod]
theorem cls_2 {p q r : Int} (hf : fPr p q r) : ∃ i : Fin 3, ∀ v : pt, Int.gcd v.1 v.2 = 1 → (c2N v + 1 = i.val + 1) → ¬ (2 : Int) ∣ gv p q r v := by
  have hz : ∀ z : Int, ∃ k : Fin 2, z % 2 = (k.val : Int) := fun z => ⟨⟨(z % 2).toNat, by omega⟩, by show z % 2 = ((z % 2).toNat : Int); omega⟩
  obtain ⟨p', hp⟩ := hz p
  obtain ⟨q', hq⟩ := hz q
  obtain ⟨r', hr⟩ := hz r
  have hne : ¬ (p'.val = 0 ∧ q'.val = 0 ∧ r'.val = 0) := by
    rintro ⟨h1, h2, h3⟩
    obtain ⟨x, y, z, e⟩ := hf
    have d1 : (2 : Int) ∣ p := Int.dvd_of_emod_eq_zero (by rw [hp, h1]; rfl)
    have d2 : (2 : Int) ∣ q := Int.dvd_of_emod_eq_zero (by rw [hq, h2]; rfl)
    have d3 : (2 : Int) ∣ r := Int.dvd_of_emod_eq_zero (by rw [hr, h3]; rfl)
    have d4 : (2 : Int) ∣ 1 := by rw [← e]; exact Int.dvd_add (Int.dvd_add (Int.dvd_mul_of_dvd_right d1) (Int.dvd_mul_of_dvd_right d2)) (Int.dvd_mul_of_dvd_right d3)
    exact absurd d4 (by decide)
  obtain ⟨i, hi⟩ := res_2 p' q' r' hne
  refine ⟨i, fun v hg hc hd => ?_⟩
  obtain ⟨x', hx⟩ := hz v.1
  obtain ⟨y', hy⟩ := hz v.2
  have hcm := c2_mod v
  rw [hx, hy] at hcm
  refine hi x' y' ?_ ?_ ?_
  · rintro ⟨h1, h2⟩
    have d1 : (2 : Int) ∣ v.1 := Int.dvd_of_emod_eq_zero (by rw [hx, h1]; rfl)
    have d2 : (2 : Int) ∣ v.2 := Int.dvd_of_emod_eq_zero (by rw [hy, h2]; rfl)
    have d3 := Int.dvd_coe_gcd d1 d2
    rw [hg] at d3
    exact absurd d3 (by decide)
  · rw [hcm]; exact (by omega)
  · have h9 := Int.emod_eq_zero_of_dvd hd
    rw [gv_mod, hp, hq, hr, hx, hy] at h9
    exact h9
theorem cls_3 {p q r : Int} (hf : fPr p q r) : ∃ i : Fin 4, ∀ v : pt, Int.gcd v.1 v.2 = 1 → (c3N v + 1 = i.val + 1) → ¬ (3 : Int) ∣ gv p q r v := by
  have hz : ∀ z : Int, ∃ k : Fin 3, z % 3 = (k.val : Int) := fun z => ⟨⟨(z % 3).toNat, by omega⟩, by show z % 3 = ((z % 3).toNat : Int); omega⟩
  obtain ⟨p', hp⟩ := hz p
  obtain ⟨q', hq⟩ := hz q
  obtain ⟨r', hr⟩ := hz r
  have hne : ¬ (p'.val = 0 ∧ q'.val = 0 ∧ r'.val = 0) := by
    rintro ⟨h1, h2, h3⟩
    obtain ⟨x, y, z, e⟩ := hf
    have d1 : (3 : Int) ∣ p := Int.dvd_of_emod_eq_zero (by rw [hp, h1]; rfl)
    have d2 : (3 : Int) ∣ q := Int.dvd_of_emod_eq_zero (by rw [hq, h2]; rfl)
    have d3 : (3 : Int) ∣ r := Int.dvd_of_emod_eq_zero (by rw [hr, h3]; rfl)
    have d4 : (3 : Int) ∣ 1 := by rw [← e]; exact Int.dvd_add (Int.dvd_add (Int.dvd_mul_of_dvd_right d1) (Int.dvd_mul_of_dvd_right d2)) (Int.dvd_mul_of_dvd_right d3)
    exact absurd d4 (by decide)
  obtain ⟨i, hi⟩ := res_3 p' q' r' hne
  refine ⟨i, fun v hg hc hd => ?_⟩
  obtain ⟨x', hx⟩ := hz v.1
  obtain ⟨y', hy⟩ := hz v.2
  have hcm := c3_mod v
  rw [hx, hy] at hcm
  refine hi x' y' ?_ ?_ ?_
  · rintro ⟨h1, h2⟩
    have d1 : (3 : Int) ∣ v.1 := Int.dvd_of_emod_eq_zero (by rw [hx, h1]; rfl)
    have d2 : (3 : Int) ∣ v.2 := Int.dvd_of_emod_eq_zero (by rw [hy, h2]; rfl)
    have d3 := Int.dvd_coe_gcd d1 d2
    rw [hg] at d3
    exact absurd d3 (by decide)
  · rw [hcm]; exact (by omega)
  · have h9 := Int.emod_eq_zero_of_dvd hd
    rw [gv_mod, hp, hq, hr, hx, hy] at h9
    exact h9
theorem cls_5 {p q r : Int} (hf : fPr p q r) : ∃ i : Fin 15, ∀ v : pt, Int.gcd v.1 v.2 = 1 → (c5N v ≠ (pat5.getD (i.val + 1) (9, 9)).1 ∧ c5N v ≠ (pat5.getD (i.val + 1) (9, 9)).2) → ¬ (5 : Int) ∣ gv p q r v := by
  have hz : ∀ z : Int, ∃ k : Fin 5, z % 5 = (k.val : Int) := fun z => ⟨⟨(z % 5).toNat, by omega⟩, by show z % 5 = ((z % 5).toNat : Int); omega⟩
  obtain ⟨p', hp⟩ := hz p
  obtain ⟨q', hq⟩ := hz q
  obtain ⟨r', hr⟩ := hz r
  have hne : ¬ (p'.val = 0 ∧ q'.val = 0 ∧ r'.val = 0) := by
    rintro ⟨h1, h2, h3⟩
    obtain ⟨x, y, z, e⟩ := hf
    have d1 : (5 : Int) ∣ p := Int.dvd_of_emod_eq_zero (by rw [hp, h1]; rfl)
    have d2 : (5 : Int) ∣ q := Int.dvd_of_emod_eq_zero (by rw [hq, h2]; rfl)
    have d3 : (5 : Int) ∣ r := Int.dvd_of_emod_eq_zero (by rw [hr, h3]; rfl)
    have d4 : (5 : Int) ∣ 1 := by rw [← e]; exact Int.dvd_add (Int.dvd_add (Int.dvd_mul_of_dvd_right d1) (Int.dvd_mul_of_dvd_right d2)) (Int.dvd_mul_of_dvd_right d3)
    exact absurd d4 (by decide)
  obtain ⟨i, hi⟩ := res_5 p' q' r' hne
  refine ⟨i, fun v hg hc hd => ?_⟩
  obtain ⟨x', hx⟩ := hz v.1
  obtain ⟨y', hy⟩ := hz v.2
  have hcm := c5_mod v
  rw [hx, hy] at hcm
  refine hi x' y' ?_ ?_ ?_
  · rintro ⟨h1, h2⟩
    have d1 : (5 : Int) ∣ v.1 := Int.dvd_of_emod_eq_zero (by rw [hx, h1]; rfl)
    have d2 : (5 : Int) ∣ v.2 := Int.dvd_of_emod_eq_zero (by rw [hy, h2]; rfl)
    have d3 := Int.dvd_coe_gcd d1 d2
    rw [hg] at d3
    exact absurd d3 (by decide)
  · rw [hcm]; exact hc
  · have h9 := Int.emod_eq_zero_of_dvd hd
    rw [gv_mod, hp, hq, hr, hx, hy] at h9
    exact h9
theorem cls_7 {p q r : Int} (hf : fPr p q r) : ∃ i : Fin 8, ∀ v : pt, Int.gcd v.1 v.2 = 1 → (c7N v = i.val) → ¬ (7 : Int) ∣ gv p q r v := by
  have hz : ∀ z : Int, ∃ k : Fin 7, z % 7 = (k.val : Int) := fun z => ⟨⟨(z % 7).toNat, by omega⟩, by show z % 7 = ((z % 7).toNat : Int); omega⟩
  obtain ⟨p', hp⟩ := hz p
  obtain ⟨q', hq⟩ := hz q
  obtain ⟨r', hr⟩ := hz r
  have hne : ¬ (p'.val = 0 ∧ q'.val = 0 ∧ r'.val = 0) := by
    rintro ⟨h1, h2, h3⟩
    obtain ⟨x, y, z, e⟩ := hf
    have d1 : (7 : Int) ∣ p := Int.dvd_of_emod_eq_zero (by rw [hp, h1]; rfl)
    have d2 : (7 : Int) ∣ q := Int.dvd_of_emod_eq_zero (by rw [hq, h2]; rfl)
    have d3 : (7 : Int) ∣ r := Int.dvd_of_emod_eq_zero (by rw [hr, h3]; rfl)
    have d4 : (7 : Int) ∣ 1 := by rw [← e]; exact Int.dvd_add (Int.dvd_add (Int.dvd_mul_of_dvd_right d1) (Int.dvd_mul_of_dvd_right d2)) (Int.dvd_mul_of_dvd_right d3)
    exact absurd d4 (by decide)
  obtain ⟨i, hi⟩ := res_7 p' q' r' hne
  refine ⟨i, fun v hg hc hd => ?_⟩
  obtain ⟨x', hx⟩ := hz v.1
  obtain ⟨y', hy⟩ := hz v.2
  have hcm := c7_mod v
  rw [hx, hy] at hcm
  refine hi x' y' ?_ ?_ ?_
  · rintro ⟨h1, h2⟩
    have d1 : (7 : Int) ∣ v.1 := Int.dvd_of_emod_eq_zero (by rw [hx, h1]; rfl)
    have d2 : (7 : Int) ∣ v.2 := Int.dvd_of_emod_eq_zero (by rw [hy, h2]; rfl)
    have d3 := Int.dvd_coe_gcd d1 d2
    rw [hg] at d3
    exact absurd d3 (by decide)
  · rw [hcm]; exact hc
  · have h9 := Int.emod_eq_zero_of_dvd hd
    rw [gv_mod, hp, hq, hr, hx, hy] at h9
    exact h9
