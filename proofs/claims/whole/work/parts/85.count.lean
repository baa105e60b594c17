/-! how many reduced forms there are: two ways to count -/
def smZ (f : Int → Int) : Int → Nat → Int
  | _, 0 => 0
  | x, n + 1 => f x + smZ f (x + 1) n
theorem smZ_add (f : Int → Int) (m n : Nat) : ∀ x, smZ f x (m + n) = smZ f x m + smZ f (x + m) n := by
  induction m with
  | zero => intro x; rw [Nat.zero_add]; simp [smZ]
  | succ m ih =>
    intro x
    rw [show m + 1 + n = (m + n) + 1 by omega, smZ, smZ, ih (x + 1), show x + 1 + (m : Int) = x + ((m + 1 : Nat) : Int) by omega]; omega
theorem smZ_0 (f : Int → Int) (n : Nat) : ∀ x : Int, (∀ y : Int, x ≤ y → y < x + n → f y = 0) → smZ f x n = 0 := by
  induction n with
  | zero => intro x _; rfl
  | succ n ih =>
    intro x h
    rw [smZ, h x (by omega) (by omega), ih (x + 1) (fun y h1 h2 => h y (by omega) (by omega))]; rfl
theorem smZ_c (f g : Int → Int) (n : Nat) : ∀ x : Int, (∀ y : Int, x ≤ y → y < x + n → f y = g y) → smZ f x n = smZ g x n := by
  induction n with
  | zero => intro x _; rfl
  | succ n ih =>
    intro x h
    rw [smZ, smZ, h x (by omega) (by omega), ih (x + 1) (fun y h1 h2 => h y (by omega) (by omega))]
theorem smZ_plus (f g : Int → Int) (n : Nat) : ∀ x, smZ (fun y => f y + g y) x n = smZ f x n + smZ g x n := by
  induction n with
  | zero => intro x; rfl
  | succ n ih => intro x; rw [smZ, smZ, smZ, ih]; omega
theorem smZ_swap (w : Int → Int → Int) (y : Int) (n m : Nat) : ∀ x, smZ (fun a => smZ (fun b => w a b) y m) x n = smZ (fun b => smZ (fun a => w a b) x n) y m := by
  induction n with
  | zero => intro x; exact (smZ_0 _ m y (fun _ _ _ => rfl)).symm
  | succ n ih => intro x; rw [smZ, ih (x + 1), ← smZ_plus]; rfl
theorem smZ_refl (f : Int → Int) (n : Nat) : smZ f (-(n : Int)) (2 * n + 1) = f 0 + smZ (fun b => f b + f (-b)) 1 n := by
  induction n with
  | zero => simp [smZ]
  | succ n ih =>
    rw [show 2 * (n + 1) + 1 = (2 * n + 1) + 1 + 1 by omega, smZ, smZ_add f (2 * n + 1) 1, show -((n + 1 : Nat) : Int) + 1 = -(n : Int) by omega, ih, smZ_add _ n 1]
    simp only [smZ]
    rw [show -(n : Int) + ((2 * n + 1 : Nat) : Int) = 1 + n by omega, show -((n + 1 : Nat) : Int) = -(1 + (n : Int)) by omega]; omega
/-- a reduced form with first numbers a, b -/
def isFm (d a b : Int) : Prop := (b * b + d) % (4 * a) = 0 ∧ isRd a b ((b * b + d) / (4 * a)) ∧ fPr a b ((b * b + d) / (4 * a))
noncomputable def fmI (d a b : Int) : Int := bI (isFm d a b)
noncomputable def wgI (d a b : Int) : Int := fmI d a b + fmI d a (-b)
noncomputable def cntN (d : Int) : Int := smZ (fun b => smZ (fun a => wgI d a b) 1 130) 1 130
theorem fm_c {d a b : Int} (ha : 0 < a) (h : (b * b + d) % (4 * a) = 0) : 4 * a * ((b * b + d) / (4 * a)) = b * b + d := Int.mul_ediv_cancel' (Int.dvd_of_emod_eq_zero h)
theorem fm_a {d a b : Int} (ha : 0 < a) (h : isFm d a b) : 3 * (a * a) ≤ d := rd_bound ha h.2.1 (by rw [fm_c ha h.1]; omega)
theorem fm_odd {d a b : Int} (hd : d % 8 = 7) (h : isFm d a b) : b % 2 = 1 := by
  have h1 : (4 : Int) ∣ b * b + d := Int.dvd_trans (Int.dvd_mul_right 4 a) (Int.dvd_of_emod_eq_zero h.1)
  rcases Int.emod_two_eq b with h2 | h2
  · obtain ⟨k, hk⟩ : ∃ k, b = 2 * k := ⟨b / 2, by omega⟩
    have : b * b = 4 * (k * k) := by rw [hk]; grind
    omega
  · exact h2
theorem smZ_to (f : Int → Int) (a : Int) (h0 : 0 ≤ a) (ha : a ≤ 130) (hf : ∀ y, (y ≤ -a ∨ a < y) → f y = 0) : smZ f (-a + 1) (2 * a).toNat = smZ f (-130) 261 := by
  obtain ⟨n, rfl⟩ : ∃ n : Nat, a = n := ⟨a.toNat, by omega⟩
  rw [show (2 * (n : Int)).toNat = 2 * n by omega, show (261 : Nat) = (131 - n) + (2 * n + (130 - n)) by omega, smZ_add, smZ_add, smZ_0 f (131 - n) (-130) (fun y h1 h2 => hf y (Or.inl (by omega))), smZ_0 f (130 - n) _ (fun y h1 h2 => hf y (Or.inr (by omega))), show (-130 : Int) + ((131 - n : Nat) : Int) = -(n : Int) + 1 by omega]; omega
/-- the reference's row for one a -/
theorem row_a {d a : Int} (hd : d % 8 = 7) (h0 : 0 ≤ a) (ha : a ≤ 130) : smZ (fun b => fmI d a b) (-a + 1) (2 * a).toNat = smZ (fun b => wgI d a b) 1 130 := by
  rw [smZ_to (fun b => fmI d a b) a h0 ha (fun y hy => show fmI d a y = 0 from bI_0 (fun h9 => by have := h9.2.1; omega))]
  have h1 := smZ_refl (fun b => fmI d a b) 130
  rw [show fmI d a 0 = 0 from bI_0 (fun h9 => absurd (fm_odd hd h9) (by decide))] at h1
  rw [show (-130 : Int) = -((130 : Nat) : Int) by rfl, h1]; show 0 + smZ (fun b => wgI d a b) 1 130 = _; omega
theorem cnt_a {d : Int} : cntN d = smZ (fun a => smZ (fun b => wgI d a b) 1 130) 1 130 := (smZ_swap (fun a b => wgI d a b) 1 130 130 1).symm
/-- the reference's loop ends: nothing is left -/
theorem cnt_out {d a : Int} (ha : 1 ≤ a) (h : d < 3 * (a * a)) (n : Nat) : smZ (fun a => smZ (fun b => wgI d a b) 1 130) a n = 0 :=
  smZ_0 _ n a (fun y h1 _ => smZ_0 _ 130 1 (fun b _ _ => by
    have h3 : a * a ≤ y * y := Int.mul_le_mul h1 h1 (by omega) (by omega)
    show fmI d y b + fmI d y (-b) = 0
    rw [show fmI d y b = 0 from bI_0 (fun h9 => by have := fm_a (by omega) h9; omega), show fmI d y (-b) = 0 from bI_0 (fun h9 => by have := fm_a (by omega) h9; omega)]; rfl))
/-- the class's weight -/
theorem wg_cls {d a b : Int} (hd : d % 8 = 7) (hb : 1 ≤ b) (hba : b ≤ a) (hac : 4 * (a * a) ≤ b * b + d) (hdv : (b * b + d) % (4 * a) = 0) (hp : fPr a b ((b * b + d) / (4 * a))) : wgI d a b = if a = b ∨ 4 * (a * a) = b * b + d then 1 else 2 := by
  have hc := fm_c (show 0 < a by omega) hdv
  have hle : a ≤ (b * b + d) / (4 * a) := by
    apply Int.le_of_mul_le_mul_left (a := 4 * a) _ (by omega)
    rw [hc]; grind
  have heq : a = (b * b + d) / (4 * a) ↔ 4 * (a * a) = b * b + d := by
    constructor
    · intro h9; rw [← hc]; rw [← h9]; grind
    · intro h9; apply Int.eq_of_mul_eq_mul_left (show (4 * a) ≠ 0 by omega); rw [hc]; grind
  have h1 : isFm d a b := ⟨hdv, ⟨by omega, hba, hle, fun _ => by omega⟩, hp⟩
  have hsq : -b * -b = b * b := Int.neg_mul_neg b b
  have hp' : fPr a (-b) ((b * b + d) / (4 * a)) := by obtain ⟨x, y, z, h⟩ := hp; exact ⟨x, -y, z, by rw [← h]; grind⟩
  have h2 : isFm d a (-b) ↔ ¬ (a = b ∨ 4 * (a * a) = b * b + d) := by
    unfold isFm; rw [hsq]
    constructor
    · intro h9 h8
      have h7 := h9.2.1
      rcases h8 with h8 | h8
      · omega
      · have := h7.2.2.2 (heq.mpr h8); omega
    · intro h8
      refine ⟨hdv, ⟨by omega, by omega, hle, fun h9 => absurd (Or.inr (heq.mp h9)) h8⟩, hp'⟩
  unfold wgI
  rw [show fmI d a b = 1 from bI_1 h1]
  by_cases h3 : a = b ∨ 4 * (a * a) = b * b + d
  · rw [if_pos h3, show fmI d a (-b) = 0 from bI_0 (fun h9 => h2.mp h9 h3)]; rfl
  · rw [if_neg h3, show fmI d a (-b) = 1 from bI_1 (h2.mpr h3)]; rfl
theorem wg_not {d a b : Int} (h : ¬ ((b * b + d) % (4 * a) = 0 ∧ fPr a b ((b * b + d) / (4 * a)))) : wgI d a b = 0 := by
  have hsq : -b * -b = b * b := Int.neg_mul_neg b b
  unfold wgI
  rw [show fmI d a b = 0 from bI_0 (fun h9 => h ⟨h9.1, h9.2.2⟩), show fmI d a (-b) = 0 from bI_0 (fun h9 => by
    unfold isFm at h9; rw [hsq] at h9
    obtain ⟨x, y, z, h8⟩ := h9.2.2
    exact h ⟨h9.1, ⟨x, -y, z, by rw [← h8]; grind⟩⟩)]; rfl
theorem wg_low {d a b : Int} (h : a < b) : wgI d a b = 0 := by
  unfold wgI
  rw [show fmI d a b = 0 from bI_0 (fun h9 => by have := h9.2.1; omega), show fmI d a (-b) = 0 from bI_0 (fun h9 => by have := h9.2.1; omega)]; rfl
theorem wg_high {d a b : Int} (ha : 1 ≤ a) (h : b * b + d < 4 * (a * a)) : wgI d a b = 0 := by
  have hsq : -b * -b = b * b := Int.neg_mul_neg b b
  have key : ∀ c, c * c = b * b → ¬ isFm d a c := fun c hc h9 => by
    have h1 := fm_c (show 0 < a by omega) h9.1
    have h2 := h9.2.1.2.2.1
    have h3 : 4 * a * a ≤ 4 * a * ((c * c + d) / (4 * a)) := Int.mul_le_mul_of_nonneg_left h2 (by omega)
    rw [h1, hc] at h3; grind
  unfold wgI
  rw [show fmI d a b = 0 from bI_0 (key b rfl), show fmI d a (-b) = 0 from bI_0 (key (-b) hsq)]; rfl
theorem wg_even {d a b : Int} (hd : d % 8 = 7) (h : b % 2 = 0) : wgI d a b = 0 := by
  unfold wgI
  rw [show fmI d a b = 0 from bI_0 (fun h9 => by have := fm_odd hd h9; omega), show fmI d a (-b) = 0 from bI_0 (fun h9 => by have := fm_odd hd h9; omega)]; rfl
/-- the class's column for one b begins at b -/
theorem col_b {d b : Int} (hb : 1 ≤ b) (hb2 : b ≤ 130) : smZ (fun a => wgI d a b) 1 130 = smZ (fun a => wgI d a b) b (131 - b).toNat := by
  obtain ⟨n, rfl⟩ : ∃ n : Nat, b = n := ⟨b.toNat, by omega⟩
  rw [show (130 : Nat) = (n - 1) + (131 - (n : Int)).toNat by omega, smZ_add, smZ_0 _ (n - 1) 1 (fun y h1 h2 => wg_low (by omega)), show (1 : Int) + ((n - 1 : Nat) : Int) = n by omega]; omega
theorem col_out {d a b : Int} (ha : 1 ≤ a) (h : b * b + d < 4 * (a * a)) (n : Nat) : smZ (fun a => wgI d a b) a n = 0 :=
  smZ_0 _ n a (fun y h1 _ => wg_high (by omega) (by
    have h3 : a * a ≤ y * y := Int.mul_le_mul h1 h1 (by omega) (by omega)
    omega))
/-- the class's loop ends: nothing is left -/
theorem cnt_outb {d b : Int} (hb : 1 ≤ b) (h : d < 3 * (b * b)) (n : Nat) : smZ (fun b => smZ (fun a => wgI d a b) 1 130) b n = 0 :=
  smZ_0 _ n b (fun y h1 _ => smZ_0 _ 130 1 (fun a ha _ => by
    have h3 : b * b ≤ y * y := Int.mul_le_mul h1 h1 (by omega) (by omega)
    by_cases hay : a < y
    · exact wg_low hay
    · refine wg_high ha ?_
      have : y * y ≤ a * a := Int.mul_le_mul (by omega) (by omega) (by omega) (by omega)
      omega))
theorem cnt_two {d b : Int} (hd : d % 8 = 7) (hb : b % 2 = 1) (n : Nat) : smZ (fun b => smZ (fun a => wgI d a b) 1 130) b (n + 2) = smZ (fun a => wgI d a b) 1 130 + smZ (fun b => smZ (fun a => wgI d a b) 1 130) (b + 2) n := by
  have h1 : smZ (fun a => wgI d a (b + 1)) 1 130 = 0 := smZ_0 _ 130 1 (fun _ _ _ => wg_even hd (by omega))
  have h2 := smZ_add (fun b => smZ (fun a => wgI d a b) 1 130) 2 n b
  rw [show n + 2 = 2 + n by omega, h2, show b + ((2 : Nat) : Int) = b + 2 by omega]
  show smZ (fun a => wgI d a b) 1 130 + (smZ (fun a => wgI d a (b + 1)) 1 130 + 0) + _ = _
  rw [h1]; omega
