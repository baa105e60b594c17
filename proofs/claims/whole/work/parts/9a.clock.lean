def T4 (i : Nat) : Nat → Prop := fun r => r ≤ 11 ∨ (14 ≤ r ∧ r < 14 + i) ∨ (30 ≤ r ∧ r < 30 + 3 * i)
def E4 (i : Nat) : Nat → Nat → Nat → Prop := fun r z t => (r = 0 ∧ z = 0 ∧ t = 1) ∨ (r = 1 ∧ 1 ≤ z ∧ z < 10 ∧ t = 1 + z) ∨ (r = 0 ∧ z = 1 ∧ t = 11) ∨ (r = 11 ∧ z < i ∧ t = 14 + z) ∨ (14 ≤ r ∧ r < 14 + i ∧ 6 ≤ z ∧ z < 9 ∧ t = 30 + 3 * (r - 14) + (z - 6))
def K4 (x i : Nat) (M : qM) : Prop := ∃ ad : Nat → Nat, ad 0 = x ∧ Stg M ad (T4 i) (E4 i) ∧ mN M (ad 11) = 16 ∧ mI M (ad 1) 0 = 7
def T5 (j : Nat) : Nat → Prop := fun r => T4 16 r ∨ r = 12 ∨ (78 ≤ r ∧ r < 78 + j)
def E5 (j : Nat) : Nat → Nat → Nat → Prop := fun r z t => E4 16 r z t ∨ (r = 0 ∧ z = 2 ∧ t = 12) ∨ (r = 12 ∧ z < j ∧ t = 78 + z)
def K5 (x j : Nat) (M : qM) : Prop := ∃ ad : Nat → Nat, ad 0 = x ∧ Stg M ad (T5 j) (E5 j) ∧ (mN M (ad 11) = 16 ∧ mN M (ad 12) = 3) ∧ mI M (ad 1) 0 = 7
def sg0 : qS := (0, 0, 0, fun _ => (0, 0, 0), fun _ => 0, fun _ => 0, 0, 0, 0)
def poX4 (x : Nat) : Option Value → qM → Prop := fun v M' => v = none ∧ ∃ ad : Nat → Nat, ad 0 = x ∧ CSt M' ad ∧ CDy sg0 ad (mI M') (mL M') (mR M')
theorem e4_1 (i : Nat) : E4 i 0 0 1 := Or.inl ⟨rfl, rfl, rfl⟩
theorem e4_2 (i : Nat) {z : Nat} (h : 1 ≤ z) (h2 : z < 10) : E4 i 1 z (1 + z) := Or.inr (Or.inl ⟨rfl, h, h2, rfl⟩)
theorem e4_3 (i : Nat) : E4 i 0 1 11 := Or.inr (Or.inr (Or.inl ⟨rfl, rfl, rfl⟩))
theorem e4_4 {i z : Nat} (h : z < i) : E4 i 11 z (14 + z) := Or.inr (Or.inr (Or.inr (Or.inl ⟨rfl, h, rfl⟩)))
theorem e4_5 {i a k : Nat} (h : a < i) (hk : k < 3) : E4 i (14 + a) (6 + k) (30 + 3 * a + k) := Or.inr (Or.inr (Or.inr (Or.inr ⟨by omega, by omega, by omega, by omega, by omega⟩)))
theorem t4 {i r : Nat} (h : r ≤ 11) : T4 i r := Or.inl h
theorem t5 {j r : Nat} (h : r ≤ 12) : T5 j r := by
  by_cases h9 : r = 12
  · exact Or.inr (Or.inl h9)
  · exact Or.inl (Or.inl (by omega))
theorem K4_x {x i : Nat} {M : qM} (h : K4 x i M) : qO M x 4 := by
  obtain ⟨ad, rfl, hS, -⟩ := h
  exact hS.1 0 (t4 (by decide))
theorem K5_x {x i : Nat} {M : qM} (h : K5 x i M) : qO M x 4 := by
  obtain ⟨ad, rfl, hS, -⟩ := h
  exact hS.1 0 (t5 (by decide))
/-- the forms are there, the book's array too -/
theorem K4_0 {x q1 q2 : Nat} {M M1 M2 : qM} (hO : qO M x 4) (h1 : q1 ∉ mP M) (hB : BK (sN M q1 2 0) M1 (up1 (fun _ => x) 1 q1) (fun r => r = 0 ∨ r = 1) (fun _ _ _ => False) 1 1 2 9 (up2 (mI (sN M q1 2 0)) q1 0 7 q1)) (hM2 : M2 = sR M1 x 0 (some q1)) (h2 : q2 ∉ mP M2) : K4 x 0 (sR (sN M2 q2 10 16) x 1 (some q2)) := by
  obtain ⟨ad, hA, hS, hF, hI⟩ := hB
  have a0 : ad 0 = x := hA 0 (Or.inl rfl)
  have a1 : ad 1 = q1 := hA 1 (Or.inr rfl)
  have s1 := Stg_R (k := 0) (r := 0) (t := 1) hS (Or.inl (Or.inl rfl)) (Or.inl (Or.inr rfl)) (fun t h9 => h9.elim id (fun h8 => by omega))
  rw [a0, a1, ← hM2] at s1
  have s2 := Stg_new (r1 := 11) (n := 16) s1 h2 (by unfold TK; omega)
  have e0 : up1 ad 11 q2 0 = x := a0
  have e11 : up1 ad 11 q2 11 = q2 := rfl
  have s3 := Stg_R (k := 1) (r := 0) (t := 11) s2 (Or.inl (Or.inl (Or.inl rfl))) (Or.inr rfl) (fun t h9 => h9.elim (fun h => h.elim id (fun h8 => by omega)) (fun h8 => by omega))
  rw [e0, e11] at s3
  have hq1 : q1 ∈ mP M2 := by rw [hM2]; exact a1 ▸ (hS.1 1 (Or.inl (Or.inr rfl))).1
  refine ⟨up1 ad 11 q2, e0, Stg_eq s3 (fun r => by unfold TK T4; constructor <;> intro h <;> omega) (fun r z t => by
    rintro (h | h | h | h | h)
    · exact Or.inl (Or.inr h)
    · exact Or.inl (Or.inl (Or.inr ⟨h.1, h.2.1, by omega, by omega⟩))
    · exact Or.inr h
    · omega
    · omega), ?_, ?_⟩
  · show va_up (mN M2) q2 16 (up1 ad 11 q2 11) = 16
    rw [e11, va_up_self]
  · show va_up (mI M2) q2 (fun _ => 0) (up1 ad 11 q2 1) 0 = 7
    rw [show up1 ad 11 q2 1 = q1 from a1, va_up_ne _ _ (fun h9 : q1 = q2 => h2 (h9 ▸ hq1)), hM2]
    show mI M1 q1 0 = 7
    have h7 : mI M1 q1 = up2 (mI (sN M q1 2 0)) q1 0 7 q1 := hI
    rw [h7, up2_s]
theorem K4_r {x i : Nat} {M : qM} (h : K4 x i M) : ∃ bk, mR M x 1 = some bk ∧ qAr M bk 10 16 := by
  obtain ⟨ad, rfl, hS, hN, -⟩ := h
  exact ⟨ad 11, (hS.2.2 0 1 11 (e4_3 _)).2.2, (hS.1 11 (t4 (by decide))).1, (hS.1 11 (t4 (by decide))).2, hN⟩
/-- one round more -/
theorem K4_s {x i q bk : Nat} {M : qM} (h : K4 x i M) (hi : i < 16) (hq : q ∉ mP M) (hbk : mR M x 1 = some bk) :
    ∃ (ad : Nat → Nat) (T : Nat → Prop) (E : Nat → Nat → Nat → Prop), Stg (sN M q 3 0) ad T E ∧ T (14 + i) ∧ (∀ k t, ¬ E (14 + i) k t) ∧ (∀ k, k < 3 → ¬ T (30 + 3 * i + k)) ∧ ad (14 + i) = q ∧ ∀ (M1 : qM) (I0 : Nat → Int), BK (sN M q 3 0) M1 ad T E (14 + i) 6 (30 + 3 * i) 3 I0 → K4 x (i + 1) (sR M1 bk i (some q)) ∧ qAr M1 bk 10 16 ∧ qO M1 q 3 := by
  obtain ⟨ad, rfl, hS, hN, hI⟩ := h
  have hb : bk = ad 11 := Option.some.inj (hbk.symm.trans (hS.2.2 0 1 11 (e4_3 _)).2.2)
  subst hb
  have hnT : ¬ T4 i (14 + i) := by unfold T4; omega
  have s1 := Stg_new (r1 := 14 + i) (n := 0) hS hq hnT
  rw [show kdN (14 + i) = 3 by unfold kdN; rw [if_neg (by omega), if_neg (by omega), if_neg (by omega), if_neg (by omega), if_neg (by omega), if_neg (by omega), if_neg (by omega), if_pos (by omega)]] at s1
  have ea : ∀ r, r ≠ 14 + i → up1 ad (14 + i) q r = ad r := fun r hr => up1_n _ _ hr
  refine ⟨up1 ad (14 + i) q, _, _, s1, Or.inr rfl, (by intro k t; unfold E4; omega), (by intro k hk; unfold T4; omega), up1_s _ _ _, fun M1 I0 hB => ?_⟩
  obtain ⟨ad', hA, hS', hF, -⟩ := hB
  have b0 : ad' 0 = ad 0 := (hA 0 (Or.inl (t4 (by decide)))).trans (ea 0 (by omega))
  have b1 : ad' 1 = ad 1 := (hA 1 (Or.inl (t4 (by decide)))).trans (ea 1 (by omega))
  have b11 : ad' 11 = ad 11 := (hA 11 (Or.inl (t4 (by decide)))).trans (ea 11 (by omega))
  have bq : ad' (14 + i) = q := (hA _ (Or.inr rfl)).trans (up1_s _ _ _)
  have s2 := Stg_R (k := i) (r := 11) (t := 14 + i) hS' (Or.inl (Or.inl (t4 (by decide)))) (Or.inl (Or.inr rfl)) (by unfold EK E4; intro t h9; omega)
  rw [b11, bq] at s2
  have m11 : ad 11 ∈ mP M := (hS.1 11 (t4 (by decide))).1
  have m1 : ad 1 ∈ mP M := (hS.1 1 (t4 (by decide))).1
  have n11 : ad 11 ≠ q := fun h9 => hq (h9 ▸ m11)
  have n1 : ad 1 ≠ q := fun h9 => hq (h9 ▸ m1)
  have f11 := hF (ad 11) (List.mem_append_left _ m11)
  have f1 := hF (ad 1) (List.mem_append_left _ m1)
  have hN11 : mN M1 (ad 11) = 16 := f11.2.2.1.trans ((sN_o n11).2.1.trans hN)
  have k11 := hS'.1 11 (Or.inl (Or.inl (t4 (by decide))))
  have kq := hS'.1 (14 + i) (Or.inl (Or.inr rfl))
  rw [b11] at k11
  rw [bq, show kdN (14 + i) = 3 by unfold kdN; rw [if_neg (by omega), if_neg (by omega), if_neg (by omega), if_neg (by omega), if_neg (by omega), if_neg (by omega), if_neg (by omega), if_pos (by omega)]] at kq
  refine ⟨⟨ad', b0, Stg_eq s2 (fun r => by unfold TK T4; constructor <;> intro h <;> omega) (fun r z t => by
    rintro (h | h | h | h | h)
    · exact Or.inl (Or.inl (Or.inl h))
    · exact Or.inl (Or.inl (Or.inr (Or.inl h)))
    · exact Or.inl (Or.inl (Or.inr (Or.inr (Or.inl h))))
    · by_cases e : z = i
      · exact Or.inr ⟨h.1, e, by omega⟩
      · exact Or.inl (Or.inl (Or.inr (Or.inr (Or.inr (Or.inl ⟨h.1, by omega, h.2.2⟩)))))
    · by_cases e : r = 14 + i
      · exact Or.inl (Or.inr ⟨e, by omega, by omega, by omega⟩)
      · exact Or.inl (Or.inl (Or.inr (Or.inr (Or.inr (Or.inr ⟨h.1, by omega, h.2.2.1, h.2.2.2.1, h.2.2.2.2⟩)))))), ?_, ?_⟩, ⟨k11.1, k11.2, hN11⟩, kq⟩
  · rw [b11]; exact hN11
  · rw [b1]; show mI M1 (ad 1) 0 = 7
    rw [(f1.2.2.2 (by rw [up1_s]; exact n1)).1, (sN_o n1).2.2.1]; exact hI
theorem K5_0 {x q : Nat} {M : qM} (h : K4 x 16 M) (hq : q ∉ mP M) : K5 x 0 (sR (sN M q 9 3) x 2 (some q)) := by
  obtain ⟨ad, rfl, hS, hN, hI⟩ := h
  have s1 := Stg_new (r1 := 12) (n := 3) hS hq (by unfold T4; omega)
  have s2 := Stg_R (k := 2) (r := 0) (t := 12) s1 (Or.inl (t4 (by decide))) (Or.inr rfl) (by unfold E4; intro t h9; omega)
  have m11 : ad 11 ∈ mP M := (hS.1 11 (t4 (by decide))).1
  have m1 : ad 1 ∈ mP M := (hS.1 1 (t4 (by decide))).1
  have n11 : ad 11 ≠ q := fun h9 => hq (h9 ▸ m11)
  have n1 : ad 1 ≠ q := fun h9 => hq (h9 ▸ m1)
  refine ⟨up1 ad 12 q, rfl, Stg_eq s2 (fun r => by unfold T5 T4; constructor <;> intro h <;> omega) (fun r z t => by
    rintro (h | h | h)
    · exact Or.inl h
    · exact Or.inr h
    · omega), ⟨?_, ?_⟩, ?_⟩
  · exact (sN_o (M := M) (ki := 9) (n := 3) n11).2.1.trans hN
  · exact va_up_self _ _ _
  · show mI (sN M q 9 3) (ad 1) 0 = 7
    rw [(sN_o n1).2.2.1]; exact hI
theorem K5_r {x j : Nat} {M : qM} (h : K5 x j M) : ∃ sl, mR M x 2 = some sl ∧ qAr M sl 9 3 := by
  obtain ⟨ad, rfl, hS, ⟨-, hN⟩, -⟩ := h
  exact ⟨ad 12, (hS.2.2 0 2 12 (Or.inr (Or.inl ⟨rfl, rfl, rfl⟩))).2.2, (hS.1 12 (t5 (by decide))).1, (hS.1 12 (t5 (by decide))).2, hN⟩
theorem K5_s {x j q sl : Nat} {M : qM} (h : K5 x j M) (hj : j < 3) (hq : q ∉ mP M) (hsl : mR M x 2 = some sl) (L : Nat → Nat → Int) : K5 x (j + 1) (sR (wL (sN M q 1 0) L) sl j (some q)) ∧ qAr (sN M q 1 0) sl 9 3 := by
  obtain ⟨ad, rfl, hS, ⟨hN, hN2⟩, hI⟩ := h
  have hb : sl = ad 12 := Option.some.inj (hsl.symm.trans (hS.2.2 0 2 12 (Or.inr (Or.inl ⟨rfl, rfl, rfl⟩))).2.2)
  subst hb
  have s1 := Stg_new (r1 := 78 + j) (n := 0) hS hq (by unfold T5 T4; omega)
  rw [show kdN (78 + j) = 1 by unfold kdN; repeat rw [if_neg (by omega)]] at s1
  have ea : ∀ r, r ≠ 78 + j → up1 ad (78 + j) q r = ad r := fun r hr => up1_n _ _ hr
  have s2 := Stg_R (k := j) (r := 12) (t := 78 + j) s1 (Or.inl (t5 (by decide))) (Or.inr rfl) (by unfold E5 E4; intro t h9; omega)
  rw [ea 12 (by omega), up1_s] at s2
  have mm : ∀ r, T5 j r → ad r ≠ q := fun r hr h9 => hq (h9 ▸ (hS.1 r hr).1)
  have n11 := mm 11 (t5 (by decide))
  have n1 := mm 1 (t5 (by decide))
  have n12 := mm 12 (t5 (by decide))
  have k12 := hS.1 12 (t5 (by decide))
  refine ⟨⟨up1 ad (78 + j) q, ea 0 (by omega), Stg_eq s2 (fun r => by unfold T5 T4; constructor <;> intro h <;> omega) (fun r z t => by
    rintro (h | h | h)
    · exact Or.inl (Or.inl h)
    · exact Or.inl (Or.inr (Or.inl h))
    · by_cases e : z = j
      · exact Or.inr ⟨h.1, e, by omega⟩
      · exact Or.inl (Or.inr (Or.inr ⟨h.1, by omega, h.2.2⟩))), ⟨?_, ?_⟩, ?_⟩, ⟨List.mem_append_left _ k12.1, (sN_o n12).1.trans k12.2, (sN_o n12).2.1.trans hN2⟩⟩
  · rw [ea 11 (by omega)]; exact (sN_o (M := M) (ki := 1) (n := 0) n11).2.1.trans hN
  · rw [ea 12 (by omega)]; exact (sN_o (M := M) (ki := 1) (n := 0) n12).2.1.trans hN2
  · rw [ea 1 (by omega)]; show mI (sN M q 1 0) (ad 1) 0 = 7
    rw [(sN_o n1).2.2.1]; exact hI
theorem K5_e {x q : Nat} {M : qM} (h : K5 x 3 M) (hq : q ∉ mP M) : poX4 x none (sR (sI (sI (sR (sN M q 8 3) x 3 (some q)) x 4 0) x 5 0) x 6 none) := by
  obtain ⟨ad, rfl, hS, ⟨hN, hN2⟩, hI⟩ := h
  have s1 := Stg_new (r1 := 13) (n := 3) hS hq (by unfold T5 T4; omega)
  have s2 := Stg_R (k := 3) (r := 0) (t := 13) s1 (Or.inl (t5 (by decide))) (Or.inr rfl) (by unfold E5 E4; intro t h9; omega)
  have mm : ∀ r, T5 3 r → ad r ≠ q := fun r hr h9 => hq (h9 ▸ (hS.1 r hr).1)
  have n11 := mm 11 (t5 (by decide))
  have n1 := mm 1 (t5 (by decide))
  have n12 := mm 12 (t5 (by decide))
  have n0 := mm 0 (t5 (by decide))
  have ea : ∀ r, r ≠ 13 → up1 ad 13 q r = ad r := fun r hr => up1_n _ _ hr
  have hR : ∀ a k, ¬ (a = ad 0 ∧ k = 6) → mR (sR (sI (sI (sR (sN M q 8 3) (ad 0) 3 (some q)) (ad 0) 4 0) (ad 0) 5 0) (ad 0) 6 none) a k = mR (sR (sN M q 8 3) (ad 0) 3 (some q)) a k := fun a k h9 => up2_n _ _ h9
  have s3 : Stg (sR (sN M q 8 3) (ad 0) 3 (some q)) (up1 ad 13 q) (fun r => T5 3 r ∨ r = 13) (fun r' k' t' => E5 3 r' k' t' ∨ (r' = 0 ∧ k' = 3 ∧ t' = 13)) := s2
  have tt : ∀ r, r < 81 → (T5 3 r ∨ r = 13) := by unfold T5 T4; intro r hr; omega
  have n10 : ad 1 ≠ ad 0 := fun h9 => absurd (hS.2.1 1 0 (t5 (by decide)) (t5 (by decide)) h9) (by decide)
  have hCS : CSt (sR (sN M q 8 3) (ad 0) 3 (some q)) (up1 ad 13 q) := by
    refine ⟨fun r hr => s3.1 r (tt r hr), fun r s hr hs => s3.2.1 r s (tt r hr) (tt s hs), ⟨?_, ?_, ?_⟩, ⟨?_, ?_, ?_, ?_⟩, fun k h1 h2 => ?_, fun i hi => ?_, fun j hj => ?_, fun i k hi hk => ?_⟩
    · exact (sN_o (M := M) (ki := 8) (n := 3) n11).2.1.trans hN
    · exact (sN_o (M := M) (ki := 8) (n := 3) n12).2.1.trans hN2
    · exact va_up_self _ _ _
    · exact (s3.2.2 0 0 1 (Or.inl (Or.inl (e4_1 _)))).2.2
    · exact (s3.2.2 0 1 11 (Or.inl (Or.inl (e4_3 _)))).2.2
    · exact (s3.2.2 0 2 12 (Or.inl (Or.inr (Or.inl ⟨rfl, rfl, rfl⟩)))).2.2
    · exact (s3.2.2 0 3 13 (Or.inr (by omega))).2.2
    · exact (s3.2.2 1 k (1 + k) (Or.inl (Or.inl (e4_2 _ h1 h2)))).2.2
    · exact (s3.2.2 11 i (14 + i) (Or.inl (Or.inl (e4_4 hi)))).2.2
    · exact (s3.2.2 12 j (78 + j) (Or.inl (Or.inr (Or.inr ⟨rfl, hj, rfl⟩)))).2.2
    · exact (s3.2.2 (14 + i) (6 + k) (30 + 3 * i + k) (Or.inl (Or.inl (e4_5 hi hk)))).2.2
  refine ⟨rfl, up1 ad 13 q, ea 0 (by decide), CS_w (M := sR (sN M q 8 3) (ad 0) 3 (some q)) hCS (fun a k h9 => hR a k h9), ?_⟩
  have hq0 : q ≠ ad 0 := n0.symm
  refine ⟨⟨?_, ?_, ?_⟩, fun h9 => absurd (show (0 : Int) = 0 from rfl) h9, fun j hj => ?_, fun k hk => ?_, fun i hi => ?_, fun h9 => absurd (show (0 : Int) = 1 from h9) (by decide), fun _ => ?_⟩
  · show up2 (up2 (mI (sN M q 8 3)) (ad 0) 4 0) (ad 0) 5 0 (ad 0) 4 = 0
    rw [up2_k _ _ (by decide), up2_s]
  · show up2 (up2 (mI (sN M q 8 3)) (ad 0) 4 0) (ad 0) 5 0 (ad 0) 5 = 0
    rw [up2_s]
  · exact up2_s _ _ _ _
  · show up2 (up2 (mI (sN M q 8 3)) (ad 0) 4 0) (ad 0) 5 0 q j = 0
    rw [up2_a _ _ hq0, up2_a _ _ hq0]; exact congrFun (va_up_self (mI M) q (fun _ => 0)) j
  · rcases hk with ⟨-, h9⟩ | ⟨-, -, h9⟩ | ⟨h8, h9⟩
    · exact absurd (show (0 : Int) = 1 from h9) (by decide)
    · exact absurd (show (0 : Int) = 1 from h9) (by decide)
    · exact absurd (show (k : Int) < 6 + 3 * 0 from h9) (by omega)
  · exact absurd (show (i : Int) < 0 from hi) (by omega)
  · show up2 (up2 (mI (sN M q 8 3)) (ad 0) 4 0) (ad 0) 5 0 (ad 1) 0 = 7
    rw [up2_a _ _ n10, up2_a _ _ n10, (sN_o n1).2.2.1]; exact hI
section CSS
variable {p : Program} {l : Launch} {e : Env} {R : Room} {s : State} {m : MethodId} {args : Array Value} {below : List Frame} {meth : Method} {c : Code} {Q : State → Prop} {nL : Nat} {D : va_G} {cy : Nat → ClassId} {A : Nat → Prop} {cells slots cells2 slots2 : Nat} {pc : Nat} {lv : List (Nat × Value)} {st : List Value} {M : qM}
theorem q_cs (h1 : cells = cells2) (h2 : slots = slots2) (kk : qK p l e R s m args below meth c Q nL D cy A cells2 slots2 pc lv st M) : qK p l e R s m args below meth c Q nL D cy A cells slots pc lv st M := by subst h1; subst h2; exact kk
end CSS
