/-! the answers fit into their types -/
theorem ordN_r (k : Nat) : ∀ (x : Int) (t u g : qT3), 0 ≤ x → 0 ≤ ordN k x t u g ∧ ordN k x t u g ≤ x + k := by
  induction k with
  | zero => intro x t u g h0; simp only [ordN]; omega
  | succ k ih =>
    intro x t u g h0
    simp only [ordN]
    split
    · omega
    · have := ih (x + 1) (mulT t g) u g (by omega); omega
theorem fmI_r (d a b : Int) : 0 ≤ fmI d a b ∧ fmI d a b ≤ 1 := by
  rcases bI_or (isFm d a b) with h | h
  · rw [show fmI d a b = 1 from h.1]; decide
  · rw [show fmI d a b = 0 from h.1]; decide
theorem smZ_r (f : Int → Int) (n : Nat) (w : Int) (hw : 0 ≤ w) (hf : ∀ y, 0 ≤ f y ∧ f y ≤ w) : ∀ x, 0 ≤ smZ f x n ∧ smZ f x n ≤ w * n := by
  induction n with
  | zero => intro x; simp [smZ]
  | succ n ih =>
    intro x
    rw [smZ]
    have h1 := ih (x + 1)
    have h2 := hf x
    have h3 : w * ((n + 1 : Nat) : Int) = w * n + w := by rw [Int.natCast_add, Int.mul_add]; simp
    omega
theorem cntN_r (d : Int) : 0 ≤ cntN d ∧ cntN d ≤ 33800 := by
  have h1 : ∀ b : Int, 0 ≤ smZ (fun a => wgI d a b) 1 130 ∧ smZ (fun a => wgI d a b) 1 130 ≤ 260 := fun b => by
    have := smZ_r (fun a => wgI d a b) 130 2 (by decide) (fun y => by have h2 := fmI_r d y b; have h3 := fmI_r d y (-b); show 0 ≤ fmI d y b + fmI d y (-b) ∧ fmI d y b + fmI d y (-b) ≤ 2; omega) 1
    omega
  have := smZ_r (fun b => smZ (fun a => wgI d a b) 1 130) 130 260 (by decide) h1 1
  unfold cntN; omega
theorem i32_r (y : Int32) : r32 y.toInt := ⟨Int32.le_toInt y, by have := Int32.toInt_lt y; omega⟩
section RNG
variable {σ : qS}
theorem rg_1 : r32 (a_1 σ) := by unfold a_1; have := qand_65535 (h_1 σ); omega
theorem rg_2 (h : WF σ) {n : Int} (he : e_2 σ n = 0) : r32 (a_2 σ n) := by
  have hn0 : (0 < n ∧ n < 501) ∧ sU σ ≠ 0 := by unfold e_2 at he; omega
  have hU : sU σ = 1 := h.2.2.1.elim (fun h9 => absurd h9 hn0.2) id
  have h4 := (h.2.2.2.2.2.2 hU).2.1
  unfold a_2 k_2; omega
theorem rg_3 (h : WF σ) {n : Int} (he : e_3 σ n = 0) : r32 (a_3 σ n) := by
  have hn0 : (0 < n ∧ n < 501) ∧ sU σ ≠ 0 := by unfold e_3 at he; omega
  have hU : sU σ = 1 := h.2.2.1.elim (fun h9 => absurd h9 hn0.2) id
  have h4 := (h.2.2.2.2.2.2 hU).2.2.1
  unfold a_3 k_3; omega
theorem rg_4 (h : WF σ) : r32 (a_4 σ) := by have h1 := h.2.1.1; have h2 := h.2.1.2.1; unfold a_4; omega
theorem rg_7 (h : WF σ) {r k : Int} (he : e_7 σ r k = 0) : r32 (a_7 σ r k) := by
  have hn : isPl σ r ∧ 0 ≤ k ∧ k ≤ 2 := by unfold e_7 at he; omega
  obtain ⟨hp, h1, h2⟩ := hn
  unfold a_7
  rcases hp with ⟨h3, h4⟩ | h3
  · obtain ⟨⟨q1, q2, q3⟩, -⟩ := h.2.2.2.2.2.2 h4
    rw [if_pos h3]
    rcases (show k = 0 ∨ k = 1 ∨ k = 2 by omega) with rfl | rfl | rfl
    · show r32 (sC σ 48); omega
    · show r32 (sC σ 49); omega
    · show r32 (sC σ 50); omega
  · obtain ⟨q1, q2, q3⟩ := h.2.2.2.2.2.1 r.toNat (by omega)
    rw [if_neg (by omega)]
    rcases (show k = 0 ∨ k = 1 ∨ k = 2 by omega) with rfl | rfl | rfl
    · rw [show (3 * r + 0).toNat = 3 * r.toNat by omega]; omega
    · rw [show (3 * r + 1).toNat = 3 * r.toNat + 1 by omega]; omega
    · rw [show (3 * r + 2).toNat = 3 * r.toNat + 2 by omega]; omega
theorem rg_8 {r k x : Int} : r32 (a_8 σ r k x) := i32_r _
theorem rg_15 {r : Int} : r32 (a_15 σ r) := by
  unfold a_15
  split
  · decide
  · split
    · decide
    · split <;> decide
theorem rg_16 {n : Int} (he : e_16 σ n = 0) : r32 (a_16 σ n) := by
  have hn : 1 ≤ n ∧ n ≤ 1000 := by unfold e_16 at he; omega
  have := ordN_r n.toNat 1 (geT (sD σ)) (unT (sD σ)) (geT (sD σ)) (by decide)
  unfold a_16; omega
theorem rg_17 : r32 (a_17 σ) := by have := cntN_r (sD σ); unfold a_17; omega
theorem rg_11 (h : WF σ) {i k : Int} (he : e_11 σ i k = 0) : r64 (a_11 σ i k) := by
  have hn : sD σ ≠ 0 ∧ isSl i ∧ isSl k ∧ sV σ i.toNat ≠ 0 := by unfold e_11 at he; omega
  have hd := WF_d h hn.1
  have g := WF_lv h (show i.toNat < 3 by have := hn.2.1; omega) hn.2.2.2
  have := gd_rT (L := fun _ q => if q = 0 then (sF σ i.toNat).1 else if q = 1 then (sF σ i.toNat).2.1 else (sF σ i.toNat).2.2) (a := 0) (show 0 < sD σ by have := hd.1; omega) g
  obtain ⟨g1, g2, g3⟩ := this
  replace g1 : r63 (sF σ i.toNat).1 := g1
  replace g2 : r63 (sF σ i.toNat).2.1 := g2
  replace g3 : r63 (sF σ i.toNat).2.2 := g3
  unfold a_11 ptT
  repeat' split
  all_goals omega
end RNG
