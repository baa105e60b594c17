/-! the state stays well formed -/
theorem pwN_ok {d : Int} (hd : dOk d) : ∀ (k n : Nat) (f s : qT3), gd d f → gd d s → gd d (pwN k n f s)
  | 0, _, _, _, _, hs => hs
  | k + 1, n, f, s, hf, hs => by
    have h1 := (mulT_spec hd hf hf).2.1
    have h2 := (mulT_spec hd hs hf).2.1
    unfold pwN
    repeat' split
    all_goals first | exact hs | exact pwN_ok hd k _ _ _ h1 h2 | exact pwN_ok hd k _ _ _ h1 hs
theorem powT_ok {d : Int} (hd : dOk d) {f : qT3} (hf : gd d f) (n : Int) : gd d (powT (unT d) f n) := pwN_ok hd 32 _ _ _ hf (unT_gd hd).1
theorem gs_D_D (σ : qS) (v : Int) : sD (setD σ v) = v := rfl
theorem gs_B_D (σ : qS) (v : Int) : sB (setD σ v) = sB σ := rfl
theorem gs_U_D (σ : qS) (v : Int) : sU (setD σ v) = sU σ := rfl
theorem gs_F_D (σ : qS) (v : Int) : sF (setD σ v) = sF σ := rfl
theorem gs_V_D (σ : qS) (v : Int) : sV (setD σ v) = sV σ := rfl
theorem gs_C_D (σ : qS) (v : Int) : sC (setD σ v) = sC σ := rfl
theorem gs_Q_D (σ : qS) (v : Int) : sQ (setD σ v) = sQ σ := rfl
theorem gs_T_D (σ : qS) (v : Int) : sT (setD σ v) = sT σ := rfl
theorem gs_X_D (σ : qS) (v : Int) : sX (setD σ v) = sX σ := rfl
theorem gs_D_B (σ : qS) (v : Int) : sD (setB σ v) = sD σ := rfl
theorem gs_B_B (σ : qS) (v : Int) : sB (setB σ v) = v := rfl
theorem gs_U_B (σ : qS) (v : Int) : sU (setB σ v) = sU σ := rfl
theorem gs_F_B (σ : qS) (v : Int) : sF (setB σ v) = sF σ := rfl
theorem gs_V_B (σ : qS) (v : Int) : sV (setB σ v) = sV σ := rfl
theorem gs_C_B (σ : qS) (v : Int) : sC (setB σ v) = sC σ := rfl
theorem gs_Q_B (σ : qS) (v : Int) : sQ (setB σ v) = sQ σ := rfl
theorem gs_T_B (σ : qS) (v : Int) : sT (setB σ v) = sT σ := rfl
theorem gs_X_B (σ : qS) (v : Int) : sX (setB σ v) = sX σ := rfl
theorem gs_D_U (σ : qS) (v : Int) : sD (setU σ v) = sD σ := rfl
theorem gs_B_U (σ : qS) (v : Int) : sB (setU σ v) = sB σ := rfl
theorem gs_U_U (σ : qS) (v : Int) : sU (setU σ v) = v := rfl
theorem gs_F_U (σ : qS) (v : Int) : sF (setU σ v) = sF σ := rfl
theorem gs_V_U (σ : qS) (v : Int) : sV (setU σ v) = sV σ := rfl
theorem gs_C_U (σ : qS) (v : Int) : sC (setU σ v) = sC σ := rfl
theorem gs_Q_U (σ : qS) (v : Int) : sQ (setU σ v) = sQ σ := rfl
theorem gs_T_U (σ : qS) (v : Int) : sT (setU σ v) = sT σ := rfl
theorem gs_X_U (σ : qS) (v : Int) : sX (setU σ v) = sX σ := rfl
theorem gs_D_F (σ : qS) (k : Nat) (v : qT3) : sD (setF σ k v) = sD σ := rfl
theorem gs_B_F (σ : qS) (k : Nat) (v : qT3) : sB (setF σ k v) = sB σ := rfl
theorem gs_U_F (σ : qS) (k : Nat) (v : qT3) : sU (setF σ k v) = sU σ := rfl
theorem gs_F_F (σ : qS) (k : Nat) (v : qT3) : sF (setF σ k v) = up1 (sF σ) k v := rfl
theorem gs_V_F (σ : qS) (k : Nat) (v : qT3) : sV (setF σ k v) = sV σ := rfl
theorem gs_C_F (σ : qS) (k : Nat) (v : qT3) : sC (setF σ k v) = sC σ := rfl
theorem gs_Q_F (σ : qS) (k : Nat) (v : qT3) : sQ (setF σ k v) = sQ σ := rfl
theorem gs_T_F (σ : qS) (k : Nat) (v : qT3) : sT (setF σ k v) = sT σ := rfl
theorem gs_X_F (σ : qS) (k : Nat) (v : qT3) : sX (setF σ k v) = sX σ := rfl
theorem gs_D_V (σ : qS) (k : Nat) (v : Int) : sD (setV σ k v) = sD σ := rfl
theorem gs_B_V (σ : qS) (k : Nat) (v : Int) : sB (setV σ k v) = sB σ := rfl
theorem gs_U_V (σ : qS) (k : Nat) (v : Int) : sU (setV σ k v) = sU σ := rfl
theorem gs_F_V (σ : qS) (k : Nat) (v : Int) : sF (setV σ k v) = sF σ := rfl
theorem gs_V_V (σ : qS) (k : Nat) (v : Int) : sV (setV σ k v) = up1 (sV σ) k v := rfl
theorem gs_C_V (σ : qS) (k : Nat) (v : Int) : sC (setV σ k v) = sC σ := rfl
theorem gs_Q_V (σ : qS) (k : Nat) (v : Int) : sQ (setV σ k v) = sQ σ := rfl
theorem gs_T_V (σ : qS) (k : Nat) (v : Int) : sT (setV σ k v) = sT σ := rfl
theorem gs_X_V (σ : qS) (k : Nat) (v : Int) : sX (setV σ k v) = sX σ := rfl
theorem gs_D_C (σ : qS) (k : Nat) (v : Int) : sD (setC σ k v) = sD σ := rfl
theorem gs_B_C (σ : qS) (k : Nat) (v : Int) : sB (setC σ k v) = sB σ := rfl
theorem gs_U_C (σ : qS) (k : Nat) (v : Int) : sU (setC σ k v) = sU σ := rfl
theorem gs_F_C (σ : qS) (k : Nat) (v : Int) : sF (setC σ k v) = sF σ := rfl
theorem gs_V_C (σ : qS) (k : Nat) (v : Int) : sV (setC σ k v) = sV σ := rfl
theorem gs_C_C (σ : qS) (k : Nat) (v : Int) : sC (setC σ k v) = up1 (sC σ) k v := rfl
theorem gs_Q_C (σ : qS) (k : Nat) (v : Int) : sQ (setC σ k v) = sQ σ := rfl
theorem gs_T_C (σ : qS) (k : Nat) (v : Int) : sT (setC σ k v) = sT σ := rfl
theorem gs_X_C (σ : qS) (k : Nat) (v : Int) : sX (setC σ k v) = sX σ := rfl
theorem gs_D_Q (σ : qS) (v : Int) : sD (setQ σ v) = sD σ := rfl
theorem gs_B_Q (σ : qS) (v : Int) : sB (setQ σ v) = sB σ := rfl
theorem gs_U_Q (σ : qS) (v : Int) : sU (setQ σ v) = sU σ := rfl
theorem gs_F_Q (σ : qS) (v : Int) : sF (setQ σ v) = sF σ := rfl
theorem gs_V_Q (σ : qS) (v : Int) : sV (setQ σ v) = sV σ := rfl
theorem gs_C_Q (σ : qS) (v : Int) : sC (setQ σ v) = sC σ := rfl
theorem gs_Q_Q (σ : qS) (v : Int) : sQ (setQ σ v) = v := rfl
theorem gs_T_Q (σ : qS) (v : Int) : sT (setQ σ v) = sT σ := rfl
theorem gs_X_Q (σ : qS) (v : Int) : sX (setQ σ v) = sX σ := rfl
theorem gs_D_T (σ : qS) (v : Int) : sD (setT σ v) = sD σ := rfl
theorem gs_B_T (σ : qS) (v : Int) : sB (setT σ v) = sB σ := rfl
theorem gs_U_T (σ : qS) (v : Int) : sU (setT σ v) = sU σ := rfl
theorem gs_F_T (σ : qS) (v : Int) : sF (setT σ v) = sF σ := rfl
theorem gs_V_T (σ : qS) (v : Int) : sV (setT σ v) = sV σ := rfl
theorem gs_C_T (σ : qS) (v : Int) : sC (setT σ v) = sC σ := rfl
theorem gs_Q_T (σ : qS) (v : Int) : sQ (setT σ v) = sQ σ := rfl
theorem gs_T_T (σ : qS) (v : Int) : sT (setT σ v) = v := rfl
theorem gs_X_T (σ : qS) (v : Int) : sX (setT σ v) = sX σ := rfl
theorem gs_D_X (σ : qS) (v : Int) : sD (setX σ v) = sD σ := rfl
theorem gs_B_X (σ : qS) (v : Int) : sB (setX σ v) = sB σ := rfl
theorem gs_U_X (σ : qS) (v : Int) : sU (setX σ v) = sU σ := rfl
theorem gs_F_X (σ : qS) (v : Int) : sF (setX σ v) = sF σ := rfl
theorem gs_V_X (σ : qS) (v : Int) : sV (setX σ v) = sV σ := rfl
theorem gs_C_X (σ : qS) (v : Int) : sC (setX σ v) = sC σ := rfl
theorem gs_Q_X (σ : qS) (v : Int) : sQ (setX σ v) = sQ σ := rfl
theorem gs_T_X (σ : qS) (v : Int) : sT (setX σ v) = sT σ := rfl
theorem gs_X_X (σ : qS) (v : Int) : sX (setX σ v) = v := rfl
section WFS
variable {σ : qS}
theorem WF_d (h : WF σ) (h0 : sD σ ≠ 0) : dOk (sD σ) := h.1.elim (fun h9 => absurd h9 h0) id
theorem WF_S (h : WF σ) {j : Nat} {t : qT3} (hj : j < 3) (ht : gd (sD σ) t) : WF (setV (setF σ j t) j 1) := by
  obtain ⟨a, b, c, d, e, f, g⟩ := h
  refine ⟨a, b, c, fun i hi => ?_, fun k hk => ?_, f, g⟩
  · show up1 (sV σ) j 1 i = 0 ∨ up1 (sV σ) j 1 i = 1
    by_cases h : i = j
    · rw [h, up1_s]; exact Or.inr rfl
    · rw [up1_n _ _ h]; exact d i hi
  · show gd (sD σ) (up1 (sF σ) j t k)
    by_cases h : k = j
    · rw [h, up1_s]; exact ht
    · rw [up1_n _ _ h]
      refine e k ?_
      rcases hk with ⟨h1, h2⟩ | h1 | h1
      · exact Or.inl ⟨h1, by rw [← show up1 (sV σ) j 1 k = sV σ k from up1_n _ _ h]; exact h2⟩
      · exact Or.inr (Or.inl h1)
      · exact Or.inr (Or.inr h1)
theorem WF_0 : WF sg0 := by
  refine ⟨Or.inl rfl, ⟨by decide, by decide, fun h => absurd (show (0 : Int) = 1 from h) (by decide)⟩, Or.inl rfl, fun j _ => Or.inl rfl, fun k hk => ?_, fun i hi => absurd (show (i : Int) < 0 from hi) (by omega), fun h => absurd (show (0 : Int) = 1 from h) (by decide)⟩
  rcases hk with ⟨-, h9⟩ | ⟨-, -, h9⟩ | ⟨h8, h9⟩
  · exact absurd (show (0 : Int) = 1 from h9) (by decide)
  · exact absurd (show (0 : Int) = 1 from h9) (by decide)
  · exact absurd (show (k : Int) < 6 + 3 * 0 from h9) (by omega)
theorem WF_drop (h : WF σ) : WF (setU σ 0) := by
  obtain ⟨a, b, c, d, e, f, g⟩ := h
  refine ⟨a, ⟨b.1, b.2.1, fun h => absurd (show (0 : Int) = 1 from h) (by decide)⟩, Or.inl rfl, d, fun k hk => e k ?_, f, fun h => absurd (show (0 : Int) = 1 from h) (by decide)⟩
  rcases hk with h1 | ⟨-, -, h9⟩ | h1
  · exact Or.inl h1
  · exact absurd (show (0 : Int) = 1 from h9) (by decide)
  · exact Or.inr (Or.inr h1)
theorem WF_n0 (h : WF σ) {n : Int} (he : e_0 σ n = 0) : WF (n_0 σ n) := by
  have hn : 7 ≤ n ∧ n ≤ 1000000000 ∧ n % 8 = 7 ∧ sU σ ≠ 1 := by unfold e_0 at he; omega
  obtain ⟨a, b, c, d, e, f, g⟩ := h
  have hU : sU (n_0 σ n) = sU σ := rfl
  have hV : ∀ j, j < 3 → sV (n_0 σ n) j = 0 := fun j hj => by
    show up1 (up1 (up1 (sV σ) 0 0) 1 0) 2 0 j = 0
    unfold up1
    by_cases e2 : j = 2
    · rw [if_pos e2]
    · by_cases e1 : j = 1
      · rw [if_neg e2, if_pos e1]
      · rw [if_neg e2, if_neg e1, if_pos (by omega)]
  refine ⟨Or.inr ⟨hn.1, hn.2.1, hn.2.2.1⟩, ⟨show (0 : Int) ≤ 0 by decide, show (0 : Int) ≤ 16 by decide, fun _ => show (0 : Int) < 16 by decide⟩, c, fun j hj => Or.inl (hV j hj), fun k hk => ?_, fun i hi => absurd (show (i : Int) < 0 from hi) (by omega), fun h9 => absurd h9 hn.2.2.2⟩
  rcases hk with ⟨h1, h9⟩ | ⟨-, -, h9⟩ | ⟨h8, h9⟩
  · rw [hV k h1] at h9; exact absurd h9 (by decide)
  · exact absurd h9 hn.2.2.2
  · exact absurd (show (k : Int) < 6 + 3 * 0 from h9) (by omega)
/-- the running round is written -/
theorem WF_R (h : WF σ) {σ' : qS} (hD : sD σ' = sD σ) (hB : sB σ' = sB σ) (hB16 : sB σ < 16) (hU : sU σ' = 1) (hV : ∀ j, sV σ' j = sV σ j) (hF : ∀ k, k < 3 ∨ 6 ≤ k → sF σ' k = sF σ k) (hG : ∀ k, 3 ≤ k → k < 6 → gd (sD σ) (sF σ' k)) (hK : ∀ k, k < 48 → sC σ' k = sC σ k) (hr : rnOk σ') : WF σ' := by
  obtain ⟨a, b, c, d, e, f, g⟩ := h
  refine ⟨by rw [hD]; exact a, ⟨by rw [hB]; exact b.1, by rw [hB]; exact b.2.1, fun _ => by rw [hB]; exact hB16⟩, Or.inr hU, fun j hj => by rw [hV]; exact d j hj, fun k hk => ?_, fun i hi => ?_, fun _ => hr⟩
  · rw [hD]
    rcases hk with ⟨h1, h2⟩ | ⟨h1, h2, -⟩ | ⟨h1, h2⟩
    · rw [hF k (Or.inl h1)]; exact e k (Or.inl ⟨h1, by rw [← hV]; exact h2⟩)
    · exact hG k h1 h2
    · rw [hF k (Or.inr h1)]; exact e k (Or.inr (Or.inr ⟨h1, by rw [← hB]; exact h2⟩))
  · rw [hB] at hi
    have b1 := b.2.1
    rw [hK _ (by omega), hK _ (by omega), hK _ (by omega)]; exact f i hi
theorem WF_n1x (h : WF σ) {t av : Int} {p un : qT3} (hp : gd (sD σ) p) (hu : gd (sD σ) un) (ht : 1 ≤ t ∧ t ≤ 500) (hB : sB σ < 16) (ha : 1 ≤ av ∧ av ≤ 65536) : WF (setX (setT (setQ (setU (setF (setF (setF (setC (setC (setC σ 48 t) 49 av) 50 0) 3 p) 4 p) 5 un) 1) t) t) 1) := by
  have hr : rnOk (setX (setT (setQ (setU (setF (setF (setF (setC (setC (setC σ 48 t) 49 av) 50 0) 3 p) 4 p) 5 un) 1) t) t) 1) := by
    show ((1 ≤ t ∧ t ≤ 500) ∧ (1 ≤ av ∧ av ≤ 65536) ∧ ((0 : Int) ≤ 0 ∧ (0 : Int) ≤ 65539)) ∧ (0 ≤ t ∧ t ≤ 500) ∧ (0 ≤ t ∧ t ≤ 500) ∧ (t = 0 → (3 : Int) ≤ 0 ∧ (0 : Int) ≤ 1 ∧ (1 : Int) < 0) ∧ (0 < t → (1 : Int) = 1)
    refine ⟨⟨ht, ha, by decide⟩, by omega, by omega, fun h9 => absurd h9 (by omega), fun _ => rfl⟩
  refine WF_R h (by simp only [gs_D_D, gs_D_B, gs_D_U, gs_D_F, gs_D_V, gs_D_C, gs_D_Q, gs_D_T, gs_D_X]) (by simp only [gs_B_D, gs_B_B, gs_B_U, gs_B_F, gs_B_V, gs_B_C, gs_B_Q, gs_B_T, gs_B_X]) hB (by simp only [gs_U_D, gs_U_B, gs_U_U, gs_U_F, gs_U_V, gs_U_C, gs_U_Q, gs_U_T, gs_U_X]) (fun _ => (by simp only [gs_V_D, gs_V_B, gs_V_U, gs_V_F, gs_V_V, gs_V_C, gs_V_Q, gs_V_T, gs_V_X])) (fun k hk => ?_) (fun k h1 h2 => ?_) (fun k hk => ?_) hr
  · show up1 (up1 (up1 (sF σ) 3 _) 4 _) 5 _ k = sF σ k
    rw [up1_n _ _ (by omega), up1_n _ _ (by omega), up1_n _ _ (by omega)]
  · show gd (sD σ) (up1 (up1 (up1 (sF σ) 3 p) 4 p) 5 un k)
    rcases (show k = 3 ∨ k = 4 ∨ k = 5 by omega) with rfl | rfl | rfl
    · exact hp
    · exact hp
    · exact hu
  · show up1 (up1 (up1 (sC σ) 48 _) 49 _) 50 _ k = sC σ k
    rw [up1_n _ _ (by omega), up1_n _ _ (by omega), up1_n _ _ (by omega)]
theorem WF_n1 (h : WF σ) {t : Int} (he : e_1 σ t = 0) : WF (n_1 σ t) := by
  have hB := h.2.1
  have hB2 := hB.2.1
  have hn : sD σ ≠ 0 ∧ (1 ≤ t ∧ t ≤ 500) ∧ sU σ ≠ 1 ∧ sB σ < 16 := by clear hB; unfold e_1 at he; omega
  have hd := WF_d h hn.1
  exact WF_n1x h (powT_ok hd (geT_gd hd).1 _) (unT_gd hd).1 hn.2.1 hn.2.2.2 (by unfold a_1; have := qand_65535 (h_1 σ); clear hB he; omega)
theorem WF_n2 (h : WF σ) {n : Int} (he : e_2 σ n = 0) : WF (n_2 σ n) := by
  have hn0 : sD σ ≠ 0 ∧ (0 < n ∧ n < 501) ∧ sU σ ≠ 0 ∧ sQ σ ≠ 0 := by unfold e_2 at he; omega
  have hU : sU σ = 1 := h.2.2.1.elim (fun h9 => absurd h9 hn0.2.2.1) id
  have hd := WF_d h hn0.1
  have hB16 := h.2.1.2.2 hU
  obtain ⟨⟨r1, r2, r3⟩, r4, r5, r6, r7⟩ := h.2.2.2.2.2.2 hU
  have hk : 0 ≤ k_2 σ n ∧ k_2 σ n ≤ sQ σ := by unfold k_2; omega
  have l3 := h.2.2.2.2.1 3 (Or.inr (Or.inl ⟨by decide, by decide, hU⟩))
  have l4 := h.2.2.2.2.1 4 (Or.inr (Or.inl ⟨by decide, by decide, hU⟩))
  have l5 := h.2.2.2.2.1 5 (Or.inr (Or.inl ⟨by decide, by decide, hU⟩))
  have hX := r7 (by omega)
  have hF : ∀ k, k < 3 ∨ 6 ≤ k → up1 (sF σ) 4 (sqN (k_2 σ n).toNat (sF σ 4)) k = sF σ k := fun k hk => up1_n _ _ (by omega)
  have hG : ∀ k, 3 ≤ k → k < 6 → gd (sD σ) (up1 (sF σ) 4 (sqN (k_2 σ n).toNat (sF σ 4)) k) := fun k h1 h2 => by
    rcases (show k = 3 ∨ k = 4 ∨ k = 5 by omega) with rfl | rfl | rfl
    · exact l3
    · exact sqN_gd hd l4 _
    · exact l5
  have hpr := prmT_r (sF σ 3) (sqN (k_2 σ n).toNat (sF σ 4)) (sC σ 48)
  unfold n_2
  by_cases h0 : sQ σ - k_2 σ n = 0
  · rw [if_pos h0]
    refine WF_R h rfl rfl hB16 hU (fun _ => rfl) hF hG (fun k hk => ?_) ⟨⟨r1, r2, ?_⟩, ⟨show 0 ≤ sQ σ - k_2 σ n by omega, show sQ σ - k_2 σ n ≤ 500 by omega⟩, r5, fun _ => ⟨?_, ?_⟩, fun h9 => absurd (show 0 < sQ σ - k_2 σ n from h9) (by omega)⟩
    · show up1 (sC σ) 50 _ k = sC σ k
      exact up1_n _ _ (by omega)
    · show 0 ≤ prmT (sF σ 3) (sqN (k_2 σ n).toNat (sF σ 4)) (sC σ 48) ∧ prmT (sF σ 3) (sqN (k_2 σ n).toNat (sF σ 4)) (sC σ 48) ≤ 65539
      omega
    · exact hpr.1
    · show 0 ≤ sX σ ∧ sX σ < prmT (sF σ 3) (sqN (k_2 σ n).toNat (sF σ 4)) (sC σ 48)
      omega
  · rw [if_neg h0]
    exact WF_R h rfl rfl hB16 hU (fun _ => rfl) hF hG (fun _ _ => rfl) ⟨⟨r1, r2, r3⟩, ⟨show 0 ≤ sQ σ - k_2 σ n by omega, show sQ σ - k_2 σ n ≤ 500 by omega⟩, r5, fun h9 => absurd (show sQ σ - k_2 σ n = 0 from h9) h0, fun _ => hX⟩
theorem WF_n3 (h : WF σ) {n : Int} (he : e_3 σ n = 0) : WF (n_3 σ n) := by
  have hn0 : sD σ ≠ 0 ∧ (0 < n ∧ n < 501) ∧ sU σ ≠ 0 ∧ ¬ sQ σ > 0 ∧ sT σ ≠ 0 := by unfold e_3 at he; omega
  have hU : sU σ = 1 := h.2.2.1.elim (fun h9 => absurd h9 hn0.2.2.1) id
  have hd := WF_d h hn0.1
  have hB16 := h.2.1.2.2 hU
  obtain ⟨⟨r1, r2, r3⟩, r4, r5, r6, r7⟩ := h.2.2.2.2.2.2 hU
  have hQ : sQ σ = 0 := by omega
  have hk : 0 ≤ k_3 σ n ∧ k_3 σ n ≤ sT σ := by unfold k_3; omega
  have l3 := h.2.2.2.2.1 3 (Or.inr (Or.inl ⟨by decide, by decide, hU⟩))
  have l4 := h.2.2.2.2.1 4 (Or.inr (Or.inl ⟨by decide, by decide, hU⟩))
  have l5 := h.2.2.2.2.1 5 (Or.inr (Or.inl ⟨by decide, by decide, hU⟩))
  have hx := r6 hQ
  have hu := stN_ok hd l3 (u := (sF σ 5, sX σ)) (pr := sC σ 50) ⟨l5, hx.2.1, hx.2.2⟩ (k_3 σ n).toNat
  refine WF_R h rfl rfl hB16 hU (fun _ => rfl) (fun k hk => ?_) (fun k h1 h2 => ?_) (fun _ _ => rfl) ⟨⟨r1, r2, r3⟩, r4, ⟨show 0 ≤ sT σ - k_3 σ n by omega, show sT σ - k_3 σ n ≤ 500 by omega⟩, fun _ => ⟨hx.1, hu.2.1, hu.2.2⟩, fun h9 => absurd (show 0 < sQ σ from h9) (by omega)⟩
  · show up1 (sF σ) 5 _ k = sF σ k
    exact up1_n _ _ (by omega)
  · show gd (sD σ) (up1 (sF σ) 5 (u_3 σ (k_3 σ n).toNat).1 k)
    rcases (show k = 3 ∨ k = 4 ∨ k = 5 by omega) with rfl | rfl | rfl
    · exact l3
    · exact l4
    · exact hu.1
theorem WF_n10 (h : WF σ) {i a b : Int} (he : e_10 σ i a b = 0) : WF (n_10 σ i a b) := by
  have hn : sD σ ≠ 0 ∧ isSl i ∧ bI (okP (sD σ) a b) ≠ 0 := by unfold e_10 at he; omega
  have hd := WF_d h hn.1
  have hok : okP (sD σ) a b := by rcases bI_or (okP (sD σ) a b) with h9 | h9; exact h9.2; exact absurd h9.1 hn.2.2
  obtain ⟨⟨o1, o2, o3, o4⟩, o5, o6⟩ := hok
  obtain ⟨p1, p2, p3, p4, p5, p6⟩ := put_rng o1 o2 o3 o4 (show 0 ≤ sD σ by have := hd.1; omega) hd.2.1
  have hc := fm_c (d := sD σ) (b := b) (show 0 < a by omega) o5
  refine WF_S h (by have := hn.2.1; omega) ⟨⟨by show 0 < a; omega, ?_, by show a ≤ 2147483648; omega, ⟨by show -2305843009213693952 ≤ b; omega, by show b ≤ 2305843009213693952; omega⟩, by show (b * b + sD σ) / (4 * a) ≤ 2305843009213693952; omega⟩, o6⟩
  show b * b - 4 * a * ((b * b + sD σ) / (4 * a)) = -sD σ
  rw [hc]; omega
theorem WF_lv (h : WF σ) {i : Nat} (hi : i < 3) (hv : sV σ i ≠ 0) : gd (sD σ) (sF σ i) := h.2.2.2.2.1 i (Or.inl ⟨hi, (h.2.2.2.1 i hi).elim (fun h9 => absurd h9 hv) id⟩)
theorem WF_n12 (h : WF σ) {i k : Int} (he : e_11 σ i k = 0) : WF (n_12 σ i k) := by
  have hn : sD σ ≠ 0 ∧ isSl i ∧ isSl k ∧ sV σ i.toNat ≠ 0 := by unfold e_11 at he; omega
  have hd := WF_d h hn.1
  have g := WF_lv h (show i.toNat < 3 by have := hn.2.1; omega) hn.2.2.2
  exact WF_S h (by have := hn.2.2.1; omega) (rdOf_gd hd.2.1 g (redT_ex hd g))
theorem WF_n13 (h : WF σ) {i j k : Int} (he : e_13 σ i j k = 0) : WF (n_13 σ i j k) := by
  have hn : sD σ ≠ 0 ∧ isSl i ∧ isSl j ∧ isSl k ∧ sV σ i.toNat ≠ 0 ∧ sV σ j.toNat ≠ 0 := by unfold e_13 at he; omega
  have hd := WF_d h hn.1
  exact WF_S h (by have := hn.2.2.2.1; omega) (mulT_spec hd (WF_lv h (show i.toNat < 3 by have := hn.2.1; omega) hn.2.2.2.2.1) (WF_lv h (show j.toNat < 3 by have := hn.2.2.1; omega) hn.2.2.2.2.2)).2.1
theorem WF_n14 (h : WF σ) {i n k : Int} (he : e_14 σ i n k = 0) : WF (n_14 σ i n k) := by
  have hn : sD σ ≠ 0 ∧ isSl i ∧ isSl k ∧ sV σ i.toNat ≠ 0 := by unfold e_14 at he; omega
  have hd := WF_d h hn.1
  exact WF_S h (by have := hn.2.2.1; omega) (powT_ok hd (WF_lv h (show i.toNat < 3 by have := hn.2.1; omega) hn.2.2.2) _)
theorem WF_n4 (h : WF σ) (he : e_4 σ = 0) : WF (n_4 σ) := by
  have hn0 : sD σ ≠ 0 ∧ sU σ ≠ 0 ∧ ¬ sQ σ > 0 ∧ ¬ sT σ > 0 := by unfold e_4 at he; omega
  have hU : sU σ = 1 := h.2.2.1.elim (fun h9 => absurd h9 hn0.2.1) id
  have hB16 := h.2.1.2.2 hU
  have hB0 := h.2.1.1
  obtain ⟨⟨r1, r2, r3⟩, r4, r5, r6, r7⟩ := h.2.2.2.2.2.2 hU
  have hx := r6 (by omega)
  obtain ⟨b0, hb⟩ : ∃ b0 : Nat, sB σ = b0 := ⟨(sB σ).toNat, by omega⟩
  have hb0' : (sB σ).toNat = b0 := by omega
  have eF : ∀ x, sF (n_4 σ) x = if x = 6 + 3 * b0 + 2 then sF σ 5 else if x = 6 + 3 * b0 + 1 then sF σ 4 else if x = 6 + 3 * b0 then sF σ 3 else sF σ x := by
    intro x
    show up1 (up1 (up1 (sF σ) (6 + 3 * (sB σ).toNat + 0) (sF σ 3)) (6 + 3 * (sB σ).toNat + 1) (up1 (sF σ) (6 + 3 * (sB σ).toNat + 0) (sF σ 3) (3 + 1))) (6 + 3 * (sB σ).toNat + 2) (up1 (up1 (sF σ) (6 + 3 * (sB σ).toNat + 0) (sF σ 3)) (6 + 3 * (sB σ).toNat + 1) (up1 (sF σ) (6 + 3 * (sB σ).toNat + 0) (sF σ 3) (3 + 1)) (3 + 2)) x = _
    rw [hb0']; unfold up1
    rw [if_neg (show ¬ (3 + 1 = 6 + 3 * b0 + 0) by omega), if_neg (show ¬ (3 + 2 = 6 + 3 * b0 + 1) by omega), if_neg (show ¬ (3 + 2 = 6 + 3 * b0 + 0) by omega)]; rfl
  have eC : ∀ x, sC (n_4 σ) x = if x = 3 * b0 + 2 then sC σ 50 else if x = 3 * b0 + 1 then sC σ 49 else if x = 3 * b0 then sC σ 48 else sC σ x := by
    intro x
    show up1 (up1 (up1 (sC σ) (3 * (sB σ).toNat + 0) (sC σ 48)) (3 * (sB σ).toNat + 1) (up1 (sC σ) (3 * (sB σ).toNat + 0) (sC σ 48) (48 + 1))) (3 * (sB σ).toNat + 2) (up1 (up1 (sC σ) (3 * (sB σ).toNat + 0) (sC σ 48)) (3 * (sB σ).toNat + 1) (up1 (sC σ) (3 * (sB σ).toNat + 0) (sC σ 48) (48 + 1)) (48 + 2)) x = _
    rw [hb0']; unfold up1
    rw [if_neg (show ¬ (48 + 1 = 3 * b0 + 0) by omega), if_neg (show ¬ (48 + 2 = 3 * b0 + 1) by omega), if_neg (show ¬ (48 + 2 = 3 * b0 + 0) by omega)]; rfl
  have hl := h.2.2.2.2.1
  have hf := h.2.2.2.2.2.1
  refine ⟨h.1, ⟨show 0 ≤ sB σ + 1 by omega, show sB σ + 1 ≤ 16 by omega, fun h9 => absurd (show (0 : Int) = 1 from h9) (by decide)⟩, Or.inl rfl, h.2.2.2.1, fun k hk => ?_, fun i hi => ?_, fun h9 => absurd (show (0 : Int) = 1 from h9) (by decide)⟩
  · show gd (sD σ) (sF (n_4 σ) k)
    rw [eF]
    by_cases e2 : k = 6 + 3 * b0 + 2
    · rw [if_pos e2]; exact hl 5 (Or.inr (Or.inl ⟨by decide, by decide, hU⟩))
    · by_cases e1 : k = 6 + 3 * b0 + 1
      · rw [if_neg e2, if_pos e1]; exact hl 4 (Or.inr (Or.inl ⟨by decide, by decide, hU⟩))
      · by_cases e0 : k = 6 + 3 * b0
        · rw [if_neg e2, if_neg e1, if_pos e0]; exact hl 3 (Or.inr (Or.inl ⟨by decide, by decide, hU⟩))
        · rw [if_neg e2, if_neg e1, if_neg e0]
          rcases hk with h1 | ⟨-, -, h1⟩ | ⟨h1, h2⟩
          · exact hl k (Or.inl h1)
          · exact absurd (show (0 : Int) = 1 from h1) (by decide)
          · replace h2 : (k : Int) < 6 + 3 * (sB σ + 1) := h2
            exact hl k (Or.inr (Or.inr ⟨h1, by omega⟩))
  · replace hi : (i : Int) < sB σ + 1 := hi
    rw [eC, eC, eC]
    by_cases e0 : i = b0
    · rw [e0, if_neg (by omega), if_neg (by omega), if_pos rfl, if_neg (by omega), if_pos rfl, if_pos rfl]; exact ⟨r1, r2, hx.1, r3.2⟩
    · rw [if_neg (by omega), if_neg (by omega), if_neg (by omega), if_neg (by omega), if_neg (by omega), if_neg (by omega), if_neg (by omega), if_neg (by omega), if_neg (by omega)]; exact hf i (by omega)
end WFS
