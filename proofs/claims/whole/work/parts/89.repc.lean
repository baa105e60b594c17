/-! the clock's objects: an address for each role -/
def kdN (r : Nat) : Nat := if r = 0 then 4 else if r = 1 then 2 else if r = 4 then 0 else if r = 11 then 10 else if r = 12 then 9 else if r = 13 then 8 else if r < 14 then 1 else if r < 30 then 3 else 1
def CSt (M : qM) (ad : Nat → Nat) : Prop :=
  (∀ r, r < 81 → ad r ∈ mP M ∧ mK M (ad r) = kdN r) ∧ (∀ r s, r < 81 → s < 81 → ad r = ad s → r = s) ∧ (mN M (ad 11) = 16 ∧ mN M (ad 12) = 3 ∧ mN M (ad 13) = 3) ∧
  (mR M (ad 0) 0 = some (ad 1) ∧ mR M (ad 0) 1 = some (ad 11) ∧ mR M (ad 0) 2 = some (ad 12) ∧ mR M (ad 0) 3 = some (ad 13)) ∧ (∀ k, 1 ≤ k → k < 10 → mR M (ad 1) k = some (ad (1 + k))) ∧
  (∀ i, i < 16 → mR M (ad 11) i = some (ad (14 + i))) ∧ (∀ j, j < 3 → mR M (ad 12) j = some (ad (78 + j))) ∧ (∀ i k, i < 16 → k < 3 → mR M (ad (14 + i)) (6 + k) = some (ad (30 + 3 * i + k)))
def frN (σ : qS) (k : Nat) : Nat := if k < 3 then 78 + k else if k < 6 then 27 + 3 * (sB σ).toNat + k else 24 + k
def rnN (σ : qS) : Nat := 14 + (sB σ).toNat
def CDy (σ : qS) (ad : Nat → Nat) (I L : Nat → Nat → Int) (R : Nat → Nat → Option Nat) : Prop :=
  (I (ad 0) 4 = (if sD σ = 0 then 0 else 1) ∧ I (ad 0) 5 = sB σ ∧ R (ad 0) 6 = (if sU σ = 1 then some (ad (rnN σ)) else none)) ∧
  (sD σ ≠ 0 → I (ad 1) 0 = sD σ ∧ gT L (ad 2) = unT (sD σ) ∧ gT L (ad 3) = geT (sD σ)) ∧
  (∀ j, j < 3 → I (ad 13) j = sV σ j) ∧ (∀ k, lvF σ k → gT L (ad (frN σ k)) = sF σ k) ∧
  (∀ i : Nat, (i : Int) < sB σ → I (ad (14 + i)) 0 = sC σ (3 * i) ∧ I (ad (14 + i)) 3 = sC σ (3 * i + 1) ∧ I (ad (14 + i)) 4 = sC σ (3 * i + 2)) ∧
  (sU σ = 1 → (I (ad (rnN σ)) 0 = sC σ 48 ∧ I (ad (rnN σ)) 3 = sC σ 49 ∧ I (ad (rnN σ)) 4 = sC σ 50) ∧ I (ad (rnN σ)) 1 = sQ σ ∧ I (ad (rnN σ)) 2 = sT σ ∧ I (ad (rnN σ)) 5 = sX σ) ∧ (sD σ = 0 → I (ad 1) 0 = 7)
/-- only rows of these roles are changed -/
def frA (ad : Nat → Nat) (L L' : Nat → Nat → Int) (S : List Nat) : Prop := ∀ b, b ∉ S.map ad → L' b = L b
def frC (ad : Nat → Nat) (M : qM) (I L : Nat → Nat → Int) (R : Nat → Nat → Option Nat) : Prop := ∀ b, (∀ r, r < 81 → b ≠ ad r) → I b = mI M b ∧ L b = mL M b ∧ R b = mR M b
def poC (M : qM) (ad : Nat → Nat) (σ : qS) (P : Option Value → Prop) : Option Value → qM → Prop := fun v M' => ∃ I L R, M' = wD M I L R ∧ frC ad M I L R ∧ CSt M' ad ∧ CDy σ ad I L R ∧ P v
section CS
variable {M : qM} {ad : Nat → Nat} {σ : qS} {I L I' L' : Nat → Nat → Int} {R R' : Nat → Nat → Option Nat}
theorem CS_x (h : CSt M ad) : qO M (ad 0) 4 := h.1 0 (by decide)
theorem CS_fo (h : CSt M ad) : qO M (ad 1) 2 := h.1 1 (by decide)
theorem CS_a1 (h : CSt M ad) : qAr M (ad 11) 10 16 := ⟨(h.1 11 (by decide)).1, (h.1 11 (by decide)).2, h.2.2.1.1⟩
theorem CS_a2 (h : CSt M ad) : qAr M (ad 12) 9 3 := ⟨(h.1 12 (by decide)).1, (h.1 12 (by decide)).2, h.2.2.1.2.1⟩
theorem CS_a3 (h : CSt M ad) : qAr M (ad 13) 8 3 := ⟨(h.1 13 (by decide)).1, (h.1 13 (by decide)).2, h.2.2.1.2.2⟩
theorem CS_fm (h : CSt M ad) {r : Nat} (h1 : 30 ≤ r) (h2 : r < 81) : qO M (ad r) 1 := ⟨(h.1 r h2).1, (h.1 r h2).2.trans (by unfold kdN; repeat rw [if_neg (by omega)])⟩
theorem CS_rd (h : CSt M ad) {r : Nat} (h1 : 14 ≤ r) (h2 : r < 30) : qO M (ad r) 3 := ⟨(h.1 r (by omega)).1, (h.1 r (by omega)).2.trans (by unfold kdN; rw [if_neg (by omega), if_neg (by omega), if_neg (by omega), if_neg (by omega), if_neg (by omega), if_neg (by omega), if_neg (by omega), if_pos h2])⟩
theorem CS_ne (h : CSt M ad) {r s : Nat} (hr : r < 81) (hs : s < 81) (hn : r ≠ s) : ad r ≠ ad s := fun h9 => hn (h.2.1 r s hr hs h9)
theorem CS_nin (h : CSt M ad) {r : Nat} (hr : r < 81) {S : List Nat} (hS : ∀ s ∈ S, s < 81 ∧ r ≠ s) : ad r ∉ S.map ad := by
  intro h9
  obtain ⟨s, h1, h2⟩ := List.mem_map.mp h9
  exact (hS s h1).2 (h.2.1 r s hr (hS s h1).1 h2.symm)
theorem CS_FO (h : CSt M ad) (hr : r32 (mI M (ad 1) 0)) : qFO M (ad 1) (ad 2) (ad 3) (ad 4) (ad 5) (ad 6) (ad 7) (ad 8) (ad 9) (ad 10) := by
  have hF := h.2.2.2.2.1
  refine ⟨h.1 1 (by decide), ⟨hF 1 (by decide) (by decide), hF 2 (by decide) (by decide), hF 3 (by decide) (by decide), hF 4 (by decide) (by decide), hF 5 (by decide) (by decide), hF 6 (by decide) (by decide), hF 7 (by decide) (by decide), hF 8 (by decide) (by decide), hF 9 (by decide) (by decide)⟩, ⟨h.1 2 (by decide), h.1 3 (by decide), h.1 4 (by decide), h.1 5 (by decide), h.1 6 (by decide), h.1 7 (by decide), h.1 8 (by decide), h.1 9 (by decide), h.1 10 (by decide)⟩, ?_, hr⟩
  have : ([2, 3, 4, 5, 6, 7, 8, 9, 10].map ad).Nodup := by
    refine List.Pairwise.map ad ?_ (R := fun a b => a ≠ b ∧ a < 81 ∧ b < 81) (by decide)
    intro a b h9; exact CS_ne h h9.2.1 h9.2.2 h9.1
  exact this
theorem CS_w (h : CSt M ad) (hR : ∀ a k, ¬ (a = ad 0 ∧ k = 6) → R' a k = mR M a k) : CSt (wD M I' L' R') ad := by
  obtain ⟨h1, h2, h3, ⟨p1, p2, p3, p4⟩, h5, h6, h7, h8⟩ := h
  refine ⟨h1, h2, h3, ⟨?_, ?_, ?_, ?_⟩, fun k a b => ?_, fun i a => ?_, fun j a => ?_, fun i k a b => ?_⟩
  · exact (hR _ _ (by omega)).trans p1
  · exact (hR _ _ (by omega)).trans p2
  · exact (hR _ _ (by omega)).trans p3
  · exact (hR _ _ (by omega)).trans p4
  · exact (hR _ _ (fun h9 => absurd (h2 1 0 (by decide) (by decide) h9.1) (by decide))).trans (h5 k a b)
  · exact (hR _ _ (fun h9 => absurd (h2 11 0 (by decide) (by decide) h9.1) (by decide))).trans (h6 i a)
  · exact (hR _ _ (fun h9 => absurd (h2 12 0 (by decide) (by decide) h9.1) (by decide))).trans (h7 j a)
  · exact (hR _ _ (fun h9 => absurd (h2 (14 + i) 0 (by omega) (by decide) h9.1) (by omega))).trans (h8 i k a b)
theorem frA_T {S : List Nat} (h : frA ad L L' S) {b : Nat} (hb : b ∉ S.map ad) : gT L' b = gT L b := by unfold gT; rw [h b hb]
theorem frA_rf (S : List Nat) : frA ad L L S := fun _ _ => rfl
theorem frA_tr {S : List Nat} {L2 : Nat → Nat → Int} (h : frA ad L L' S) (h' : frA ad L' L2 S) : frA ad L L2 S := fun b hb => (h' b hb).trans (h b hb)
theorem frA_w {S S' : List Nat} (h : frA ad L L' S) (hs : ∀ x ∈ S, x ∈ S') : frA ad L L' S' := fun b hb => h b (fun h9 => hb (by
  obtain ⟨s, h1, h2⟩ := List.mem_map.mp h9
  exact List.mem_map.mpr ⟨s, hs s h1, h2⟩))
theorem frA_m {S : List Nat} (h : frm M L' (S.map ad)) : frA ad (mL M) L' S := fun b hb => funext (fun k => h b k hb)
theorem frA_st {S : List Nat} (r : Nat) (hr : r ∈ S) (x y z : Int) : frA ad L (stF L (ad r) x y z) S := fun b hb => funext (fun k => stF_n L x y z (fun h9 => hb (by rw [h9]; exact List.mem_map.mpr ⟨r, hr, rfl⟩)) k)
theorem frA_4 {a b c d : Nat} (h : ∀ q k, q ≠ ad a → q ≠ ad b → q ≠ ad c → q ≠ ad d → L' q k = L q k) : frA ad L L' [a, b, c, d] := fun q hq => funext (fun k => by
  simp only [List.map, List.mem_cons, List.not_mem_nil, or_false, not_or] at hq
  exact h q k hq.1 hq.2.1 hq.2.2.1 hq.2.2.2)
theorem frA_6 {a b c d e f : Nat} (h : ∀ q k, q ≠ ad a → q ≠ ad b → q ≠ ad c → q ≠ ad d → q ≠ ad e → q ≠ ad f → L' q k = L q k) : frA ad L L' [a, b, c, d, e, f] := fun q hq => funext (fun k => by
  simp only [List.map, List.mem_cons, List.not_mem_nil, or_false, not_or] at hq
  exact h q k hq.1 hq.2.1 hq.2.2.1 hq.2.2.2.1 hq.2.2.2.2.1 hq.2.2.2.2.2)
theorem frA_o {S : List Nat} (h : frA ad L L' S) (hS : ∀ s ∈ S, s < 81) {b : Nat} (hb : ∀ r, r < 81 → b ≠ ad r) : L' b = L b := h b (fun h9 => by
  obtain ⟨s, h1, h2⟩ := List.mem_map.mp h9
  exact hb s (hS s h1) h2.symm)
/-- live forms have roles of their own -/
theorem fr_lt (hW : WF σ) {k : Nat} (hk : lvF σ k) : 30 ≤ frN σ k ∧ frN σ k < 81 := by
  have h1 := hW.2.1
  have h3 := h1.2.2
  have h4 := h1.1
  have h5 := h1.2.1
  unfold frN
  rcases hk with ⟨h2, -⟩ | ⟨h2, h2', hu⟩ | ⟨h2, h2'⟩
  · rw [if_pos h2]; omega
  · have := h3 hu; rw [if_neg (by omega), if_pos h2']; omega
  · rw [if_neg (by omega), if_neg (by omega)]; omega
theorem fr_inj (hW : WF σ) {k j : Nat} (hk : lvF σ k) (hj : lvF σ j) (h : frN σ k = frN σ j) : k = j := by
  have h1 := hW.2.1
  have h3 := h1.2.2
  have h4 := h1.1
  have h5 := h1.2.1
  unfold frN at h
  rcases hk with ⟨a2, -⟩ | ⟨a2, a2', hu⟩ | ⟨a2, a2'⟩ <;> rcases hj with ⟨b2, -⟩ | ⟨b2, b2', hv⟩ | ⟨b2, b2'⟩
  all_goals (repeat' split at h) <;> omega
/-- scratch forms are written -/
theorem CD_G (hC : CSt M ad) (hW : WF σ) (h : CDy σ ad I L R) {S : List Nat} (hf : frA ad L L' S) (hS : ∀ s ∈ S, 4 ≤ s ∧ s ≤ 10) : CDy σ ad I L' R := by
  obtain ⟨a, b, c, d, e, f, g⟩ := h
  have hg : ∀ r, r < 81 → (r < 4 ∨ 10 < r) → gT L' (ad r) = gT L (ad r) := fun r h1 h2 => frA_T hf (CS_nin hC h1 (fun s h3 => by have := hS s h3; omega))
  refine ⟨a, fun h9 => ?_, c, fun k hk => ?_, e, f, g⟩
  · rw [hg 2 (by decide) (by omega), hg 3 (by decide) (by omega)]; exact b h9
  · have := fr_lt hW hk; rw [hg _ (by omega) (by omega)]; exact d k hk
/-- a form of the buffer is written -/
theorem CD_S (hC : CSt M ad) (hW : WF σ) (h : CDy σ ad I L R) {S : List Nat} {j : Nat} {t : qT3} (hj : j < 3) (hf : frA ad L L' S) (hS : ∀ s ∈ S, (4 ≤ s ∧ s ≤ 10) ∨ s = 78 + j) (ht : gT L' (ad (78 + j)) = t) : CDy (setV (setF σ j t) j 1) ad (up2 I (ad 13) j 1) L' R := by
  obtain ⟨⟨a1, a2, a3⟩, b, c, d, e, f, g7⟩ := h
  have n : ∀ r, r < 81 → r ≠ 13 → ad r ≠ ad 13 := fun r h1 h2 => CS_ne hC h1 (by decide) h2
  have hg : ∀ r, r < 81 → (r < 4 ∨ 10 < r) → r ≠ 78 + j → gT L' (ad r) = gT L (ad r) := fun r h1 h2 h3 => frA_T hf (CS_nin hC h1 (fun s h4 => by rcases hS s h4 with h5 | h5 <;> omega))
  have hB := hW.2.1
  have hB1 := hB.1
  have hB2 := hB.2.1
  have hB3 := hB.2.2
  refine ⟨⟨?_, ?_, a3⟩, fun h9 => ⟨?_, ?_⟩, fun i hi => ?_, fun k hk => ?_, fun i hi => ?_, fun h9 => ?_, fun h9 => (up2_a _ _ (n 1 (by decide) (by decide))).trans (g7 h9)⟩
  · rw [up2_a _ _ (n 0 (by decide) (by decide))]; exact a1
  · rw [up2_a _ _ (n 0 (by decide) (by decide))]; exact a2
  · rw [up2_a _ _ (n 1 (by decide) (by decide))]; exact (b h9).1
  · rw [hg 2 (by decide) (by omega) (by omega), hg 3 (by decide) (by omega) (by omega)]; exact (b h9).2
  · show up2 I (ad 13) j 1 (ad 13) i = up1 (sV σ) j 1 i
    by_cases h : i = j
    · rw [h, up2_s, up1_s]
    · rw [up2_k _ _ h, up1_n _ _ h]; exact c i hi
  · show gT L' (ad (frN σ k)) = up1 (sF σ) j t k
    by_cases h : k = j
    · rw [h, up1_s]; rw [show frN σ j = 78 + j by unfold frN; rw [if_pos hj]]; exact ht
    · have hk' : lvF σ k := by
        rcases hk with ⟨h2, h3⟩ | h2 | h2
        · exact Or.inl ⟨h2, by rw [← show (up1 (sV σ) j 1) k = sV σ k from up1_n _ _ h]; exact h3⟩
        · exact Or.inr (Or.inl h2)
        · exact Or.inr (Or.inr h2)
      have := fr_lt hW hk'
      rw [up1_n _ _ h, hg _ (by omega) (by omega) (fun h9 => h ?_)]
      · exact d k hk'
      · unfold frN at h9
        rcases hk' with ⟨h2, -⟩ | ⟨h2, h2', hu⟩ | ⟨h2, h2'⟩
        · rw [if_pos h2] at h9; omega
        · have := hB3 hu; rw [if_neg (by omega), if_pos h2'] at h9; omega
        · rw [if_neg (by omega), if_neg (by omega)] at h9; omega
  · replace hi : (i : Int) < sB σ := hi
    rw [up2_a _ _ (n (14 + i) (by omega) (by omega)), up2_a _ _ (n (14 + i) (by omega) (by omega)), up2_a _ _ (n (14 + i) (by omega) (by omega))]; exact e i hi
  · have hlt := hB3 h9
    have hr : ∀ x, up2 I (ad 13) j 1 (ad (rnN σ)) x = I (ad (rnN σ)) x := fun x => up2_a _ _ (n (rnN σ) (by unfold rnN; omega) (by unfold rnN; omega))
    show (up2 I (ad 13) j 1 (ad (rnN σ)) 0 = _ ∧ up2 I (ad 13) j 1 (ad (rnN σ)) 3 = _ ∧ up2 I (ad 13) j 1 (ad (rnN σ)) 4 = _) ∧ up2 I (ad 13) j 1 (ad (rnN σ)) 1 = _ ∧ up2 I (ad 13) j 1 (ad (rnN σ)) 2 = _ ∧ up2 I (ad 13) j 1 (ad (rnN σ)) 5 = _
    rw [hr, hr, hr, hr, hr, hr]; exact f h9
/-- the running round is written -/
theorem CD_R (hC : CSt M ad) (hW : WF σ) (h : CDy σ ad I L R) {σ' : qS} (hB16 : sB σ < 16) (hD : sD σ' = sD σ) (hB : sB σ' = sB σ) (hU : sU σ' = 1) (hV : ∀ j, j < 3 → sV σ' j = sV σ j) (hF : ∀ k, k < 3 ∨ 6 ≤ k → sF σ' k = sF σ k) (hK : ∀ k, k < 48 → sC σ' k = sC σ k)
    {S : List Nat} (hf : frA ad L L' S) (hS : ∀ s ∈ S, (4 ≤ s ∧ s ≤ 10) ∨ (30 + 3 * (sB σ).toNat ≤ s ∧ s < 33 + 3 * (sB σ).toNat)) (hg : ∀ k, k < 3 → gT L' (ad (30 + 3 * (sB σ).toNat + k)) = sF σ' (3 + k))
    (hI : ∀ b, b ≠ ad (rnN σ) → I' b = I b) (hi : (I' (ad (rnN σ)) 0 = sC σ' 48 ∧ I' (ad (rnN σ)) 3 = sC σ' 49 ∧ I' (ad (rnN σ)) 4 = sC σ' 50) ∧ I' (ad (rnN σ)) 1 = sQ σ' ∧ I' (ad (rnN σ)) 2 = sT σ' ∧ I' (ad (rnN σ)) 5 = sX σ') (hR : R' (ad 0) 6 = some (ad (rnN σ))) : CDy σ' ad I' L' R' := by
  obtain ⟨⟨a1, a2, a3⟩, b, c, d, e, f, g7⟩ := h
  have hb0 := hW.2.1.1
  have hrn : rnN σ < 30 ∧ 14 ≤ rnN σ := by unfold rnN; omega
  have n : ∀ r, r < 81 → r ≠ rnN σ → ad r ≠ ad (rnN σ) := fun r h1 h2 => CS_ne hC h1 (by omega) h2
  have hgg : ∀ r, r < 81 → (r < 4 ∨ 10 < r) → ¬ (30 + 3 * (sB σ).toNat ≤ r ∧ r < 33 + 3 * (sB σ).toNat) → gT L' (ad r) = gT L (ad r) := fun r h1 h2 h3 => frA_T hf (CS_nin hC h1 (fun s h4 => by rcases hS s h4 with h5 | h5 <;> omega))
  have hrn' : rnN σ' = rnN σ := by unfold rnN; rw [hB]
  refine ⟨⟨?_, ?_, ?_⟩, fun h9 => ⟨?_, ?_⟩, fun i hi => ?_, fun k hk => ?_, fun i hi => ?_, fun h9 => ?_, fun h9 => by rw [hI _ (n 1 (by decide) (by omega))]; exact g7 (by rw [← hD]; exact h9)⟩
  · rw [hI _ (n 0 (by decide) (by omega)), hD]; exact a1
  · rw [hI _ (n 0 (by decide) (by omega)), hB]; exact a2
  · rw [hR, if_pos hU, hrn']
  · rw [hI _ (n 1 (by decide) (by omega)), hD]; exact (b (by rw [← hD]; exact h9)).1
  · rw [hgg 2 (by decide) (by omega) (by omega), hgg 3 (by decide) (by omega) (by omega), hD]; exact (b (by rw [← hD]; exact h9)).2
  · rw [hI _ (n 13 (by decide) (by omega)), hV i hi]; exact c i hi
  · rcases hk with ⟨h2, h3⟩ | ⟨h2, h2', -⟩ | ⟨h2, h3⟩
    · rw [hV k h2] at h3
      rw [show frN σ' k = 78 + k by unfold frN; rw [if_pos h2], hgg _ (by omega) (by omega) (by omega), hF k (Or.inl h2)]
      have := d k (Or.inl ⟨h2, h3⟩)
      rw [show frN σ k = 78 + k by unfold frN; rw [if_pos h2]] at this; exact this
    · have := hg (k - 3) (by omega)
      rw [show frN σ' k = 30 + 3 * (sB σ).toNat + (k - 3) by unfold frN; rw [if_neg (by omega), if_pos h2', hB]; omega, this, show 3 + (k - 3) = k by omega]
    · rw [hB] at h3
      have := d k (Or.inr (Or.inr ⟨h2, h3⟩))
      rw [show frN σ k = 24 + k by unfold frN; rw [if_neg (by omega), if_neg (by omega)]] at this
      rw [show frN σ' k = 24 + k by unfold frN; rw [if_neg (by omega), if_neg (by omega)], hgg _ (by omega) (by omega) (by omega), hF k (Or.inr h2)]; exact this
  · rw [hB] at hi
    rw [hI _ (n (14 + i) (by omega) (by unfold rnN; omega)), hK _ (by omega), hK _ (by omega), hK _ (by omega)]; exact e i hi
  · rw [hrn']; exact hi
/-- the running round is booked -/
theorem CD_P (hC : CSt M ad) (hW : WF σ) (h : CDy σ ad I L R) (hU : sU σ = 1) (hI : ∀ a k, ¬ (a = ad 0 ∧ k = 5) → I' a k = I a k) (hi : I' (ad 0) 5 = sB σ + 1) (hR : R' (ad 0) 6 = none) : CDy (n_4 σ) ad I' L R' := by
  obtain ⟨⟨a1, a2, a3⟩, b, c, d, e, f, g7⟩ := h
  have hb0 := hW.2.1.1
  have hb1 := hW.2.1.2.2 hU
  have n : ∀ r, r < 81 → r ≠ 0 → ad r ≠ ad 0 := fun r h1 h2 => CS_ne hC h1 (by decide) h2
  have hII : ∀ r, r < 81 → r ≠ 0 → ∀ k, I' (ad r) k = I (ad r) k := fun r h1 h2 k => hI _ _ (fun h9 => n r h1 h2 h9.1)
  obtain ⟨b0, hb⟩ : ∃ b0 : Nat, sB σ = b0 := ⟨(sB σ).toNat, by omega⟩
  have hb0' : (sB σ).toNat = b0 := by omega
  have eB : sB (n_4 σ) = sB σ + 1 := rfl
  have eF : ∀ x, sF (n_4 σ) x = if x = 6 + 3 * b0 + 2 then sF σ 5 else if x = 6 + 3 * b0 + 1 then sF σ 4 else if x = 6 + 3 * b0 then sF σ 3 else sF σ x := by
    intro x
    show up1 (up1 (up1 (sF σ) (6 + 3 * (sB σ).toNat + 0) (sF σ 3)) (6 + 3 * (sB σ).toNat + 1) (up1 (sF σ) (6 + 3 * (sB σ).toNat + 0) (sF σ 3) (3 + 1))) (6 + 3 * (sB σ).toNat + 2) (up1 (up1 (sF σ) (6 + 3 * (sB σ).toNat + 0) (sF σ 3)) (6 + 3 * (sB σ).toNat + 1) (up1 (sF σ) (6 + 3 * (sB σ).toNat + 0) (sF σ 3) (3 + 1)) (3 + 2)) x = _
    rw [hb0']; unfold up1
    rw [if_neg (show ¬ (3 + 1 = 6 + 3 * b0 + 0) by omega), if_neg (show ¬ (3 + 2 = 6 + 3 * b0 + 1) by omega), if_neg (show ¬ (3 + 2 = 6 + 3 * b0 + 0) by omega)]; rfl
  have eC : ∀ x, sC (n_4 σ) x = if x = 3 * b0 + 2 then sC σ 50 else if x = 3 * b0 + 1 then sC σ 49 else if x = 3 * b0 then sC σ 48 else sC σ x := by
    intro x
    show up1 (up1 (up1 (sC σ) (3 * (sB σ).toNat + 0) (sC σ 48)) (3 * (sB σ).toNat + 1) (up1 (sC σ) (3 * (sB σ).toNat + 0) (sC σ 48) (48 + 1))) (3 * (sB σ).toNat + 2) (up1 (up1 (sC σ) (3 * (sB σ).toNat + 0) (sC σ 48)) (3 * (sB σ).toNat + 1) (up1 (sC σ) (3 * (sB σ).toNat + 0) (sC σ 48) (48 + 1)) (48 + 2)) x = _
    rw [hb0']; unfold up1
    rw [if_neg (show ¬ (48 + 1 = 3 * b0 + 0) by omega), if_neg (show ¬ (48 + 2 = 3 * b0 + 1) by omega), if_neg (show ¬ (48 + 2 = 3 * b0 + 0) by omega)]; rfl
  refine ⟨⟨?_, ?_, ?_⟩, fun h9 => ⟨?_, (b h9).2⟩, fun i hi => ?_, fun k hk => ?_, fun i hi => ?_, fun h9 => ?_, fun h9 => by rw [hII 1 (by decide) (by decide)]; exact g7 h9⟩
  · rw [hI _ _ (by omega)]; exact a1
  · rw [hi]; rfl
  · rw [hR]; rfl
  · rw [hII 1 (by decide) (by decide)]; exact (b h9).1
  · rw [hII 13 (by decide) (by decide)]; exact c i hi
  · rcases hk with ⟨h2, h3⟩ | ⟨h2, h2', h3⟩ | ⟨h2, h3⟩
    · have := d k (Or.inl ⟨h2, h3⟩)
      rw [show frN σ k = 78 + k by unfold frN; rw [if_pos h2]] at this
      rw [show frN (n_4 σ) k = 78 + k by unfold frN; rw [if_pos h2], eF, if_neg (by omega), if_neg (by omega), if_neg (by omega)]; exact this
    · exact absurd (show (0 : Int) = 1 from h3) (by decide)
    · rw [eB] at h3
      rw [show frN (n_4 σ) k = 24 + k by unfold frN; rw [if_neg (by omega), if_neg (by omega)], eF]
      have hl : ∀ j, j < 3 → gT L (ad (30 + 3 * b0 + j)) = sF σ (3 + j) := fun j hj => by
        have := d (3 + j) (Or.inr (Or.inl ⟨by omega, by omega, hU⟩))
        rw [show frN σ (3 + j) = 30 + 3 * b0 + j by unfold frN; rw [if_neg (by omega), if_pos (by omega)]; omega] at this; exact this
      by_cases e2 : k = 6 + 3 * b0 + 2
      · rw [if_pos e2, e2, show 24 + (6 + 3 * b0 + 2) = 30 + 3 * b0 + 2 by omega]; exact hl 2 (by decide)
      · by_cases e1 : k = 6 + 3 * b0 + 1
        · rw [if_neg e2, if_pos e1, e1, show 24 + (6 + 3 * b0 + 1) = 30 + 3 * b0 + 1 by omega]; exact hl 1 (by decide)
        · by_cases e0 : k = 6 + 3 * b0
          · rw [if_neg e2, if_neg e1, if_pos e0, e0, show 24 + (6 + 3 * b0) = 30 + 3 * b0 + 0 by omega]; exact hl 0 (by decide)
          · rw [if_neg e2, if_neg e1, if_neg e0]
            have := d k (Or.inr (Or.inr ⟨h2, by omega⟩))
            rw [show frN σ k = 24 + k by unfold frN; rw [if_neg (by omega), if_neg (by omega)]] at this; exact this
  · rw [eB] at hi
    rw [hII _ (by omega) (by omega), hII _ (by omega) (by omega), hII _ (by omega) (by omega), eC, eC, eC]
    by_cases e0 : i = b0
    · have hh := (f hU).1
      rw [show rnN σ = 14 + i by unfold rnN; omega] at hh
      rw [e0, if_neg (by omega), if_neg (by omega), if_pos rfl, if_neg (by omega), if_pos rfl, if_pos rfl, ← e0]; exact hh
    · rw [if_neg (by omega), if_neg (by omega), if_neg (by omega), if_neg (by omega), if_neg (by omega), if_neg (by omega), if_neg (by omega), if_neg (by omega), if_neg (by omega)]; exact e i (by omega)
  · exact absurd (show (0 : Int) = 1 from h9) (by decide)
/-- the running round is dropped -/
theorem CD_D (hW : WF σ) (h : CDy σ ad I L R) (hR : R' (ad 0) 6 = none) : CDy (setU σ 0) ad I L R' := by
  obtain ⟨⟨a1, a2, a3⟩, b, c, d, e, f, g7⟩ := h
  refine ⟨⟨a1, a2, ?_⟩, b, c, fun k hk => ?_, e, fun h9 => absurd (show (0 : Int) = 1 from h9) (by decide), g7⟩
  · rw [hR]; rfl
  · rcases hk with h2 | ⟨h2, h2', h3⟩ | h2
    · exact d k (Or.inl h2)
    · exact absurd (show (0 : Int) = 1 from h3) (by decide)
    · exact d k (Or.inr (Or.inr h2))
/-- a discriminant is chosen -/
theorem CD_N (hU : sU σ ≠ 1) (h : CDy σ ad I L R) {n : Int} (hn : 7 ≤ n) (h4 : I' (ad 0) 4 = 1) (h5 : I' (ad 0) 5 = 0) (hi : I' (ad 1) 0 = n) (hv : ∀ j, j < 3 → I' (ad 13) j = 0) (h2 : gT L' (ad 2) = unT n) (h3 : gT L' (ad 3) = geT n) : CDy (n_0 σ n) ad I' L' R := by
  have hU' : sU (n_0 σ n) = sU σ := rfl
  have hV : ∀ j, j < 3 → sV (n_0 σ n) j = 0 := fun j hj => by
    show up1 (up1 (up1 (sV σ) 0 0) 1 0) 2 0 j = 0
    unfold up1
    by_cases e2 : j = 2
    · rw [if_pos e2]
    · by_cases e1 : j = 1
      · rw [if_neg e2, if_pos e1]
      · rw [if_neg e2, if_neg e1, if_pos (by omega)]
  have hD : sD (n_0 σ n) = n := rfl
  have hB : sB (n_0 σ n) = 0 := rfl
  refine ⟨⟨?_, h5, ?_⟩, fun _ => ⟨hi, h2, h3⟩, fun j hj => (hv j hj).trans (hV j hj).symm, fun k hk => ?_, fun i hi => ?_, fun h9 => absurd h9 (by rw [hU']; exact hU), fun h9 => absurd (show n = 0 from h9) (by omega)⟩
  · rw [h4, hD, if_neg (by omega)]
  · rw [hU', if_neg hU]; rw [h.1.2.2, if_neg hU]
  · rcases hk with ⟨h6, h7⟩ | ⟨-, -, h7⟩ | ⟨h6, h7⟩
    · rw [hV k h6] at h7; exact absurd h7 (by decide)
    · exact absurd h7 (by rw [hU']; exact hU)
    · rw [hB] at h7; omega
  · rw [hB] at hi; omega
end CS
