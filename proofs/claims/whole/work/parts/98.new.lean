/-! new cells -/
section NEW
variable {p : Program} {l : Launch} {e : Env} {R : Room} {s : State} {m : MethodId} {args : Array Value} {below : List Frame} {meth : Method} {c : Code} {Q : State → Prop}
variable {cc : ByteArray} {nL : Nat} {own : String} {D : va_G} {cy : Nat → ClassId} {A : Nat → Prop} {cells slots : Nat} {pc : Nat} {lv : List (Nat × Value)} {st : List Value} {M : qM}
theorem qW_push {q ki n : Nat} (hq : q ∉ mP M) : qW cy M ++ [(q, qC cy (sN M q ki n) q)] = qW cy (sN M q ki n) := by
  show (mP M).map (fun a => (a, qC cy M a)) ++ [(q, qC cy (sN M q ki n) q)] = (mP M ++ [q]).map (fun a => (a, qC cy (sN M q ki n) a))
  rw [List.map_append]
  congr 1
  apply List.map_congr_left
  intro a ha
  rw [qC_sN (fun h9 => hq (by rw [← h9]; exact ha))]
theorem qW_fresh {q : Nat} {x : va_E} (hD : va_D A (qW cy M ++ [(q, x)])) : q ∉ mP M := fun h => by
  obtain ⟨k, hk⟩ := qW_get (cy := cy) h
  have hlt : k < (qW cy M).length := (List.getElem?_eq_some_iff.mp hk).1
  have h1 : (qW cy M ++ [(q, x)])[k]? = some (q, qC cy M q) := by rw [List.getElem?_append_left hlt]; exact hk
  have h2 : (qW cy M ++ [(q, x)])[(qW cy M).length]? = some (q, x) := by rw [List.getElem?_append_right (Nat.le_refl _), Nat.sub_self]; rfl
  have := hD.1 _ _ _ _ h1 h2 rfl
  omega
def qM0 : qM := ([], fun _ => 0, fun _ => 0, fun _ _ => 0, fun _ _ => 0, fun _ _ => none)
theorem sN_k {q ki n : Nat} : mK (sN M q ki n) q = ki := by simp [sN, mK, va_up]
theorem q_new_0 {index : Nat} (G : qG p s m args meth c cc nL own D cy A) (hd : decode cc pc = .ok (.new index, 3)) (hw : Cond.classLink own index RX0 ∈ qB) (hRc : cells + 1 ≤ R.cells) (hRs : slots + 3 ≤ R.slots) (kk : ∀ q, q ∉ mP M → qK p l e R s m args below meth c Q nL D cy A (cells + 1) (slots + 3) (pc + 3) lv (.ref q :: st) (sN M q 0 0)) : qK p l e R s m args below meth c Q nL D cy A cells slots pc lv st M := by
  intro H locs ls hP hD hS hL
  refine va_new (ci := 0) (C := RX0) (T := TX0) (N := 3) (Ts := qB) (D := D) (A := A) (H0 := s.heap) (fs := qF 0 qM0 0) G.1 G.2.1 G.2.2.2.2.1 (by decide +kernel) tyX0 tyX0_ok G.2.2.2.1 (G.2.2.2.2.1 _ hw) (G.2.2.2.2.1 _ (by decide +kernel)) (G.2.2.2.2.1 _ (by decide +kernel)) G.2.2.2.2.2.2.1.1 hP hD hS G.2.2.2.2.2.2.2 rfl (by decide +kernel) hRc hRs hd (fun q H1 h1 h2 h3 => ?_)
  have hq := qW_fresh h2
  have e1 : ((q, .inr (0, qF 0 qM0 0)) : Nat × va_E) = (q, qC cy (sN M q 0 0) q) := by
    rw [qC_o (sN_k (M := M) (q := q) (ki := 0) (n := 0)) (by decide)]
    simp [qF, sN, mI, mL, mR, va_up, qM0]
  rw [e1, qW_push hq] at h1 h2
  exact kk q hq H1 locs ls h1 h2 h3 hL
theorem q_new_1 {index : Nat} (G : qG p s m args meth c cc nL own D cy A) (hd : decode cc pc = .ok (.new index, 3)) (hw : Cond.classLink own index RX1 ∈ qB) (hRc : cells + 1 ≤ R.cells) (hRs : slots + 3 ≤ R.slots) (kk : ∀ q, q ∉ mP M → qK p l e R s m args below meth c Q nL D cy A (cells + 1) (slots + 3) (pc + 3) lv (.ref q :: st) (sN M q 1 0)) : qK p l e R s m args below meth c Q nL D cy A cells slots pc lv st M := by
  intro H locs ls hP hD hS hL
  refine va_new (ci := 1) (C := RX1) (T := TX1) (N := 3) (Ts := qB) (D := D) (A := A) (H0 := s.heap) (fs := qF 1 qM0 0) G.1 G.2.1 G.2.2.2.2.1 (by decide +kernel) tyX1 tyX1_ok G.2.2.2.1 (G.2.2.2.2.1 _ hw) (G.2.2.2.2.1 _ (by decide +kernel)) (G.2.2.2.2.1 _ (by decide +kernel)) G.2.2.2.2.2.2.1.1 hP hD hS G.2.2.2.2.2.2.2 rfl (by decide +kernel) hRc hRs hd (fun q H1 h1 h2 h3 => ?_)
  have hq := qW_fresh h2
  have e1 : ((q, .inr (1, qF 1 qM0 0)) : Nat × va_E) = (q, qC cy (sN M q 1 0) q) := by
    rw [qC_o (sN_k (M := M) (q := q) (ki := 1) (n := 0)) (by decide)]
    simp [qF, sN, mI, mL, mR, va_up, qM0]
  rw [e1, qW_push hq] at h1 h2
  exact kk q hq H1 locs ls h1 h2 h3 hL
theorem q_new_2 {index : Nat} (G : qG p s m args meth c cc nL own D cy A) (hd : decode cc pc = .ok (.new index, 3)) (hw : Cond.classLink own index RX2 ∈ qB) (hRc : cells + 1 ≤ R.cells) (hRs : slots + 10 ≤ R.slots) (kk : ∀ q, q ∉ mP M → qK p l e R s m args below meth c Q nL D cy A (cells + 1) (slots + 10) (pc + 3) lv (.ref q :: st) (sN M q 2 0)) : qK p l e R s m args below meth c Q nL D cy A cells slots pc lv st M := by
  intro H locs ls hP hD hS hL
  refine va_new (ci := 2) (C := RX2) (T := TX2) (N := 10) (Ts := qB) (D := D) (A := A) (H0 := s.heap) (fs := qF 2 qM0 0) G.1 G.2.1 G.2.2.2.2.1 (by decide +kernel) tyX2 tyX2_ok G.2.2.2.1 (G.2.2.2.2.1 _ hw) (G.2.2.2.2.1 _ (by decide +kernel)) (G.2.2.2.2.1 _ (by decide +kernel)) G.2.2.2.2.2.2.1.1 hP hD hS G.2.2.2.2.2.2.2 rfl (by decide +kernel) hRc hRs hd (fun q H1 h1 h2 h3 => ?_)
  have hq := qW_fresh h2
  have e1 : ((q, .inr (2, qF 2 qM0 0)) : Nat × va_E) = (q, qC cy (sN M q 2 0) q) := by
    rw [qC_o (sN_k (M := M) (q := q) (ki := 2) (n := 0)) (by decide)]
    simp [qF, sN, mI, mL, mR, va_up, qM0]
  rw [e1, qW_push hq] at h1 h2
  exact kk q hq H1 locs ls h1 h2 h3 hL
theorem q_new_3 {index : Nat} (G : qG p s m args meth c cc nL own D cy A) (hd : decode cc pc = .ok (.new index, 3)) (hw : Cond.classLink own index RX3 ∈ qB) (hRc : cells + 1 ≤ R.cells) (hRs : slots + 9 ≤ R.slots) (kk : ∀ q, q ∉ mP M → qK p l e R s m args below meth c Q nL D cy A (cells + 1) (slots + 9) (pc + 3) lv (.ref q :: st) (sN M q 3 0)) : qK p l e R s m args below meth c Q nL D cy A cells slots pc lv st M := by
  intro H locs ls hP hD hS hL
  refine va_new (ci := 3) (C := RX3) (T := TX3) (N := 9) (Ts := qB) (D := D) (A := A) (H0 := s.heap) (fs := qF 3 qM0 0) G.1 G.2.1 G.2.2.2.2.1 (by decide +kernel) tyX3 tyX3_ok G.2.2.2.1 (G.2.2.2.2.1 _ hw) (G.2.2.2.2.1 _ (by decide +kernel)) (G.2.2.2.2.1 _ (by decide +kernel)) G.2.2.2.2.2.2.1.1 hP hD hS G.2.2.2.2.2.2.2 rfl (by decide +kernel) hRc hRs hd (fun q H1 h1 h2 h3 => ?_)
  have hq := qW_fresh h2
  have e1 : ((q, .inr (3, qF 3 qM0 0)) : Nat × va_E) = (q, qC cy (sN M q 3 0) q) := by
    rw [qC_o (sN_k (M := M) (q := q) (ki := 3) (n := 0)) (by decide)]
    simp [qF, sN, mI, mL, mR, va_up, qM0]
  rw [e1, qW_push hq] at h1 h2
  exact kk q hq H1 locs ls h1 h2 h3 hL
theorem q_new_4 {index : Nat} (G : qG p s m args meth c cc nL own D cy A) (hd : decode cc pc = .ok (.new index, 3)) (hw : Cond.classLink own index RX4 ∈ qB) (hRc : cells + 1 ≤ R.cells) (hRs : slots + 7 ≤ R.slots) (kk : ∀ q, q ∉ mP M → qK p l e R s m args below meth c Q nL D cy A (cells + 1) (slots + 7) (pc + 3) lv (.ref q :: st) (sN M q 4 0)) : qK p l e R s m args below meth c Q nL D cy A cells slots pc lv st M := by
  intro H locs ls hP hD hS hL
  refine va_new (ci := 4) (C := RX4) (T := TX4) (N := 7) (Ts := qB) (D := D) (A := A) (H0 := s.heap) (fs := qF 4 qM0 0) G.1 G.2.1 G.2.2.2.2.1 (by decide +kernel) tyX4 tyX4_ok G.2.2.2.1 (G.2.2.2.2.1 _ hw) (G.2.2.2.2.1 _ (by decide +kernel)) (G.2.2.2.2.1 _ (by decide +kernel)) G.2.2.2.2.2.2.1.1 hP hD hS G.2.2.2.2.2.2.2 rfl (by decide +kernel) hRc hRs hd (fun q H1 h1 h2 h3 => ?_)
  have hq := qW_fresh h2
  have e1 : ((q, .inr (4, qF 4 qM0 0)) : Nat × va_E) = (q, qC cy (sN M q 4 0) q) := by
    rw [qC_o (sN_k (M := M) (q := q) (ki := 4) (n := 0)) (by decide)]
    simp [qF, sN, mI, mL, mR, va_up, qM0]
  rw [e1, qW_push hq] at h1 h2
  exact kk q hq H1 locs ls h1 h2 h3 hL
theorem q_new_5 {index : Nat} (G : qG p s m args meth c cc nL own D cy A) (hd : decode cc pc = .ok (.new index, 3)) (hw : Cond.classLink own index RX5 ∈ qB) (hRc : cells + 1 ≤ R.cells) (hRs : slots + 12 ≤ R.slots) (kk : ∀ q, q ∉ mP M → qK p l e R s m args below meth c Q nL D cy A (cells + 1) (slots + 12) (pc + 3) lv (.ref q :: st) (sN M q 5 0)) : qK p l e R s m args below meth c Q nL D cy A cells slots pc lv st M := by
  intro H locs ls hP hD hS hL
  refine va_new (ci := 5) (C := RX5) (T := TX5) (N := 12) (Ts := qB) (D := D) (A := A) (H0 := s.heap) (fs := qF 5 qM0 0) G.1 G.2.1 G.2.2.2.2.1 (by decide +kernel) tyX5 tyX5_ok G.2.2.2.1 (G.2.2.2.2.1 _ hw) (G.2.2.2.2.1 _ (by decide +kernel)) (G.2.2.2.2.1 _ (by decide +kernel)) G.2.2.2.2.2.2.1.1 hP hD hS G.2.2.2.2.2.2.2 rfl (by decide +kernel) hRc hRs hd (fun q H1 h1 h2 h3 => ?_)
  have hq := qW_fresh h2
  have e1 : ((q, .inr (5, qF 5 qM0 0)) : Nat × va_E) = (q, qC cy (sN M q 5 0) q) := by
    rw [qC_o (sN_k (M := M) (q := q) (ki := 5) (n := 0)) (by decide)]
    simp [qF, sN, mI, mL, mR, va_up, qM0]
  rw [e1, qW_push hq] at h1 h2
  exact kk q hq H1 locs ls h1 h2 h3 hL
theorem q_newaI {n : Int} (G : qG p s m args meth c cc nL own D cy A) (hd : decode cc pc = .ok (.newarray .int, 2)) (h0 : 0 ≤ n) (hn : n ≤ 1000) (hRc : cells + 1 ≤ R.cells) (hRs : slots + n.toNat ≤ R.slots) (kk : ∀ q, q ∉ mP M → qK p l e R s m args below meth c Q nL D cy A (cells + 1) (slots + n.toNat) (pc + 2) lv (.ref q :: st) (sN M q 6 n.toNat)) : qK p l e R s m args below meth c Q nL D cy A cells slots pc lv (.int (qI n) :: st) M := by
  intro H locs ls hP hD hS hL
  have hnat := qI_nat h0 (by omega)
  refine va_newa (D := D) (A := A) (H0 := s.heap) (ty := .int) (a0 := (n.toNat, .inl (fun _ => qI 0))) G.1 G.2.1 (G.2.2.2.2.1 _ (by decide +kernel)) rfl G.2.2.2.2.2.2.1.1 hP hD hS G.2.2.2.2.2.2.2 (fun cA => rfl) (qI_in h0 (show n < ((n.toNat + 1 : Nat) : Int) by omega) (by omega) ∘ Or.inl) hnat (by show n.toNat * _ ≤ _; simp [componentBytes]; omega) hRc hRs hd (fun q cA H1 hK h1 h2 h3 => ?_)
  have hq := qW_fresh h2
  have hcA : cA = cy 0 := by
    have k1 := (hK.2 0 (cy 0, .int) rfl).2
    have k2 := (hK.2 5 (cA, .int) rfl).2
    exact Option.some.inj (k2.symm.trans k1)
  subst hcA
  have e1 : ((q, .inl (cy 0, n.toNat, .inl (fun _ => qI 0))) : Nat × va_E) = (q, qC cy (sN M q 6 n.toNat) q) := by
    rw [qC_I (sN_k (M := M) (q := q) (ki := 6) (n := n.toNat))]
    simp [sN, mN, mI, mL, mR, va_up]
  rw [e1, qW_push hq] at h1 h2
  exact kk q hq H1 locs ls h1 h2 h3 hL
theorem q_newaJ {n : Int} (G : qG p s m args meth c cc nL own D cy A) (hd : decode cc pc = .ok (.newarray .long, 2)) (h0 : 0 ≤ n) (hn : n ≤ 1000) (hRc : cells + 1 ≤ R.cells) (hRs : slots + n.toNat ≤ R.slots) (kk : ∀ q, q ∉ mP M → qK p l e R s m args below meth c Q nL D cy A (cells + 1) (slots + n.toNat) (pc + 2) lv (.ref q :: st) (sN M q 7 n.toNat)) : qK p l e R s m args below meth c Q nL D cy A cells slots pc lv (.int (qI n) :: st) M := by
  intro H locs ls hP hD hS hL
  have hnat := qI_nat h0 (by omega)
  refine va_newa (D := D) (A := A) (H0 := s.heap) (ty := .long) (a0 := (n.toNat, .inr (.inl (fun _ => qL 0)))) G.1 G.2.1 (G.2.2.2.2.1 _ (by decide +kernel)) rfl G.2.2.2.2.2.2.1.1 hP hD hS G.2.2.2.2.2.2.2 (fun cA => rfl) (qI_in h0 (show n < ((n.toNat + 1 : Nat) : Int) by omega) (by omega) ∘ Or.inl) hnat (by show n.toNat * _ ≤ _; simp [componentBytes]; omega) hRc hRs hd (fun q cA H1 hK h1 h2 h3 => ?_)
  have hq := qW_fresh h2
  have hcA : cA = cy 1 := by
    have k1 := (hK.2 1 (cy 1, .long) rfl).2
    have k2 := (hK.2 5 (cA, .long) rfl).2
    exact Option.some.inj (k2.symm.trans k1)
  subst hcA
  have e1 : ((q, .inl (cy 1, n.toNat, .inr (.inl (fun _ => qL 0)))) : Nat × va_E) = (q, qC cy (sN M q 7 n.toNat) q) := by
    rw [qC_J (sN_k (M := M) (q := q) (ki := 7) (n := n.toNat))]
    simp [sN, mN, mI, mL, mR, va_up]
  rw [e1, qW_push hq] at h1 h2
  exact kk q hq H1 locs ls h1 h2 h3 hL
theorem q_newaZ {n : Int} (G : qG p s m args meth c cc nL own D cy A) (hd : decode cc pc = .ok (.newarray .boolean, 2)) (h0 : 0 ≤ n) (hn : n ≤ 1000) (hRc : cells + 1 ≤ R.cells) (hRs : slots + n.toNat ≤ R.slots) (kk : ∀ q, q ∉ mP M → qK p l e R s m args below meth c Q nL D cy A (cells + 1) (slots + n.toNat) (pc + 2) lv (.ref q :: st) (sN M q 8 n.toNat)) : qK p l e R s m args below meth c Q nL D cy A cells slots pc lv (.int (qI n) :: st) M := by
  intro H locs ls hP hD hS hL
  have hnat := qI_nat h0 (by omega)
  refine va_newa (D := D) (A := A) (H0 := s.heap) (ty := .boolean) (a0 := (n.toNat, .inl (fun _ => qI 0))) G.1 G.2.1 (G.2.2.2.2.1 _ (by decide +kernel)) rfl G.2.2.2.2.2.2.1.1 hP hD hS G.2.2.2.2.2.2.2 (fun cA => rfl) (qI_in h0 (show n < ((n.toNat + 1 : Nat) : Int) by omega) (by omega) ∘ Or.inl) hnat (by show n.toNat * _ ≤ _; simp [componentBytes]; omega) hRc hRs hd (fun q cA H1 hK h1 h2 h3 => ?_)
  have hq := qW_fresh h2
  have hcA : cA = cy 2 := by
    have k1 := (hK.2 2 (cy 2, .boolean) rfl).2
    have k2 := (hK.2 5 (cA, .boolean) rfl).2
    exact Option.some.inj (k2.symm.trans k1)
  subst hcA
  have e1 : ((q, .inl (cy 2, n.toNat, .inl (fun _ => qI 0))) : Nat × va_E) = (q, qC cy (sN M q 8 n.toNat) q) := by
    rw [qC_Z (sN_k (M := M) (q := q) (ki := 8) (n := n.toNat))]
    simp [sN, mN, mI, mL, mR, va_up]
  rw [e1, qW_push hq] at h1 h2
  exact kk q hq H1 locs ls h1 h2 h3 hL
theorem q_newqF {n : Int} {index : Nat} (G : qG p s m args meth c cc nL own D cy A) (hd : decode cc pc = .ok (.anewarray index, 3)) (hw : Cond.classLink own index RX1 ∈ qB) (h0 : 0 ≤ n) (hn : n ≤ 1000) (hRc : cells + 1 ≤ R.cells) (hRs : slots + n.toNat ≤ R.slots) (kk : ∀ q, q ∉ mP M → qK p l e R s m args below meth c Q nL D cy A (cells + 1) (slots + n.toNat) (pc + 3) lv (.ref q :: st) (sN M q 9 n.toNat)) : qK p l e R s m args below meth c Q nL D cy A cells slots pc lv (.int (qI n) :: st) M := by
  intro H locs ls hP hD hS hL
  have hnat := qI_nat h0 (by omega)
  refine va_newq (D := D) (A := A) (H0 := s.heap) (C := RX1) G.1 G.2.1 G.2.2.2.1 (G.2.2.2.2.1 _ hw) (va_AO.of (G.2.2.2.2.2.2.1.2.1 _ (List.mem_filter.mpr ⟨by decide +kernel, rfl⟩))) G.2.2.2.2.2.2.1.1 hP hD hS G.2.2.2.2.2.2.2 (qI_in h0 (show n < ((n.toNat + 1 : Nat) : Int) by omega) (by omega) ∘ Or.inl) hnat (by omega) hRc hRs hd (fun q cA H1 hK h1 h2 h3 => ?_)
  have hq := qW_fresh h2
  have hcA : cA = cy 3 := by
    obtain ⟨-, -, -, -, -, k1⟩ := (hK.2 3 (cy 3, .object RX1) rfl).2
    obtain ⟨-, -, -, -, -, k2⟩ := (hK.2 5 (cA, .object RX1) rfl).2
    exact Option.some.inj (k2.symm.trans k1)
  subst hcA
  have e1 : ((q, .inl (cy 3, n.toNat, .inr (.inr (.inr (.inr (fun _ => none)))))) : Nat × va_E) = (q, qC cy (sN M q 9 n.toNat) q) := by
    rw [qC_F (sN_k (M := M) (q := q) (ki := 9) (n := n.toNat))]
    simp [sN, mN, mI, mL, mR, va_up]
  rw [e1, qW_push hq] at h1 h2
  exact kk q hq H1 locs ls h1 h2 h3 hL
theorem q_aastF {a v : Nat} {i : Int} (G : qG p s m args meth c cc nL own D cy A) (hd : decode cc pc = .ok (.aastore, 1)) (ha : a ∈ mP M) (hk : mK M a = 9) (hv : v ∈ mP M) (hkv : mK M v = 1) (h0 : 0 ≤ i) (hi : i < mN M a) (hN : mN M a < 2147483648) (kk : qK p l e R s m args below meth c Q nL D cy A cells slots (pc + 1) lv st (sR M a i.toNat (some v))) : qK p l e R s m args below meth c Q nL D cy A cells slots pc lv (.ref v :: .int (qI i) :: .ref a :: st) M := by
  intro H locs ls hP hD hS hL
  obtain ⟨q0, hq⟩ := qW_get (cy := cy) ha
  obtain ⟨qk, hqk⟩ := qW_get (cy := cy) hv
  have hq2 := hq
  rw [qC_F hk] at hq
  rw [qC_o hkv (by decide)] at hqk
  have hset := qW_set (M' := sR M a i.toNat (some v)) hD ha hq2 rfl (fun b hb => qC_sR hb)
  rw [qC_F (show mK (sR M a i.toNat (some v)) a = 9 from hk)] at hset
  refine va_astq (D := D) G.1 G.2.1 G.2.2.2.2.2.2.1.1 hP hD hS q0 3 qk 1 hq rfl hqk rfl (qI_in h0 hi hN) hd (fun H1 locs1 h1 h2 h3 => ?_)
  have ef : va_up (fun j => mR M a j) (qI i).toNatClampNeg (some v) = fun j => mR (sR M a i.toNat (some v)) a j := by
    rw [qI_nat h0 (by omega)]
    funext j
    by_cases h : j = i.toNat
    · rw [h]; simp [va_up, sR, mR, up2]
    · simp [va_up, sR, mR, up2, h]
  rw [ef] at h1 h2
  rw [show mN M a = mN (sR M a i.toNat (some v)) a from rfl, hset] at h1 h2
  exact kk H1 locs1 ls h1 h2 h3 hL
theorem q_newqR {n : Int} {index : Nat} (G : qG p s m args meth c cc nL own D cy A) (hd : decode cc pc = .ok (.anewarray index, 3)) (hw : Cond.classLink own index RX3 ∈ qB) (h0 : 0 ≤ n) (hn : n ≤ 1000) (hRc : cells + 1 ≤ R.cells) (hRs : slots + n.toNat ≤ R.slots) (kk : ∀ q, q ∉ mP M → qK p l e R s m args below meth c Q nL D cy A (cells + 1) (slots + n.toNat) (pc + 3) lv (.ref q :: st) (sN M q 10 n.toNat)) : qK p l e R s m args below meth c Q nL D cy A cells slots pc lv (.int (qI n) :: st) M := by
  intro H locs ls hP hD hS hL
  have hnat := qI_nat h0 (by omega)
  refine va_newq (D := D) (A := A) (H0 := s.heap) (C := RX3) G.1 G.2.1 G.2.2.2.1 (G.2.2.2.2.1 _ hw) (va_AO.of (G.2.2.2.2.2.2.1.2.1 _ (List.mem_filter.mpr ⟨by decide +kernel, rfl⟩))) G.2.2.2.2.2.2.1.1 hP hD hS G.2.2.2.2.2.2.2 (qI_in h0 (show n < ((n.toNat + 1 : Nat) : Int) by omega) (by omega) ∘ Or.inl) hnat (by omega) hRc hRs hd (fun q cA H1 hK h1 h2 h3 => ?_)
  have hq := qW_fresh h2
  have hcA : cA = cy 4 := by
    obtain ⟨-, -, -, -, -, k1⟩ := (hK.2 4 (cy 4, .object RX3) rfl).2
    obtain ⟨-, -, -, -, -, k2⟩ := (hK.2 5 (cA, .object RX3) rfl).2
    exact Option.some.inj (k2.symm.trans k1)
  subst hcA
  have e1 : ((q, .inl (cy 4, n.toNat, .inr (.inr (.inr (.inr (fun _ => none)))))) : Nat × va_E) = (q, qC cy (sN M q 10 n.toNat) q) := by
    rw [qC_R (sN_k (M := M) (q := q) (ki := 10) (n := n.toNat))]
    simp [sN, mN, mI, mL, mR, va_up]
  rw [e1, qW_push hq] at h1 h2
  exact kk q hq H1 locs ls h1 h2 h3 hL
theorem q_aastR {a v : Nat} {i : Int} (G : qG p s m args meth c cc nL own D cy A) (hd : decode cc pc = .ok (.aastore, 1)) (ha : a ∈ mP M) (hk : mK M a = 10) (hv : v ∈ mP M) (hkv : mK M v = 3) (h0 : 0 ≤ i) (hi : i < mN M a) (hN : mN M a < 2147483648) (kk : qK p l e R s m args below meth c Q nL D cy A cells slots (pc + 1) lv st (sR M a i.toNat (some v))) : qK p l e R s m args below meth c Q nL D cy A cells slots pc lv (.ref v :: .int (qI i) :: .ref a :: st) M := by
  intro H locs ls hP hD hS hL
  obtain ⟨q0, hq⟩ := qW_get (cy := cy) ha
  obtain ⟨qk, hqk⟩ := qW_get (cy := cy) hv
  have hq2 := hq
  rw [qC_R hk] at hq
  rw [qC_o hkv (by decide)] at hqk
  have hset := qW_set (M' := sR M a i.toNat (some v)) hD ha hq2 rfl (fun b hb => qC_sR hb)
  rw [qC_R (show mK (sR M a i.toNat (some v)) a = 10 from hk)] at hset
  refine va_astq (D := D) G.1 G.2.1 G.2.2.2.2.2.2.1.1 hP hD hS q0 4 qk 3 hq rfl hqk rfl (qI_in h0 hi hN) hd (fun H1 locs1 h1 h2 h3 => ?_)
  have ef : va_up (fun j => mR M a j) (qI i).toNatClampNeg (some v) = fun j => mR (sR M a i.toNat (some v)) a j := by
    rw [qI_nat h0 (by omega)]
    funext j
    by_cases h : j = i.toNat
    · rw [h]; simp [va_up, sR, mR, up2]
    · simp [va_up, sR, mR, up2, h]
  rw [ef] at h1 h2
  rw [show mN M a = mN (sR M a i.toNat (some v)) a from rfl, hset] at h1 h2
  exact kk H1 locs1 ls h1 h2 h3 hL
end NEW
