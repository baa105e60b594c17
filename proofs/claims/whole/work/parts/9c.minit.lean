def poX5 (M : qM) (mo : Nat) : Option Value → qM → Prop := fun v M' => v = none ∧ ∃ qa qb qc qf qt, qMO M' mo qa qb qc qf qt ∧ RMd sg0 (mI M') (mL M') mo qa qb qc qf qt ∧ FrE M M' mo ∧ (qa ∉ mP M ∧ qb ∉ mP M ∧ qc ∉ mP M ∧ qf ∉ mP M ∧ qt ∉ mP M)
theorem m5_fin {M : qM} {mo qa qb qc qf qt : Nat} (hO : qO M mo 5) (hI0 : mI M mo = fun _ => 0) (hL0 : mL M mo = fun _ => 0) (h1 : qa ∉ mP (M)) (h2 : qb ∉ mP (sR (sN (M) qa 7 64) mo 2 (some qa))) (h3 : qc ∉ mP (sR (sN (sR (sN (M) qa 7 64) mo 2 (some qa)) qb 7 64) mo 3 (some qb))) (h4 : qf ∉ mP (sR (sN (sR (sN (sR (sN (M) qa 7 64) mo 2 (some qa)) qb 7 64) mo 3 (some qb)) qc 7 64) mo 4 (some qc))) (h5 : qt ∉ mP (sR (sN (sR (sN (sR (sN (sR (sN (M) qa 7 64) mo 2 (some qa)) qb 7 64) mo 3 (some qb)) qc 7 64) mo 4 (some qc)) qf 8 3) mo 5 (some qf))) : poX5 M mo none (sR (sN (sR (sN (sR (sN (sR (sN (sR (sN (M) qa 7 64) mo 2 (some qa)) qb 7 64) mo 3 (some qb)) qc 7 64) mo 4 (some qc)) qf 8 3) mo 5 (some qf)) qt 6 51) mo 8 (some qt)) := by
  have P1 : ∀ (N : qM) (q ki n k : Nat) (v : Option Nat) (a : Nat), a ∈ mP (sR (sN N q ki n) mo k v) ↔ a ∈ mP N ∨ a = q := fun N q ki n k v a => by
    show a ∈ mP N ++ [q] ↔ _
    rw [List.mem_append, List.mem_singleton]
  have i2 := h2; have i3 := h3; have i4 := h4; have i5 := h5
  simp only [P1, not_or] at i2 i3 i4 i5
  have hm := hO.1
  have n1 : mo ≠ qa := fun h => h1 (h ▸ hm)
  have n2 : mo ≠ qb := fun h => i2.1 (h ▸ hm)
  have n3 : mo ≠ qc := fun h => i3.1.1 (h ▸ hm)
  have n4 : mo ≠ qf := fun h => i4.1.1.1 (h ▸ hm)
  have n5 : mo ≠ qt := fun h => i5.1.1.1.1 (h ▸ hm)
  have e21 := i2.2; have e31 := i3.1.2; have e32 := i3.2; have e41 := i4.1.1.2; have e42 := i4.1.2; have e43 := i4.2; have e51 := i5.1.1.1.2; have e52 := i5.1.1.2; have e53 := i5.1.2; have e54 := i5.2
  have hk := hO.2
  have rI : ∀ (α : Type) (f : Nat → α) (a1 a2 a3 a4 a5 : α), va_up (va_up (va_up (va_up (va_up f qa a1) qb a2) qc a3) qf a4) qt a5 mo = f mo := fun α f a1 a2 a3 a4 a5 => by rw [va_up_ne _ _ n5, va_up_ne _ _ n4, va_up_ne _ _ n3, va_up_ne _ _ n2, va_up_ne _ _ n1]
  have zI : ∀ k, va_up (va_up (va_up (va_up (va_up (mI M) qa (fun _ => 0)) qb (fun _ => 0)) qc (fun _ => 0)) qf (fun _ => 0)) qt (fun _ => 0) mo k = 0 := fun k => by rw [rI, hI0]
  have zL : ∀ k, va_up (va_up (va_up (va_up (va_up (mL M) qa (fun _ => 0)) qb (fun _ => 0)) qc (fun _ => 0)) qf (fun _ => 0)) qt (fun _ => 0) mo k = 0 := fun k => by rw [rI, hL0]
  have F5 : FrE M (sR (sN (sR (sN (sR (sN (sR (sN (sR (sN (M) qa 7 64) mo 2 (some qa)) qb 7 64) mo 3 (some qb)) qc 7 64) mo 4 (some qc)) qf 8 3) mo 5 (some qf)) qt 6 51) mo 8 (some qt)) mo := FrE_tr (FrE_tr (FrE_tr (FrE_tr (FrE_tr (FrE_tr (FrE_tr (FrE_tr (FrE_tr (FrE_new h1) (FrE_R _ _)) (FrE_new h2)) (FrE_R _ _)) (FrE_new h3)) (FrE_R _ _)) (FrE_new h4)) (FrE_R _ _)) (FrE_new h5)) (FrE_R _ _)
  refine ⟨rfl, qa, qb, qc, qf, qt, ⟨⟨?_, (F5 mo hm).2.1.trans hk⟩, ⟨?_, ?_, ?_, ?_, ?_⟩, ⟨⟨?_, ?_, ?_⟩, ⟨?_, ?_, ?_⟩, ⟨?_, ?_, ?_⟩, ⟨?_, ?_, ?_⟩, ⟨?_, ?_, ?_⟩⟩, ⟨Ne.symm e21, Ne.symm e31, Ne.symm e32, n1, n2, n3⟩⟩, ⟨⟨zL 1, zI 6, zI 7, zI 9, zI 10, zI 11⟩, fun k hk => ?_, fun j hj => ?_, fun j hj => ?_, fun h9 => absurd (show (0 : Int) = 0 from rfl) h9⟩, F5, ⟨h1, i2.1, i3.1.1, i4.1.1.1, i5.1.1.1.1⟩⟩
  all_goals first | (simp only [P1]; simp [hm]; done) | (simp [sR, sN, mK, mN, mI, mL, mR, mP, va_up, up2, n1, n2, n3, n4, n5, Ne.symm n1, Ne.symm n2, Ne.symm n3, Ne.symm n4, Ne.symm n5, e21, e31, e32, e41, e42, e43, e51, e52, e53, e54, Ne.symm e21, Ne.symm e31, Ne.symm e32, Ne.symm e41, Ne.symm e42, Ne.symm e43, Ne.symm e51, Ne.symm e52, Ne.symm e53, Ne.symm e54, sg0, sD, sU, sB, sQ, sT, sX, sF, sV, sC, gM]; done) | skip
set_option maxRecDepth 100000 in
set_option maxHeartbeats 4000000 in
theorem c_X5_init (l : Launch) (D : va_G) (cy : Nat → ClassId) (M : qM) (mo : Nat) (hO : qO M mo 5) (hI0 : mI M mo = fun _ => 0) (hL0 : mL M mo = fun _ => 0) : qCt l D cy yX5_init cX5_init 1 none { frames := 1, cells := 5, slots := 246, locals := 20 } 5 246 [.ref mo] M (poX5 M mo) := by
  refine qCt_of (lv0 := [(0, .ref mo)]) (by decide) rfl (Nat.le_of_ble_eq_true rfl) ?_
  intro p e s m args below meth c G hname hret
  refine q_aload_n G 0 0 dX5_init_0 rfl rfl ?_
  refine q_obj G dX5_init_1 tw_582 (by decide) (by decide) ?_
  refine q_aload_n G 0 0 dX5_init_4 rfl rfl ?_
  refine q_bipush G dX5_init_5 (by decide +kernel) ?_
  refine q_newaJ (n := 64) G dX5_init_7 (by decide) (by decide) (by dsimp only; omega) (by dsimp only; omega) (fun qa hqa => ?_)
  have oqa : qO (sN (M) qa 7 (Int.toNat 64)) mo 5 := qO_old hqa hO
  refine q_pR (z := some qa) G dX5_init_9 (pl_X5_7 _) (fun _ _ _ _ _ => hname) oqa (by decide) (Nat.le_of_ble_eq_true rfl) (fs_5_2 _ _ _) ?_
  refine q_aload_n G 0 0 dX5_init_12 rfl rfl ?_
  refine q_bipush G dX5_init_13 (by decide +kernel) ?_
  refine q_newaJ (n := 64) G dX5_init_15 (by decide) (by decide) (by dsimp only; omega) (by dsimp only; omega) (fun qb hqb => ?_)
  have oqb : qO (sN (sR (sN (M) qa 7 (Int.toNat 64)) mo 2 (some qa)) qb 7 (Int.toNat 64)) mo 5 := qO_old hqb oqa
  refine q_pR (z := some qb) G dX5_init_17 (pl_X5_13 _) (fun _ _ _ _ _ => hname) oqb (by decide) (Nat.le_of_ble_eq_true rfl) (fs_5_3 _ _ _) ?_
  refine q_aload_n G 0 0 dX5_init_20 rfl rfl ?_
  refine q_bipush G dX5_init_21 (by decide +kernel) ?_
  refine q_newaJ (n := 64) G dX5_init_23 (by decide) (by decide) (by dsimp only; omega) (by dsimp only; omega) (fun qc hqc => ?_)
  have oqc : qO (sN (sR (sN (sR (sN (M) qa 7 (Int.toNat 64)) mo 2 (some qa)) qb 7 (Int.toNat 64)) mo 3 (some qb)) qc 7 (Int.toNat 64)) mo 5 := qO_old hqc oqb
  refine q_pR (z := some qc) G dX5_init_25 (pl_X5_16 _) (fun _ _ _ _ _ => hname) oqc (by decide) (Nat.le_of_ble_eq_true rfl) (fs_5_4 _ _ _) ?_
  refine q_aload_n G 0 0 dX5_init_28 rfl rfl ?_
  refine q_iconst G dX5_init_29 ?_
  refine q_newaZ (n := 3) G dX5_init_30 (by decide) (by decide) (by dsimp only; omega) (by dsimp only; omega) (fun qf hqf => ?_)
  have oqf : qO (sN (sR (sN (sR (sN (sR (sN (M) qa 7 (Int.toNat 64)) mo 2 (some qa)) qb 7 (Int.toNat 64)) mo 3 (some qb)) qc 7 (Int.toNat 64)) mo 4 (some qc)) qf 8 (Int.toNat 3)) mo 5 := qO_old hqf oqc
  refine q_pR (z := some qf) G dX5_init_32 (pl_X5_19 _) (fun _ _ _ _ _ => hname) oqf (by decide) (Nat.le_of_ble_eq_true rfl) (fs_5_5 _ _ _) ?_
  refine q_aload_n G 0 0 dX5_init_35 rfl rfl ?_
  refine q_bipush G dX5_init_36 (by decide +kernel) ?_
  refine q_newaI (n := 51) G dX5_init_38 (by decide) (by decide) (by dsimp only; omega) (by dsimp only; omega) (fun qt hqt => ?_)
  have oqt : qO (sN (sR (sN (sR (sN (sR (sN (sR (sN (M) qa 7 (Int.toNat 64)) mo 2 (some qa)) qb 7 (Int.toNat 64)) mo 3 (some qb)) qc 7 (Int.toNat 64)) mo 4 (some qc)) qf 8 (Int.toNat 3)) mo 5 (some qf)) qt 6 (Int.toNat 51)) mo 5 := qO_old hqt oqf
  refine q_pR (z := some qt) G dX5_init_40 (pl_X5_23 _) (fun _ _ _ _ _ => hname) oqt (by decide) (Nat.le_of_ble_eq_true rfl) (fs_5_8 _ _ _) ?_
  exact q_vret G dX5_init_43 hret (by omega) (by omega) (m5_fin hO hI0 hL0 hqa hqb hqc hqf hqt)
