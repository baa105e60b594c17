theorem CD_6 {σ : qS} {ad : Nat → Nat} {I L : Nat → Nat → Int} {R R' : Nat → Nat → Option Nat} (h : CDy σ ad I L R) (hr : R' (ad 0) 6 = R (ad 0) 6) : CDy σ ad I L R' := ⟨⟨h.1.1, h.1.2.1, hr.trans h.1.2.2⟩, h.2⟩
theorem LH_0 {N1 M9 : qM} {ad : Nat → Nat} {mo qa qb qc qf qt ou : Nat} (hC : CSt N1 ad) (hY : CDy sg0 ad (mI N1) (mL N1) (mR N1)) (hmo : mo ∉ mP N1) (hF : FrE (sN N1 mo 5 0) M9 mo) (hMO : qMO M9 mo qa qb qc qf qt) (hR : RMd sg0 (mI M9) (mL M9) mo qa qb qc qf qt)
    (hn : qa ∉ mP (sN N1 mo 5 0) ∧ qb ∉ mP (sN N1 mo 5 0) ∧ qc ∉ mP (sN N1 mo 5 0) ∧ qf ∉ mP (sN N1 mo 5 0) ∧ qt ∉ mP (sN N1 mo 5 0)) (hou : ou ∉ mP M9) : LHf (sN M9 ou 7 1) ad mo qa qb qc qf qt ou sg0 sg0 := by
  have m1 : ∀ b, b ∈ mP N1 → b ∈ mP (sN N1 mo 5 0) := fun b hb => List.mem_append_left _ hb
  have key : ∀ b, b ∈ mP N1 → b ∈ mP M9 ∧ b ≠ mo ∧ b ≠ ou ∧ mK (sN M9 ou 7 1) b = mK N1 b ∧ mN (sN M9 ou 7 1) b = mN N1 b ∧ mI (sN M9 ou 7 1) b = mI N1 b ∧ mL (sN M9 ou 7 1) b = mL N1 b ∧ mR (sN M9 ou 7 1) b = mR N1 b := fun b hb => by
    have hbm : b ≠ mo := fun h9 => hmo (h9 ▸ hb)
    obtain ⟨f1, f2, f3, f4⟩ := hF b (m1 b hb)
    obtain ⟨f5, f6, f7⟩ := f4 hbm
    have hbo : b ≠ ou := fun h9 => hou (h9 ▸ f1)
    obtain ⟨g1, g2, g3, g4, g5⟩ := sN_o (M := N1) (ki := 5) (n := 0) hbm
    obtain ⟨k1, k2, k3, k4, k5⟩ := sN_o (M := M9) (ki := 7) (n := 1) hbo
    exact ⟨f1, hbm, hbo, k1.trans (f2.trans g1), k2.trans (f3.trans g2), k3.trans (f5.trans g3), k4.trans (f6.trans g4), k5.trans (f7.trans g5)⟩
  have kr := fun r (hr : r < 81) => key (ad r) (hC.1 r hr).1
  have old : ∀ b, b ∈ mP M9 → b ≠ ou := fun b hb h9 => hou (h9 ▸ hb)
  obtain ⟨⟨o1, o2⟩, ⟨r1, r2, r3, r4, r5⟩, ⟨⟨a1, a2, a3⟩, ⟨b1, b2, b3⟩, ⟨c1, c2, c3⟩, ⟨d1, d2, d3⟩, ⟨e1, e2, e3⟩⟩, dis⟩ := hMO
  have so := fun b (hb : b ∈ mP M9) => sN_o (M := M9) (ki := 7) (n := 1) (old b hb)
  have up := fun b (hb : b ∈ mP M9) => (List.mem_append_left [ou] hb : b ∈ mP (sN M9 ou 7 1))
  refine ⟨?_, ?_, ⟨⟨up _ o1, (so _ o1).1.trans o2⟩, ⟨?_, ?_, ?_, ?_, ?_⟩, ⟨⟨up _ a1, (so _ a1).1.trans a2, (so _ a1).2.1.trans a3⟩, ⟨up _ b1, (so _ b1).1.trans b2, (so _ b1).2.1.trans b3⟩, ⟨up _ c1, (so _ c1).1.trans c2, (so _ c1).2.1.trans c3⟩, ⟨up _ d1, (so _ d1).1.trans d2, (so _ d1).2.1.trans d3⟩, ⟨up _ e1, (so _ e1).1.trans e2, (so _ e1).2.1.trans e3⟩⟩, dis⟩, RMd_c hR (so _ o1).2.2.1 (so _ d1).2.2.1 (so _ e1).2.2.1 (so _ o1).2.2.2.1 (so _ a1).2.2.2.1 (so _ b1).2.2.2.1 (so _ c1).2.2.2.1, ⟨List.mem_append_right _ (List.mem_singleton.mpr rfl), sN_k, va_up_self _ _ _⟩, fun r hr => ⟨(kr r hr).2.1.symm, fun h9 => hn.1 (h9 ▸ m1 _ (hC.1 r hr).1), fun h9 => hn.2.1 (h9 ▸ m1 _ (hC.1 r hr).1), fun h9 => hn.2.2.1 (h9 ▸ m1 _ (hC.1 r hr).1), fun h9 => hn.2.2.2.1 (h9 ▸ m1 _ (hC.1 r hr).1), fun h9 => hn.2.2.2.2 (h9 ▸ m1 _ (hC.1 r hr).1), (kr r hr).2.2.1.symm⟩, ⟨(old _ o1).symm, (old _ a1).symm, (old _ b1).symm, (old _ c1).symm, (old _ d1).symm, (old _ e1).symm⟩⟩
  · obtain ⟨h1, h2, ⟨h3, h3', h3''⟩, ⟨p1, p2, p3, p4⟩, h5, h6, h7, h8⟩ := hC
    refine ⟨fun r hr => ⟨up _ (kr r hr).1, (kr r hr).2.2.2.1.trans (h1 r hr).2⟩, h2, ⟨(kr 11 (by decide)).2.2.2.2.1.trans h3, (kr 12 (by decide)).2.2.2.2.1.trans h3', (kr 13 (by decide)).2.2.2.2.1.trans h3''⟩, ⟨?_, ?_, ?_, ?_⟩, fun k x y => ?_, fun i x => ?_, fun j x => ?_, fun i k x y => ?_⟩
    · rw [(kr 0 (by decide)).2.2.2.2.2.2.2]; exact p1
    · rw [(kr 0 (by decide)).2.2.2.2.2.2.2]; exact p2
    · rw [(kr 0 (by decide)).2.2.2.2.2.2.2]; exact p3
    · rw [(kr 0 (by decide)).2.2.2.2.2.2.2]; exact p4
    · rw [(kr 1 (by decide)).2.2.2.2.2.2.2]; exact h5 k x y
    · rw [(kr 11 (by decide)).2.2.2.2.2.2.2]; exact h6 i x
    · rw [(kr 12 (by decide)).2.2.2.2.2.2.2]; exact h7 j x
    · rw [(kr (14 + i) (by omega)).2.2.2.2.2.2.2]; exact h8 i k x y
  · exact CD_6 (CD_L WF_0 (CD_I WF_0 hY (fun r hr => (kr r hr).2.2.2.2.2.1)) (fun r hr => (kr r hr).2.2.2.2.2.2.1)) (by rw [(kr 0 (by decide)).2.2.2.2.2.2.2])
  · rw [(so _ o1).2.2.2.2]; exact r1
  · rw [(so _ o1).2.2.2.2]; exact r2
  · rw [(so _ o1).2.2.2.2]; exact r3
  · rw [(so _ o1).2.2.2.2]; exact r4
  · rw [(so _ o1).2.2.2.2]; exact r5
set_option maxRecDepth 100000 in
set_option maxHeartbeats 4000000 in
theorem law_start {p : Program} {l : Launch} {e : Env} {s : State} {m : MethodId} {args : Array Value} {below : List Frame} {meth : Method} {c : Code} {Q : State → Prop} {A : Nat → Prop} (hl : l.stackTraces = false) (D : va_G) (cy : Nat → ClassId) (G : qG p s m args meth c cL_law 8 RL D cy A) (hNs : qNs s) {b Ln : Nat} {xs : Nat → Int32} (hX : va_X b Ln xs s s.heap) (hbl : b < s.heap.size) (hbA : ¬ A b) (hLn : Ln ≤ 2048) (HE : ∀ (x mo ou : Nat) (M' : qM) (i' : Int) (c' s' : Nat), c' ≤ 642456 → s' ≤ 7168736 → qK p l e room_1 s m args below meth c Q 8 D cy A c' s' 1066 [(4, .int (qI (i'))), (3, .ref ou), (2, .ref mo), (1, .ref x), (0, .ref b)] [] M') : qK p l e room_1 s m args below meth c Q 8 D cy A 0 0 0 [(0, .ref b)] [] qM0 := by
  refine q_new_4 G dL_law_0 (by decide +kernel) (by show _ ≤ _; decide) (by show _ ≤ _; decide) (fun x hx => ?_)
  have ox : qO (sN (qM0) x 4 0) x 4 := qO_new
  refine q_dup G dL_law_3 rfl ?_
  refine q_callI (As := []) (rest := [.ref x]) G dL_law_4 cw_L_74 (c_X4_init l D cy (sN (qM0) x 4 0) x ox) rfl rfl (Nat.le_of_ble_eq_true rfl) rfl rfl ⟨Nat.le_of_ble_eq_true rfl, Nat.le_of_ble_eq_true rfl⟩ ⟨by show _ ≤ 642456; omega, by show _ ≤ 7168736; omega⟩ (fun v9 M9 hq9 => ?_)
  obtain ⟨rfl, ad, hx, hC, hY⟩ := hq9
  refine q_st (st2 := [.ref x]) rfl ?_
  refine q_abs (fun N => CSt N ad ∧ CDy sg0 ad (mI N) (mL N) (mR N)) ⟨hC, hY⟩ ?_
  intro N1 hN1
  clear hC hY
  obtain ⟨hC, hY⟩ := hN1
  refine q_st (st2 := [.ref (ad 0)]) (by rw [hx]) ?_
  refine q_astore_n (lv' := [(1, .ref (ad 0)), (0, .ref b)]) G 1 dL_law_7 rfl (by decide) rfl ?_
  refine q_new_5 G dL_law_8 (by decide +kernel) (by show _ ≤ _; decide) (by show _ ≤ _; decide) (fun mo hmo => ?_)
  have om : qO (sN (N1) mo 5 0) mo 5 := qO_new
  refine q_dup G dL_law_11 rfl ?_
  refine q_callI (As := []) (rest := [.ref mo]) G dL_law_12 cw_L_77 (c_X5_init l D cy (sN (N1) mo 5 0) mo om (va_up_self _ _ _) (va_up_self _ _ _)) rfl rfl (Nat.le_of_ble_eq_true rfl) rfl rfl ⟨Nat.le_of_ble_eq_true rfl, Nat.le_of_ble_eq_true rfl⟩ ⟨by show _ ≤ 642456; omega, by show _ ≤ 7168736; omega⟩ (fun v9 M9 hq9 => ?_)
  obtain ⟨rfl, qa, qb, qc, qf, qt, hMO, hR, hF, hn⟩ := hq9
  refine q_st (st2 := [.ref mo]) rfl ?_
  refine q_abs (fun N => qMO N mo qa qb qc qf qt ∧ RMd sg0 (mI N) (mL N) mo qa qb qc qf qt ∧ FrE (sN N1 mo 5 0) N mo) ⟨hMO, hR, hF⟩ ?_
  intro N2 hN2
  clear hMO hR hF
  obtain ⟨hMO, hR, hF⟩ := hN2
  refine q_astore_n (lv' := [(2, .ref mo), (1, .ref (ad 0)), (0, .ref b)]) G 2 dL_law_15 rfl (by decide) rfl ?_
  refine q_iconst G dL_law_16 ?_
  refine q_newaJ (n := 1) G dL_law_17 (by decide) (by decide) (by show _ ≤ _; decide) (by show _ ≤ _; decide) (fun ou hou => ?_)
  refine q_astore_n (lv' := [(3, .ref ou), (2, .ref mo), (1, .ref (ad 0)), (0, .ref b)]) G 3 dL_law_19 rfl (by decide) rfl ?_
  refine q_iconst G dL_law_20 ?_
  refine q_istore (lv' := [(4, .int (qI (0))), (3, .ref ou), (2, .ref mo), (1, .ref (ad 0)), (0, .ref b)]) G dL_law_21 (by decide) rfl ?_
  refine q_lvs [0, 1, 2, 3, 4] rfl ?_
  exact l_law hl D cy G hNs hX hbl hbA hLn ad mo qa qb qc qf qt ou (fun M1 i1 c1 s1 => HE (ad 0) mo ou M1 i1 c1 s1) _ 0 (sN N2 ou 7 1) sg0 _ _ (Nat.lt_succ_self _) ⟨⟨by decide, by omega⟩, ⟨by omega, by omega⟩, LH_0 hC hY hmo hF hMO hR hn hou, WF_0⟩
