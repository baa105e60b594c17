set_option maxRecDepth 100000 in
set_option maxHeartbeats 4000000 in
theorem l_law {p : Program} {l : Launch} {e : Env} {s : State} {m : MethodId} {args : Array Value} {below : List Frame} {meth : Method} {c : Code} {Q : State → Prop} {A : Nat → Prop} (hl : l.stackTraces = false) (D : va_G) (cy : Nat → ClassId) (G : qG p s m args meth c cL_law 8 RL D cy A) (hNs : qNs s) {b Ln : Nat} {xs : Nat → Int32} (hX : va_X b Ln xs s s.heap) (hbl : b < s.heap.size) (hbA : ¬ A b) (hLn : Ln ≤ 2048) (ad : Nat → Nat) (mo qa qb qc qf qt ou : Nat) (HE : ∀ (M' : qM) (i' : Int) (c' s' : Nat), c' ≤ 642456 → s' ≤ 7168736 → qK p l e room_1 s m args below meth c Q 8 D cy A c' s' 1066 [(4, .int (qI (i'))), (3, .ref ou), (2, .ref mo), (1, .ref (ad 0)), (0, .ref b)] [] M') : ∀ (w9 : Nat) (i : Int) (M : qM) (σ : qS) (cs ss : Nat), (Ln + 4 - i).toNat < w9 → (0 ≤ i ∧ i ≤ Ln + 4) ∧ ((cs : Int) + 2 * (Ln + 4 - i) ≤ 642456 ∧ (ss : Int) + 10 * (Ln + 4 - i) ≤ 7168736) ∧ LHf M ad mo qa qb qc qf qt ou σ σ ∧ WF σ → qK p l e room_1 s m args below meth c Q 8 D cy A (cs) (ss) 23 [(4, .int (qI (i))), (3, .ref ou), (2, .ref mo), (1, .ref (ad 0)), (0, .ref b)] [] (M) := by
  intro w9
  induction w9 with
  | zero => intro i M σ cs ss h9; exact absurd h9 (Nat.not_lt_zero _)
  | succ w9 ih =>
    intro i M σ cs ss hm hI
    obtain ⟨⟨i0, i1⟩, ⟨r1, r2⟩, hH, hW⟩ := hI
    refine q_iload G 0 dL_law_23 rfl ?_
    refine q_aload_n G 4 0 dL_law_25 rfl rfl ?_
    refine q_slen G hX hbl hbA dL_law_26 ?_
    refine q_iconst G dL_law_27 ?_
    refine q_isub G dL_law_28 ?_
    refine q_icmp_gt (tgt := 1066) G dL_law_29 (by decide) (by omega) (by omega) (fun c1 => ?_) (fun c1 => ?_)
    · refine q_lvs [0, 1, 2, 3, 4] rfl ?_
      exact HE M i cs ss (by omega) (by omega)
    · obtain ⟨z0, hz0⟩ : ∃ z, z = (xs (Int.toNat i)).toInt := ⟨_, rfl⟩
      refine q_aload_n G 4 0 dL_law_32 rfl rfl ?_
      refine q_iload G 0 dL_law_33 rfl ?_
      refine q_sld G hX hbl hbA dL_law_35 (by omega) (by omega) (by omega) ?_
      refine q_topI (z2 := z0) hz0.symm ?_
      refine q_bipush G dL_law_36 (by decide +kernel) ?_
      refine q_iand G dL_law_38 ?_
      have hi : 0 ≤ i ∧ i + 4 ≤ Ln := by omega
      have Hk : ∀ (M' : qM) (σ' : qS) (c' s' : Nat), LHf M' ad mo qa qb qc qf qt ou σ' σ' → WF σ' → c' ≤ cs + 6 → s' ≤ ss + 36 → qK p l e room_1 s m args below meth c Q 8 D cy A c' s' 1060 [(4, .int (qI (i))), (3, .ref ou), (2, .ref mo), (1, .ref (ad 0)), (0, .ref b)] [] M' := by
        intro M' σ' c' s' h1 h2 h3 h4
        refine q_iinc (lv' := [(4, .int (qI (i + 4))), (3, .ref ou), (2, .ref mo), (1, .ref (ad 0)), (0, .ref b)]) G 0 dL_law_1060 rfl (by decide) rfl ?_
        refine q_goto (tgt := 23) G dL_law_1063 (by decide) ?_
        refine q_lvs [0, 1, 2, 3, 4] rfl ?_
        exact ih (i + 4) M' σ' c' s' (by omega) ⟨by omega, by omega, h1, h2⟩
      obtain ⟨z, hz⟩ : ∃ z, z = qand z0 31 := ⟨_, rfl⟩
      have rz : r32 z := by rw [hz]; exact qand_r _ _
      refine q_topI (z2 := z) hz.symm ?_
      refine q_lvs [0, 1, 2, 3, 4] rfl ?_
      by_cases hlo : z < 0 ∨ 17 < z
      · refine q_tableOut (tgt := 1060) G dL_law_39 rz hlo (by decide) ?_
        exact Hk M σ cs ss hH hW (by omega) (by omega)
      by_cases tz0 : z ≤ 0
      · refine q_tableIn (off := 85) (tgt := 124) G dL_law_39 rz (by omega) (by omega) (by rw [show z = 0 by omega]; rfl) (by decide) ?_
        exact k_discriminant hl D cy G hNs hX hbl hbA hLn M ad mo qa qb qc qf qt ou σ hH hW i hi cs ss (by omega) (by omega) Hk
      by_cases tz1 : z ≤ 1
      · refine q_tableIn (off := 121) (tgt := 160) G dL_law_39 rz (by omega) (by omega) (by rw [show z = 1 by omega]; rfl) (by decide) ?_
        exact k_begin hl D cy G hNs hX hbl hbA hLn M ad mo qa qb qc qf qt ou σ hH hW i hi cs ss (by omega) (by omega) Hk
      by_cases tz2 : z ≤ 2
      · refine q_tableIn (off := 177) (tgt := 216) G dL_law_39 rz (by omega) (by omega) (by rw [show z = 2 by omega]; rfl) (by decide) ?_
        exact k_work hl D cy G hNs hX hbl hbA hLn M ad mo qa qb qc qf qt ou σ hH hW i hi cs ss (by omega) (by omega) Hk
      by_cases tz3 : z ≤ 3
      · refine q_tableIn (off := 233) (tgt := 272) G dL_law_39 rz (by omega) (by omega) (by rw [show z = 3 by omega]; rfl) (by decide) ?_
        exact k_prove hl D cy G hNs hX hbl hbA hLn M ad mo qa qb qc qf qt ou σ hH hW i hi cs ss (by omega) (by omega) Hk
      by_cases tz4 : z ≤ 4
      · refine q_tableIn (off := 289) (tgt := 328) G dL_law_39 rz (by omega) (by omega) (by rw [show z = 4 by omega]; rfl) (by decide) ?_
        exact k_publish hl D cy G hNs hX hbl hbA hLn M ad mo qa qb qc qf qt ou σ hH hW i hi cs ss (by omega) (by omega) Hk
      by_cases tz5 : z ≤ 5
      · refine q_tableIn (off := 333) (tgt := 372) G dL_law_39 rz (by omega) (by omega) (by rw [show z = 5 by omega]; rfl) (by decide) ?_
        exact k_drop hl D cy G hNs hX hbl hbA hLn M ad mo qa qb qc qf qt ou σ hH hW i hi cs ss (by omega) (by omega) Hk
      by_cases tz6 : z ≤ 6
      · refine q_tableIn (off := 346) (tgt := 385) G dL_law_39 rz (by omega) (by omega) (by rw [show z = 6 by omega]; rfl) (by decide) ?_
        exact k_rounds hl D cy G hNs hX hbl hbA hLn M ad mo qa qb qc qf qt ou σ hH hW i hi cs ss (by omega) (by omega) Hk
      by_cases tz7 : z ≤ 7
      · refine q_tableIn (off := 359) (tgt := 398) G dL_law_39 rz (by omega) (by omega) (by rw [show z = 7 by omega]; rfl) (by decide) ?_
        exact k_told hl D cy G hNs hX hbl hbA hLn M ad mo qa qb qc qf qt ou σ hH hW i hi cs ss (by omega) (by omega) Hk
      by_cases tz8 : z ≤ 8
      · refine q_tableIn (off := 427) (tgt := 466) G dL_law_39 rz (by omega) (by omega) (by rw [show z = 8 by omega]; rfl) (by decide) ?_
        exact k_form hl D cy G hNs hX hbl hbA hLn M ad mo qa qb qc qf qt ou σ hH hW i hi cs ss (by omega) (by omega) Hk
      by_cases tz9 : z ≤ 9
      · refine q_tableIn (off := 507) (tgt := 546) G dL_law_39 rz (by omega) (by omega) (by rw [show z = 9 by omega]; rfl) (by decide) ?_
        exact k_verify hl D cy G hNs hX hbl hbA hLn M ad mo qa qb qc qf qt ou σ hH hW i hi cs ss (by omega) (by omega) Hk
      by_cases tz10 : z ≤ 10
      · refine q_tableIn (off := 570) (tgt := 609) G dL_law_39 rz (by omega) (by omega) (by rw [show z = 10 by omega]; rfl) (by decide) ?_
        exact k_put hl D cy G hNs hX hbl hbA hLn M ad mo qa qb qc qf qt ou σ hH hW i hi cs ss (by omega) (by omega) Hk
      by_cases tz11 : z ≤ 11
      · refine q_tableIn (off := 630) (tgt := 669) G dL_law_39 rz (by omega) (by omega) (by rw [show z = 11 by omega]; rfl) (by decide) ?_
        exact k_buffer hl D cy G hNs hX hbl hbA hLn M ad mo qa qb qc qf qt ou σ hH hW i hi cs ss (by omega) (by omega) Hk
      by_cases tz12 : z ≤ 12
      · refine q_tableIn (off := 697) (tgt := 736) G dL_law_39 rz (by omega) (by omega) (by rw [show z = 12 by omega]; rfl) (by decide) ?_
        exact k_reduce hl D cy G hNs hX hbl hbA hLn M ad mo qa qb qc qf qt ou σ hH hW i hi cs ss (by omega) (by omega) Hk
      by_cases tz13 : z ≤ 13
      · refine q_tableIn (off := 745) (tgt := 784) G dL_law_39 rz (by omega) (by omega) (by rw [show z = 13 by omega]; rfl) (by decide) ?_
        exact k_multiply hl D cy G hNs hX hbl hbA hLn M ad mo qa qb qc qf qt ou σ hH hW i hi cs ss (by omega) (by omega) Hk
      by_cases tz14 : z ≤ 14
      · refine q_tableIn (off := 805) (tgt := 844) G dL_law_39 rz (by omega) (by omega) (by rw [show z = 14 by omega]; rfl) (by decide) ?_
        exact k_raise hl D cy G hNs hX hbl hbA hLn M ad mo qa qb qc qf qt ou σ hH hW i hi cs ss (by omega) (by omega) Hk
      by_cases tz15 : z ≤ 15
      · refine q_tableIn (off := 865) (tgt := 904) G dL_law_39 rz (by omega) (by omega) (by rw [show z = 15 by omega]; rfl) (by decide) ?_
        exact k_test hl D cy G hNs hX hbl hbA hLn M ad mo qa qb qc qf qt ou σ hH hW i hi cs ss (by omega) (by omega) Hk
      by_cases tz16 : z ≤ 16
      · refine q_tableIn (off := 921) (tgt := 960) G dL_law_39 rz (by omega) (by omega) (by rw [show z = 16 by omega]; rfl) (by decide) ?_
        exact k_order hl D cy G hNs hX hbl hbA hLn M ad mo qa qb qc qf qt ou σ hH hW i hi cs ss (by omega) (by omega) Hk
      refine q_tableIn (off := 977) (tgt := 1016) G dL_law_39 rz (by omega) (by omega) (by rw [show z = 17 by omega]; rfl) (by decide) ?_
      exact k_classes hl D cy G hNs hX hbl hbA hLn M ad mo qa qb qc qf qt ou σ hH hW i hi cs ss (by omega) (by omega) Hk
