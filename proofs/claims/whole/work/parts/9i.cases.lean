theorem cwh_78 : qCW RL 78 yL_discriminant cL_discriminant 3 (some .int) [(0, 5, 8, 13), (0, 5, 11, 15)] 2 := ⟨⟨by decide +kernel, by decide +kernel, by decide +kernel, by decide +kernel⟩, by decide +kernel, by decide +kernel, by decide +kernel⟩
theorem cwh_87 : qCW RL 87 yL_begin cL_begin 4 (some .int) [(0, 9, 12, 15), (0, 9, 15, 13)] 3 := ⟨⟨by decide +kernel, by decide +kernel, by decide +kernel, by decide +kernel⟩, by decide +kernel, by decide +kernel, by decide +kernel⟩
theorem cwh_91 : qCW RL 91 yL_work cL_work 4 (some .int) [(0, 9, 12, 15), (0, 9, 15, 13)] 3 := ⟨⟨by decide +kernel, by decide +kernel, by decide +kernel, by decide +kernel⟩, by decide +kernel, by decide +kernel, by decide +kernel⟩
theorem cwh_94 : qCW RL 94 yL_prove cL_prove 4 (some .int) [(0, 9, 12, 15), (0, 9, 15, 13)] 3 := ⟨⟨by decide +kernel, by decide +kernel, by decide +kernel, by decide +kernel⟩, by decide +kernel, by decide +kernel, by decide +kernel⟩
theorem cwh_97 : qCW RL 97 yL_publish cL_publish 3 (some .int) [(0, 8, 11, 15)] 2 := ⟨⟨by decide +kernel, by decide +kernel, by decide +kernel, by decide +kernel⟩, by decide +kernel, by decide +kernel, by decide +kernel⟩
theorem cwh_110 : qCW RL 110 yL_told cL_told 5 (some .int) [(0, 10, 13, 15), (0, 10, 17, 35)] 4 := ⟨⟨by decide +kernel, by decide +kernel, by decide +kernel, by decide +kernel⟩, by decide +kernel, by decide +kernel, by decide +kernel⟩
theorem cwh_114 : qCW RL 114 yL_form cL_form 6 (some .int) [(0, 12, 15, 15), (0, 12, 19, 35)] 5 := ⟨⟨by decide +kernel, by decide +kernel, by decide +kernel, by decide +kernel⟩, by decide +kernel, by decide +kernel, by decide +kernel⟩
theorem cwh_118 : qCW RL 118 yL_verify cL_verify 4 (some .int) [(0, 16, 19, 15), (0, 16, 22, 35)] 3 := ⟨⟨by decide +kernel, by decide +kernel, by decide +kernel, by decide +kernel⟩, by decide +kernel, by decide +kernel, by decide +kernel⟩
theorem cwh_121 : qCW RL 121 yL_put cL_put 5 (some .int) [(0, 7, 10, 15), (0, 7, 14, 35), (0, 7, 18, 13)] 4 := ⟨⟨by decide +kernel, by decide +kernel, by decide +kernel, by decide +kernel⟩, by decide +kernel, by decide +kernel, by decide +kernel⟩
theorem cwh_125 : qCW RL 125 yL_buffer cL_buffer 5 (some .int) [(0, 9, 12, 15), (0, 9, 16, 35), (0, 9, 20, 53)] 4 := ⟨⟨by decide +kernel, by decide +kernel, by decide +kernel, by decide +kernel⟩, by decide +kernel, by decide +kernel, by decide +kernel⟩
theorem cwh_128 : qCW RL 128 yL_reduce cL_reduce 4 (some .int) [(0, 6, 9, 15), (0, 6, 12, 35), (0, 6, 15, 53)] 3 := ⟨⟨by decide +kernel, by decide +kernel, by decide +kernel, by decide +kernel⟩, by decide +kernel, by decide +kernel, by decide +kernel⟩
theorem cwh_132 : qCW RL 132 yL_multiply cL_multiply 5 (some .int) [(0, 7, 10, 15), (0, 7, 14, 35), (0, 7, 18, 53)] 4 := ⟨⟨by decide +kernel, by decide +kernel, by decide +kernel, by decide +kernel⟩, by decide +kernel, by decide +kernel, by decide +kernel⟩
theorem cwh_135 : qCW RL 135 yL_raise cL_raise 5 (some .int) [(0, 7, 10, 15), (0, 7, 14, 35), (0, 7, 18, 13), (0, 7, 22, 53)] 4 := ⟨⟨by decide +kernel, by decide +kernel, by decide +kernel, by decide +kernel⟩, by decide +kernel, by decide +kernel, by decide +kernel⟩
theorem cwh_138 : qCW RL 138 yL_test cL_test 4 (some .int) [(0, 9, 12, 15), (0, 9, 15, 35), (0, 9, 18, 53)] 3 := ⟨⟨by decide +kernel, by decide +kernel, by decide +kernel, by decide +kernel⟩, by decide +kernel, by decide +kernel, by decide +kernel⟩
theorem cwh_141 : qCW RL 141 yL_order cL_order 4 (some .int) [(0, 9, 12, 15), (0, 9, 15, 13)] 3 := ⟨⟨by decide +kernel, by decide +kernel, by decide +kernel, by decide +kernel⟩, by decide +kernel, by decide +kernel, by decide +kernel⟩
theorem cwh_144 : qCW RL 144 yL_classes cL_classes 3 (some .int) [(0, 8, 11, 15), (0, 8, 14, 13)] 2 := ⟨⟨by decide +kernel, by decide +kernel, by decide +kernel, by decide +kernel⟩, by decide +kernel, by decide +kernel, by decide +kernel⟩
set_option maxRecDepth 100000 in
set_option maxHeartbeats 4000000 in
theorem k_discriminant {p : Program} {l : Launch} {e : Env} {s : State} {m : MethodId} {args : Array Value} {below : List Frame} {meth : Method} {c : Code} {Q : State → Prop} {A : Nat → Prop} (hl : l.stackTraces = false) (D : va_G) (cy : Nat → ClassId) (G : qG p s m args meth c cL_law 8 RL D cy A) (hNs : qNs s) {b Ln : Nat} {xs : Nat → Int32} (hX : va_X b Ln xs s s.heap) (hbl : b < s.heap.size) (hbA : ¬ A b) (hLn : Ln ≤ 2048) (M : qM) (ad : Nat → Nat) (mo qa qb qc qf qt ou : Nat) (σ : qS) (hH : LHf M ad mo qa qb qc qf qt ou σ σ) (hW : WF σ) (i : Int) (hi : 0 ≤ i ∧ i + 4 ≤ Ln) (cs ss : Nat) (hcs : cs + 6 ≤ 642456) (hss : ss + 36 ≤ 7168736) (Hk : ∀ (M' : qM) (σ' : qS) (c' s' : Nat), LHf M' ad mo qa qb qc qf qt ou σ' σ' → WF σ' → c' ≤ cs + 6 → s' ≤ ss + 36 → qK p l e room_1 s m args below meth c Q 8 D cy A c' s' 1060 [(4, .int (qI (i))), (3, .ref ou), (2, .ref mo), (1, .ref (ad 0)), (0, .ref b)] [] M') : qK p l e room_1 s m args below meth c Q 8 D cy A (cs) (ss) 124 [(4, .int (qI (i))), (3, .ref ou), (2, .ref mo), (1, .ref (ad 0)), (0, .ref b)] [] (M) := by
  obtain ⟨z1, hz1⟩ : ∃ z, z = (xs (Int.toNat (i + 1))).toInt := ⟨_, rfl⟩
  have rz1 : r32 z1 := by rw [hz1]; exact i32_r _
  have hE : 0 ≤ e_0 σ z1 ∧ e_0 σ z1 ≤ 4 := by unfold e_0; omega
  have hW1 : WF (if e_0 σ z1 = 0 then n_0 σ z1 else σ) := by by_cases h9 : e_0 σ z1 = 0; (rw [if_pos h9]; exact WF_n0 hW h9); (rw [if_neg h9]; exact hW)
  refine q_aload_n G 3 1 dL_law_124 rfl rfl ?_
  refine q_aload_n G 4 0 dL_law_125 rfl rfl ?_
  refine q_iload G 0 dL_law_126 rfl ?_
  refine q_iconst G dL_law_128 ?_
  refine q_iadd G dL_law_129 ?_
  refine q_sld G hX hbl hbA dL_law_130 (by omega) (by omega) (by omega) ?_
  refine q_topI (z2 := z1) hz1.symm ?_
  refine q_callH (As := [.ref (ad 0), .int (qI (z1))]) (rest := []) G hNs dL_law_131 cwh_78 (c_L_discriminant l hl D cy M ad hH.1 σ hH.2.1 hW z1 rz1) rfl rfl (Nat.le_of_ble_eq_true rfl) rfl rfl ⟨Nat.le_of_ble_eq_true rfl, Nat.le_of_ble_eq_true rfl⟩ ⟨by show _ ≤ 642456; omega, by show _ ≤ 7168736; omega⟩ (fun v9 M9 hq9 => ?_)
  obtain ⟨rfl, hp9⟩ := hq9
  have h2 := LH_w hH hp9
  refine q_st (st2 := [.int (qI (e_0 σ z1))]) rfl ?_
  refine q_abs (fun N => LHf N ad mo qa qb qc qf qt ou σ (if e_0 σ z1 = 0 then n_0 σ z1 else σ)) h2 ?_
  intro N1 hN1
  have hH1 := hN1
  have oM := hH1.2.2.1.1
  refine q_istore (lv' := [(5, .int (qI (e_0 σ z1))), (4, .int (qI (i))), (3, .ref ou), (2, .ref mo), (1, .ref (ad 0)), (0, .ref b)]) G dL_law_134 (by decide) rfl ?_
  refine q_aload_n G 3 2 dL_law_136 rfl rfl ?_
  refine q_aload_n G 5 0 dL_law_137 rfl rfl ?_
  refine q_iload G 1 dL_law_138 rfl ?_
  refine q_iconst G dL_law_140 ?_
  refine q_iadd G dL_law_141 ?_
  refine q_sld G hX hbl hbA dL_law_142 (by omega) (by omega) (by omega) ?_
  refine q_topI (z2 := z1) hz1.symm ?_
  refine q_callV (As := [.int (qI (z1))]) (rest := []) G dL_law_143 cw_L_83 (c_X5_discriminant l D cy N1 mo qa qb qc qf qt hH1.2.2.1 σ hH1.2.2.2.1 hW z1 rz1) oM.1 oM.2 (by decide) rfl rfl rfl (Nat.le_of_ble_eq_true rfl) rfl rfl ⟨Nat.le_of_ble_eq_true rfl, Nat.le_of_ble_eq_true rfl⟩ ⟨by show _ ≤ 642456; omega, by show _ ≤ 7168736; omega⟩ (fun v9 M9 hq9 => ?_)
  obtain ⟨I9, L9, rfl, fr9, t9, r9, rfl⟩ := hq9
  refine q_st (st2 := []) rfl ?_
  refine q_abs (fun N => LHf N ad mo qa qb qc qf qt ou (if e_0 σ z1 = 0 then n_0 σ z1 else σ) (if e_0 σ z1 = 0 then n_0 σ z1 else σ) ∧ mI N mo 0 = e_0 σ z1) ⟨LH_r hW1 hH1 fr9 r9, t9⟩ ?_
  intro N2 hN2
  obtain ⟨hH2, t2⟩ := hN2
  have oM2 := hH2.2.2.1.1
  have oU2 := hH2.2.2.2.2.1
  refine q_aload_n G 3 2 dL_law_146 rfl rfl ?_
  refine q_callV (As := []) (rest := []) G dL_law_147 cw_L_84 (c_X5_thrown l D cy N2 mo qa qb qc qf qt hH2.2.2.1) oM2.1 oM2.2 (by decide) rfl rfl rfl (Nat.le_of_ble_eq_true rfl) rfl rfl ⟨Nat.le_of_ble_eq_true rfl, Nat.le_of_ble_eq_true rfl⟩ ⟨by show _ ≤ 642456; omega, by show _ ≤ 7168736; omega⟩ (fun v9 M9 hq9 => ?_)
  obtain ⟨rfl, e9⟩ := hq9
  refine q_mem e9 ?_
  refine q_st (st2 := [.int (qI (mI N2 mo 0))]) rfl ?_
  refine q_iload G 0 dL_law_150 rfl ?_
  refine q_icmp_eq (tgt := 157) G dL_law_152 (by decide) (by omega) (by omega) (fun c1 => ?_) (fun c1 => ?_)
  · refine q_goto (tgt := 1060) G dL_law_157 (by decide) ?_
    refine q_lvs [1, 2, 3, 4, 5] rfl ?_
    exact Hk N2 (if e_0 σ z1 = 0 then n_0 σ z1 else σ) _ _ hH2 hW1 (by omega) (by omega)
  · exact absurd t2 c1
set_option maxRecDepth 100000 in
set_option maxHeartbeats 4000000 in
theorem k_begin {p : Program} {l : Launch} {e : Env} {s : State} {m : MethodId} {args : Array Value} {below : List Frame} {meth : Method} {c : Code} {Q : State → Prop} {A : Nat → Prop} (hl : l.stackTraces = false) (D : va_G) (cy : Nat → ClassId) (G : qG p s m args meth c cL_law 8 RL D cy A) (hNs : qNs s) {b Ln : Nat} {xs : Nat → Int32} (hX : va_X b Ln xs s s.heap) (hbl : b < s.heap.size) (hbA : ¬ A b) (hLn : Ln ≤ 2048) (M : qM) (ad : Nat → Nat) (mo qa qb qc qf qt ou : Nat) (σ : qS) (hH : LHf M ad mo qa qb qc qf qt ou σ σ) (hW : WF σ) (i : Int) (hi : 0 ≤ i ∧ i + 4 ≤ Ln) (cs ss : Nat) (hcs : cs + 6 ≤ 642456) (hss : ss + 36 ≤ 7168736) (Hk : ∀ (M' : qM) (σ' : qS) (c' s' : Nat), LHf M' ad mo qa qb qc qf qt ou σ' σ' → WF σ' → c' ≤ cs + 6 → s' ≤ ss + 36 → qK p l e room_1 s m args below meth c Q 8 D cy A c' s' 1060 [(4, .int (qI (i))), (3, .ref ou), (2, .ref mo), (1, .ref (ad 0)), (0, .ref b)] [] M') : qK p l e room_1 s m args below meth c Q 8 D cy A (cs) (ss) 160 [(4, .int (qI (i))), (3, .ref ou), (2, .ref mo), (1, .ref (ad 0)), (0, .ref b)] [] (M) := by
  obtain ⟨z1, hz1⟩ : ∃ z, z = (xs (Int.toNat (i + 1))).toInt := ⟨_, rfl⟩
  have rz1 : r32 z1 := by rw [hz1]; exact i32_r _
  have hE : 0 ≤ e_1 σ z1 ∧ e_1 σ z1 ≤ 4 := by unfold e_1; omega
  have hW1 : WF (if e_1 σ z1 = 0 then n_1 σ z1 else σ) := by by_cases h9 : e_1 σ z1 = 0; (rw [if_pos h9]; exact WF_n1 hW h9); (rw [if_neg h9]; exact hW)
  have hva : e_1 σ z1 = 0 → r32 (a_1 σ) := fun _ => rg_1
  refine q_aload_n G 3 1 dL_law_160 rfl rfl ?_
  refine q_aload_n G 4 0 dL_law_161 rfl rfl ?_
  refine q_iload G 0 dL_law_162 rfl ?_
  refine q_iconst G dL_law_164 ?_
  refine q_iadd G dL_law_165 ?_
  refine q_sld G hX hbl hbA dL_law_166 (by omega) (by omega) (by omega) ?_
  refine q_topI (z2 := z1) hz1.symm ?_
  refine q_aload_n G 1 3 dL_law_167 rfl rfl ?_
  refine q_callH (As := [.ref (ad 0), .int (qI (z1)), .ref ou]) (rest := []) G hNs dL_law_168 cwh_87 (c_L_begin l hl D cy M ad hH.1 σ hH.2.1 hW z1 rz1 ou hH.2.2.2.2.1 (fun _ => rg_1)) rfl rfl (Nat.le_of_ble_eq_true rfl) rfl rfl ⟨Nat.le_of_ble_eq_true rfl, Nat.le_of_ble_eq_true rfl⟩ ⟨by show _ ≤ 642456; omega, by show _ ≤ 7168736; omega⟩ (fun v9 M9 hq9 => ?_)
  obtain ⟨rfl, M1, hp9, hm9⟩ := hq9
  have h1 := LH_w hH hp9
  have h2 : LHf M9 ad mo qa qb qc qf qt ou σ (if e_1 σ z1 = 0 then n_1 σ z1 else σ) ∧ (e_1 σ z1 = 0 → mL M9 ou 0 = a_1 σ) := by rw [hm9]; by_cases h9 : e_1 σ z1 = 0; (rw [show (if e_1 σ z1 = 0 then sL M1 ou 0 (a_1 σ) else M1) = sL M1 ou 0 (a_1 σ) from if_pos h9]; exact ⟨LH_o hW1 h1 0 _, fun _ => up2_s _ _ _ _⟩); (rw [show (if e_1 σ z1 = 0 then sL M1 ou 0 (a_1 σ) else M1) = M1 from if_neg h9]; exact ⟨h1, fun h8 => absurd h8 h9⟩)
  refine q_st (st2 := [.int (qI (e_1 σ z1))]) rfl ?_
  refine q_abs (fun N => LHf N ad mo qa qb qc qf qt ou σ (if e_1 σ z1 = 0 then n_1 σ z1 else σ) ∧ (e_1 σ z1 = 0 → mL N ou 0 = a_1 σ)) h2 ?_
  intro N1 hN1
  obtain ⟨hH1, ha1⟩ := hN1
  have oM := hH1.2.2.1.1
  refine q_istore (lv' := [(5, .int (qI (e_1 σ z1))), (4, .int (qI (i))), (3, .ref ou), (2, .ref mo), (1, .ref (ad 0)), (0, .ref b)]) G dL_law_171 (by decide) rfl ?_
  refine q_aload_n G 3 2 dL_law_173 rfl rfl ?_
  refine q_aload_n G 5 0 dL_law_174 rfl rfl ?_
  refine q_iload G 1 dL_law_175 rfl ?_
  refine q_iconst G dL_law_177 ?_
  refine q_iadd G dL_law_178 ?_
  refine q_sld G hX hbl hbA dL_law_179 (by omega) (by omega) (by omega) ?_
  refine q_topI (z2 := z1) hz1.symm ?_
  refine q_callV (As := [.int (qI (z1))]) (rest := []) G dL_law_180 cw_L_90 (c_X5_begin l D cy N1 mo qa qb qc qf qt hH1.2.2.1 σ hH1.2.2.2.1 hW z1 rz1) oM.1 oM.2 (by decide) rfl rfl rfl (Nat.le_of_ble_eq_true rfl) rfl rfl ⟨Nat.le_of_ble_eq_true rfl, Nat.le_of_ble_eq_true rfl⟩ ⟨by show _ ≤ 642456; omega, by show _ ≤ 7168736; omega⟩ (fun v9 M9 hq9 => ?_)
  obtain ⟨I9, L9, rfl, fr9, t9, r9, z9, rfl, hz9⟩ := hq9
  refine q_st (st2 := [.int (qI (z9))]) rfl ?_
  refine q_abs (fun N => LHf N ad mo qa qb qc qf qt ou (if e_1 σ z1 = 0 then n_1 σ z1 else σ) (if e_1 σ z1 = 0 then n_1 σ z1 else σ) ∧ mI N mo 0 = e_1 σ z1 ∧ mL N ou 0 = mL N1 ou 0) ⟨LH_r hW1 hH1 fr9 r9, t9, congrFun (LH_ou hH1 fr9) 0⟩ ?_
  intro N2 hN2
  obtain ⟨hH2, t2, o2⟩ := hN2
  have oM2 := hH2.2.2.1.1
  have oU2 := hH2.2.2.2.2.1
  refine q_istore (lv' := [(6, .int (qI (z9))), (5, .int (qI (e_1 σ z1))), (4, .int (qI (i))), (3, .ref ou), (2, .ref mo), (1, .ref (ad 0)), (0, .ref b)]) G dL_law_183 (by decide) rfl ?_
  refine q_aload_n G 4 2 dL_law_185 rfl rfl ?_
  refine q_callV (As := []) (rest := []) G dL_law_186 cw_L_84 (c_X5_thrown l D cy N2 mo qa qb qc qf qt hH2.2.2.1) oM2.1 oM2.2 (by decide) rfl rfl rfl (Nat.le_of_ble_eq_true rfl) rfl rfl ⟨Nat.le_of_ble_eq_true rfl, Nat.le_of_ble_eq_true rfl⟩ ⟨by show _ ≤ 642456; omega, by show _ ≤ 7168736; omega⟩ (fun v9 M9 hq9 => ?_)
  obtain ⟨rfl, e9⟩ := hq9
  refine q_mem e9 ?_
  refine q_st (st2 := [.int (qI (mI N2 mo 0))]) rfl ?_
  refine q_iload G 1 dL_law_189 rfl ?_
  refine q_icmp_eq (tgt := 196) G dL_law_191 (by decide) (by omega) (by omega) (fun c1 => ?_) (fun c1 => ?_)
  · refine q_iload G 1 dL_law_196 rfl ?_
    refine q_if_ne (tgt := 213) G dL_law_198 (by decide) (by first | assumption | omega) (fun c2 => ?_) (fun c2 => ?_)
    · refine q_goto (tgt := 1060) G dL_law_213 (by decide) ?_
      refine q_lvs [2, 3, 4, 5, 6] rfl ?_
      exact Hk N2 (if e_1 σ z1 = 0 then n_1 σ z1 else σ) _ _ hH2 hW1 (by omega) (by omega)
    · refine q_aload_n G 3 3 dL_law_201 rfl rfl ?_
      refine q_iconst G dL_law_202 ?_
      have hz0 : e_1 σ z1 = 0 := by omega
      have hzv : z9 = a_1 σ := hz9 hz0
      have hov : mL N2 ou (Int.toNat 0) = a_1 σ := o2.trans (ha1 hz0)
      have hvr := hva hz0
      refine q_laload G dL_law_203 oU2.1 oU2.2.1 (by first | assumption | omega) (show (0) < ((mN N2 ou : Nat) : Int) by rw [oU2.2.2]; omega) (show mN N2 ou < 2147483648 by rw [oU2.2.2]; decide) ?_
      refine q_iload G 0 dL_law_204 rfl ?_
      refine q_i2l G dL_law_206 (by omega) ?_
      refine q_lcmp_eq (tgt := 213) G dL_law_207 dL_law_208 (by decide) (by omega) (by omega) (fun c3 => ?_) (fun c3 => ?_)
      · refine q_goto (tgt := 1060) G dL_law_213 (by decide) ?_
        refine q_lvs [2, 3, 4, 5, 6] rfl ?_
        exact Hk N2 (if e_1 σ z1 = 0 then n_1 σ z1 else σ) _ _ hH2 hW1 (by omega) (by omega)
      · exact absurd (hov.trans hzv.symm) c3
  · exact absurd t2 c1
set_option maxRecDepth 100000 in
set_option maxHeartbeats 4000000 in
theorem k_work {p : Program} {l : Launch} {e : Env} {s : State} {m : MethodId} {args : Array Value} {below : List Frame} {meth : Method} {c : Code} {Q : State → Prop} {A : Nat → Prop} (hl : l.stackTraces = false) (D : va_G) (cy : Nat → ClassId) (G : qG p s m args meth c cL_law 8 RL D cy A) (hNs : qNs s) {b Ln : Nat} {xs : Nat → Int32} (hX : va_X b Ln xs s s.heap) (hbl : b < s.heap.size) (hbA : ¬ A b) (hLn : Ln ≤ 2048) (M : qM) (ad : Nat → Nat) (mo qa qb qc qf qt ou : Nat) (σ : qS) (hH : LHf M ad mo qa qb qc qf qt ou σ σ) (hW : WF σ) (i : Int) (hi : 0 ≤ i ∧ i + 4 ≤ Ln) (cs ss : Nat) (hcs : cs + 6 ≤ 642456) (hss : ss + 36 ≤ 7168736) (Hk : ∀ (M' : qM) (σ' : qS) (c' s' : Nat), LHf M' ad mo qa qb qc qf qt ou σ' σ' → WF σ' → c' ≤ cs + 6 → s' ≤ ss + 36 → qK p l e room_1 s m args below meth c Q 8 D cy A c' s' 1060 [(4, .int (qI (i))), (3, .ref ou), (2, .ref mo), (1, .ref (ad 0)), (0, .ref b)] [] M') : qK p l e room_1 s m args below meth c Q 8 D cy A (cs) (ss) 216 [(4, .int (qI (i))), (3, .ref ou), (2, .ref mo), (1, .ref (ad 0)), (0, .ref b)] [] (M) := by
  obtain ⟨z1, hz1⟩ : ∃ z, z = (xs (Int.toNat (i + 1))).toInt := ⟨_, rfl⟩
  have rz1 : r32 z1 := by rw [hz1]; exact i32_r _
  have hE : 0 ≤ e_2 σ z1 ∧ e_2 σ z1 ≤ 4 := by unfold e_2; omega
  have hW1 : WF (if e_2 σ z1 = 0 then n_2 σ z1 else σ) := by by_cases h9 : e_2 σ z1 = 0; (rw [if_pos h9]; exact WF_n2 hW h9); (rw [if_neg h9]; exact hW)
  have hva : e_2 σ z1 = 0 → r32 (a_2 σ z1) := rg_2 hW
  refine q_aload_n G 3 1 dL_law_216 rfl rfl ?_
  refine q_aload_n G 4 0 dL_law_217 rfl rfl ?_
  refine q_iload G 0 dL_law_218 rfl ?_
  refine q_iconst G dL_law_220 ?_
  refine q_iadd G dL_law_221 ?_
  refine q_sld G hX hbl hbA dL_law_222 (by omega) (by omega) (by omega) ?_
  refine q_topI (z2 := z1) hz1.symm ?_
  refine q_aload_n G 1 3 dL_law_223 rfl rfl ?_
  refine q_callH (As := [.ref (ad 0), .int (qI (z1)), .ref ou]) (rest := []) G hNs dL_law_224 cwh_91 (c_L_work l hl D cy M ad hH.1 σ hH.2.1 hW z1 rz1 ou hH.2.2.2.2.1 (rg_2 hW)) rfl rfl (Nat.le_of_ble_eq_true rfl) rfl rfl ⟨Nat.le_of_ble_eq_true rfl, Nat.le_of_ble_eq_true rfl⟩ ⟨by show _ ≤ 642456; omega, by show _ ≤ 7168736; omega⟩ (fun v9 M9 hq9 => ?_)
  obtain ⟨rfl, M1, hp9, hm9⟩ := hq9
  have h1 := LH_w hH hp9
  have h2 : LHf M9 ad mo qa qb qc qf qt ou σ (if e_2 σ z1 = 0 then n_2 σ z1 else σ) ∧ (e_2 σ z1 = 0 → mL M9 ou 0 = a_2 σ z1) := by rw [hm9]; by_cases h9 : e_2 σ z1 = 0; (rw [show (if e_2 σ z1 = 0 then sL M1 ou 0 (a_2 σ z1) else M1) = sL M1 ou 0 (a_2 σ z1) from if_pos h9]; exact ⟨LH_o hW1 h1 0 _, fun _ => up2_s _ _ _ _⟩); (rw [show (if e_2 σ z1 = 0 then sL M1 ou 0 (a_2 σ z1) else M1) = M1 from if_neg h9]; exact ⟨h1, fun h8 => absurd h8 h9⟩)
  refine q_st (st2 := [.int (qI (e_2 σ z1))]) rfl ?_
  refine q_abs (fun N => LHf N ad mo qa qb qc qf qt ou σ (if e_2 σ z1 = 0 then n_2 σ z1 else σ) ∧ (e_2 σ z1 = 0 → mL N ou 0 = a_2 σ z1)) h2 ?_
  intro N1 hN1
  obtain ⟨hH1, ha1⟩ := hN1
  have oM := hH1.2.2.1.1
  refine q_istore (lv' := [(5, .int (qI (e_2 σ z1))), (4, .int (qI (i))), (3, .ref ou), (2, .ref mo), (1, .ref (ad 0)), (0, .ref b)]) G dL_law_227 (by decide) rfl ?_
  refine q_aload_n G 3 2 dL_law_229 rfl rfl ?_
  refine q_aload_n G 5 0 dL_law_230 rfl rfl ?_
  refine q_iload G 1 dL_law_231 rfl ?_
  refine q_iconst G dL_law_233 ?_
  refine q_iadd G dL_law_234 ?_
  refine q_sld G hX hbl hbA dL_law_235 (by omega) (by omega) (by omega) ?_
  refine q_topI (z2 := z1) hz1.symm ?_
  refine q_callV (As := [.int (qI (z1))]) (rest := []) G dL_law_236 cw_L_93 (c_X5_work l D cy N1 mo qa qb qc qf qt hH1.2.2.1 σ hH1.2.2.2.1 hW z1 rz1) oM.1 oM.2 (by decide) rfl rfl rfl (Nat.le_of_ble_eq_true rfl) rfl rfl ⟨Nat.le_of_ble_eq_true rfl, Nat.le_of_ble_eq_true rfl⟩ ⟨by show _ ≤ 642456; omega, by show _ ≤ 7168736; omega⟩ (fun v9 M9 hq9 => ?_)
  obtain ⟨I9, L9, rfl, fr9, t9, r9, z9, rfl, hz9⟩ := hq9
  refine q_st (st2 := [.int (qI (z9))]) rfl ?_
  refine q_abs (fun N => LHf N ad mo qa qb qc qf qt ou (if e_2 σ z1 = 0 then n_2 σ z1 else σ) (if e_2 σ z1 = 0 then n_2 σ z1 else σ) ∧ mI N mo 0 = e_2 σ z1 ∧ mL N ou 0 = mL N1 ou 0) ⟨LH_r hW1 hH1 fr9 r9, t9, congrFun (LH_ou hH1 fr9) 0⟩ ?_
  intro N2 hN2
  obtain ⟨hH2, t2, o2⟩ := hN2
  have oM2 := hH2.2.2.1.1
  have oU2 := hH2.2.2.2.2.1
  refine q_istore (lv' := [(6, .int (qI (z9))), (5, .int (qI (e_2 σ z1))), (4, .int (qI (i))), (3, .ref ou), (2, .ref mo), (1, .ref (ad 0)), (0, .ref b)]) G dL_law_239 (by decide) rfl ?_
  refine q_aload_n G 4 2 dL_law_241 rfl rfl ?_
  refine q_callV (As := []) (rest := []) G dL_law_242 cw_L_84 (c_X5_thrown l D cy N2 mo qa qb qc qf qt hH2.2.2.1) oM2.1 oM2.2 (by decide) rfl rfl rfl (Nat.le_of_ble_eq_true rfl) rfl rfl ⟨Nat.le_of_ble_eq_true rfl, Nat.le_of_ble_eq_true rfl⟩ ⟨by show _ ≤ 642456; omega, by show _ ≤ 7168736; omega⟩ (fun v9 M9 hq9 => ?_)
  obtain ⟨rfl, e9⟩ := hq9
  refine q_mem e9 ?_
  refine q_st (st2 := [.int (qI (mI N2 mo 0))]) rfl ?_
  refine q_iload G 1 dL_law_245 rfl ?_
  refine q_icmp_eq (tgt := 252) G dL_law_247 (by decide) (by omega) (by omega) (fun c1 => ?_) (fun c1 => ?_)
  · refine q_iload G 1 dL_law_252 rfl ?_
    refine q_if_ne (tgt := 269) G dL_law_254 (by decide) (by first | assumption | omega) (fun c2 => ?_) (fun c2 => ?_)
    · refine q_goto (tgt := 1060) G dL_law_269 (by decide) ?_
      refine q_lvs [2, 3, 4, 5, 6] rfl ?_
      exact Hk N2 (if e_2 σ z1 = 0 then n_2 σ z1 else σ) _ _ hH2 hW1 (by omega) (by omega)
    · refine q_aload_n G 3 3 dL_law_257 rfl rfl ?_
      refine q_iconst G dL_law_258 ?_
      have hz0 : e_2 σ z1 = 0 := by omega
      have hzv : z9 = a_2 σ z1 := hz9 hz0
      have hov : mL N2 ou (Int.toNat 0) = a_2 σ z1 := o2.trans (ha1 hz0)
      have hvr := hva hz0
      refine q_laload G dL_law_259 oU2.1 oU2.2.1 (by first | assumption | omega) (show (0) < ((mN N2 ou : Nat) : Int) by rw [oU2.2.2]; omega) (show mN N2 ou < 2147483648 by rw [oU2.2.2]; decide) ?_
      refine q_iload G 0 dL_law_260 rfl ?_
      refine q_i2l G dL_law_262 (by omega) ?_
      refine q_lcmp_eq (tgt := 269) G dL_law_263 dL_law_264 (by decide) (by omega) (by omega) (fun c3 => ?_) (fun c3 => ?_)
      · refine q_goto (tgt := 1060) G dL_law_269 (by decide) ?_
        refine q_lvs [2, 3, 4, 5, 6] rfl ?_
        exact Hk N2 (if e_2 σ z1 = 0 then n_2 σ z1 else σ) _ _ hH2 hW1 (by omega) (by omega)
      · exact absurd (hov.trans hzv.symm) c3
  · exact absurd t2 c1
set_option maxRecDepth 100000 in
set_option maxHeartbeats 4000000 in
theorem k_prove {p : Program} {l : Launch} {e : Env} {s : State} {m : MethodId} {args : Array Value} {below : List Frame} {meth : Method} {c : Code} {Q : State → Prop} {A : Nat → Prop} (hl : l.stackTraces = false) (D : va_G) (cy : Nat → ClassId) (G : qG p s m args meth c cL_law 8 RL D cy A) (hNs : qNs s) {b Ln : Nat} {xs : Nat → Int32} (hX : va_X b Ln xs s s.heap) (hbl : b < s.heap.size) (hbA : ¬ A b) (hLn : Ln ≤ 2048) (M : qM) (ad : Nat → Nat) (mo qa qb qc qf qt ou : Nat) (σ : qS) (hH : LHf M ad mo qa qb qc qf qt ou σ σ) (hW : WF σ) (i : Int) (hi : 0 ≤ i ∧ i + 4 ≤ Ln) (cs ss : Nat) (hcs : cs + 6 ≤ 642456) (hss : ss + 36 ≤ 7168736) (Hk : ∀ (M' : qM) (σ' : qS) (c' s' : Nat), LHf M' ad mo qa qb qc qf qt ou σ' σ' → WF σ' → c' ≤ cs + 6 → s' ≤ ss + 36 → qK p l e room_1 s m args below meth c Q 8 D cy A c' s' 1060 [(4, .int (qI (i))), (3, .ref ou), (2, .ref mo), (1, .ref (ad 0)), (0, .ref b)] [] M') : qK p l e room_1 s m args below meth c Q 8 D cy A (cs) (ss) 272 [(4, .int (qI (i))), (3, .ref ou), (2, .ref mo), (1, .ref (ad 0)), (0, .ref b)] [] (M) := by
  obtain ⟨z1, hz1⟩ : ∃ z, z = (xs (Int.toNat (i + 1))).toInt := ⟨_, rfl⟩
  have rz1 : r32 z1 := by rw [hz1]; exact i32_r _
  have hE : 0 ≤ e_3 σ z1 ∧ e_3 σ z1 ≤ 4 := by unfold e_3; omega
  have hW1 : WF (if e_3 σ z1 = 0 then n_3 σ z1 else σ) := by by_cases h9 : e_3 σ z1 = 0; (rw [if_pos h9]; exact WF_n3 hW h9); (rw [if_neg h9]; exact hW)
  have hva : e_3 σ z1 = 0 → r32 (a_3 σ z1) := rg_3 hW
  refine q_aload_n G 3 1 dL_law_272 rfl rfl ?_
  refine q_aload_n G 4 0 dL_law_273 rfl rfl ?_
  refine q_iload G 0 dL_law_274 rfl ?_
  refine q_iconst G dL_law_276 ?_
  refine q_iadd G dL_law_277 ?_
  refine q_sld G hX hbl hbA dL_law_278 (by omega) (by omega) (by omega) ?_
  refine q_topI (z2 := z1) hz1.symm ?_
  refine q_aload_n G 1 3 dL_law_279 rfl rfl ?_
  refine q_callH (As := [.ref (ad 0), .int (qI (z1)), .ref ou]) (rest := []) G hNs dL_law_280 cwh_94 (c_L_prove l hl D cy M ad hH.1 σ hH.2.1 hW z1 rz1 ou hH.2.2.2.2.1 (rg_3 hW)) rfl rfl (Nat.le_of_ble_eq_true rfl) rfl rfl ⟨Nat.le_of_ble_eq_true rfl, Nat.le_of_ble_eq_true rfl⟩ ⟨by show _ ≤ 642456; omega, by show _ ≤ 7168736; omega⟩ (fun v9 M9 hq9 => ?_)
  obtain ⟨rfl, M1, hp9, hm9⟩ := hq9
  have h1 := LH_w hH hp9
  have h2 : LHf M9 ad mo qa qb qc qf qt ou σ (if e_3 σ z1 = 0 then n_3 σ z1 else σ) ∧ (e_3 σ z1 = 0 → mL M9 ou 0 = a_3 σ z1) := by rw [hm9]; by_cases h9 : e_3 σ z1 = 0; (rw [show (if e_3 σ z1 = 0 then sL M1 ou 0 (a_3 σ z1) else M1) = sL M1 ou 0 (a_3 σ z1) from if_pos h9]; exact ⟨LH_o hW1 h1 0 _, fun _ => up2_s _ _ _ _⟩); (rw [show (if e_3 σ z1 = 0 then sL M1 ou 0 (a_3 σ z1) else M1) = M1 from if_neg h9]; exact ⟨h1, fun h8 => absurd h8 h9⟩)
  refine q_st (st2 := [.int (qI (e_3 σ z1))]) rfl ?_
  refine q_abs (fun N => LHf N ad mo qa qb qc qf qt ou σ (if e_3 σ z1 = 0 then n_3 σ z1 else σ) ∧ (e_3 σ z1 = 0 → mL N ou 0 = a_3 σ z1)) h2 ?_
  intro N1 hN1
  obtain ⟨hH1, ha1⟩ := hN1
  have oM := hH1.2.2.1.1
  refine q_istore (lv' := [(5, .int (qI (e_3 σ z1))), (4, .int (qI (i))), (3, .ref ou), (2, .ref mo), (1, .ref (ad 0)), (0, .ref b)]) G dL_law_283 (by decide) rfl ?_
  refine q_aload_n G 3 2 dL_law_285 rfl rfl ?_
  refine q_aload_n G 5 0 dL_law_286 rfl rfl ?_
  refine q_iload G 1 dL_law_287 rfl ?_
  refine q_iconst G dL_law_289 ?_
  refine q_iadd G dL_law_290 ?_
  refine q_sld G hX hbl hbA dL_law_291 (by omega) (by omega) (by omega) ?_
  refine q_topI (z2 := z1) hz1.symm ?_
  refine q_callV (As := [.int (qI (z1))]) (rest := []) G dL_law_292 cw_L_96 (c_X5_prove l D cy N1 mo qa qb qc qf qt hH1.2.2.1 σ hH1.2.2.2.1 hW z1 rz1) oM.1 oM.2 (by decide) rfl rfl rfl (Nat.le_of_ble_eq_true rfl) rfl rfl ⟨Nat.le_of_ble_eq_true rfl, Nat.le_of_ble_eq_true rfl⟩ ⟨by show _ ≤ 642456; omega, by show _ ≤ 7168736; omega⟩ (fun v9 M9 hq9 => ?_)
  obtain ⟨I9, L9, rfl, fr9, t9, r9, z9, rfl, hz9⟩ := hq9
  refine q_st (st2 := [.int (qI (z9))]) rfl ?_
  refine q_abs (fun N => LHf N ad mo qa qb qc qf qt ou (if e_3 σ z1 = 0 then n_3 σ z1 else σ) (if e_3 σ z1 = 0 then n_3 σ z1 else σ) ∧ mI N mo 0 = e_3 σ z1 ∧ mL N ou 0 = mL N1 ou 0) ⟨LH_r hW1 hH1 fr9 r9, t9, congrFun (LH_ou hH1 fr9) 0⟩ ?_
  intro N2 hN2
  obtain ⟨hH2, t2, o2⟩ := hN2
  have oM2 := hH2.2.2.1.1
  have oU2 := hH2.2.2.2.2.1
  refine q_istore (lv' := [(6, .int (qI (z9))), (5, .int (qI (e_3 σ z1))), (4, .int (qI (i))), (3, .ref ou), (2, .ref mo), (1, .ref (ad 0)), (0, .ref b)]) G dL_law_295 (by decide) rfl ?_
  refine q_aload_n G 4 2 dL_law_297 rfl rfl ?_
  refine q_callV (As := []) (rest := []) G dL_law_298 cw_L_84 (c_X5_thrown l D cy N2 mo qa qb qc qf qt hH2.2.2.1) oM2.1 oM2.2 (by decide) rfl rfl rfl (Nat.le_of_ble_eq_true rfl) rfl rfl ⟨Nat.le_of_ble_eq_true rfl, Nat.le_of_ble_eq_true rfl⟩ ⟨by show _ ≤ 642456; omega, by show _ ≤ 7168736; omega⟩ (fun v9 M9 hq9 => ?_)
  obtain ⟨rfl, e9⟩ := hq9
  refine q_mem e9 ?_
  refine q_st (st2 := [.int (qI (mI N2 mo 0))]) rfl ?_
  refine q_iload G 1 dL_law_301 rfl ?_
  refine q_icmp_eq (tgt := 308) G dL_law_303 (by decide) (by omega) (by omega) (fun c1 => ?_) (fun c1 => ?_)
  · refine q_iload G 1 dL_law_308 rfl ?_
    refine q_if_ne (tgt := 325) G dL_law_310 (by decide) (by first | assumption | omega) (fun c2 => ?_) (fun c2 => ?_)
    · refine q_goto (tgt := 1060) G dL_law_325 (by decide) ?_
      refine q_lvs [2, 3, 4, 5, 6] rfl ?_
      exact Hk N2 (if e_3 σ z1 = 0 then n_3 σ z1 else σ) _ _ hH2 hW1 (by omega) (by omega)
    · refine q_aload_n G 3 3 dL_law_313 rfl rfl ?_
      refine q_iconst G dL_law_314 ?_
      have hz0 : e_3 σ z1 = 0 := by omega
      have hzv : z9 = a_3 σ z1 := hz9 hz0
      have hov : mL N2 ou (Int.toNat 0) = a_3 σ z1 := o2.trans (ha1 hz0)
      have hvr := hva hz0
      refine q_laload G dL_law_315 oU2.1 oU2.2.1 (by first | assumption | omega) (show (0) < ((mN N2 ou : Nat) : Int) by rw [oU2.2.2]; omega) (show mN N2 ou < 2147483648 by rw [oU2.2.2]; decide) ?_
      refine q_iload G 0 dL_law_316 rfl ?_
      refine q_i2l G dL_law_318 (by omega) ?_
      refine q_lcmp_eq (tgt := 325) G dL_law_319 dL_law_320 (by decide) (by omega) (by omega) (fun c3 => ?_) (fun c3 => ?_)
      · refine q_goto (tgt := 1060) G dL_law_325 (by decide) ?_
        refine q_lvs [2, 3, 4, 5, 6] rfl ?_
        exact Hk N2 (if e_3 σ z1 = 0 then n_3 σ z1 else σ) _ _ hH2 hW1 (by omega) (by omega)
      · exact absurd (hov.trans hzv.symm) c3
  · exact absurd t2 c1
set_option maxRecDepth 100000 in
set_option maxHeartbeats 4000000 in
theorem k_publish {p : Program} {l : Launch} {e : Env} {s : State} {m : MethodId} {args : Array Value} {below : List Frame} {meth : Method} {c : Code} {Q : State → Prop} {A : Nat → Prop} (hl : l.stackTraces = false) (D : va_G) (cy : Nat → ClassId) (G : qG p s m args meth c cL_law 8 RL D cy A) (hNs : qNs s) {b Ln : Nat} {xs : Nat → Int32} (hX : va_X b Ln xs s s.heap) (hbl : b < s.heap.size) (hbA : ¬ A b) (hLn : Ln ≤ 2048) (M : qM) (ad : Nat → Nat) (mo qa qb qc qf qt ou : Nat) (σ : qS) (hH : LHf M ad mo qa qb qc qf qt ou σ σ) (hW : WF σ) (i : Int) (hi : 0 ≤ i ∧ i + 4 ≤ Ln) (cs ss : Nat) (hcs : cs + 6 ≤ 642456) (hss : ss + 36 ≤ 7168736) (Hk : ∀ (M' : qM) (σ' : qS) (c' s' : Nat), LHf M' ad mo qa qb qc qf qt ou σ' σ' → WF σ' → c' ≤ cs + 6 → s' ≤ ss + 36 → qK p l e room_1 s m args below meth c Q 8 D cy A c' s' 1060 [(4, .int (qI (i))), (3, .ref ou), (2, .ref mo), (1, .ref (ad 0)), (0, .ref b)] [] M') : qK p l e room_1 s m args below meth c Q 8 D cy A (cs) (ss) 328 [(4, .int (qI (i))), (3, .ref ou), (2, .ref mo), (1, .ref (ad 0)), (0, .ref b)] [] (M) := by
  have hE : 0 ≤ e_4 σ ∧ e_4 σ ≤ 4 := by unfold e_4; omega
  have hW1 : WF (if e_4 σ = 0 then n_4 σ else σ) := by by_cases h9 : e_4 σ = 0; (rw [if_pos h9]; exact WF_n4 hW h9); (rw [if_neg h9]; exact hW)
  have hva : e_4 σ = 0 → r32 (a_4 σ) := fun _ => rg_4 hW
  refine q_aload_n G 3 1 dL_law_328 rfl rfl ?_
  refine q_aload_n G 1 3 dL_law_329 rfl rfl ?_
  refine q_callH (As := [.ref (ad 0), .ref ou]) (rest := []) G hNs dL_law_330 cwh_97 (c_L_publish l hl D cy M ad hH.1 σ hH.2.1 hW ou hH.2.2.2.2.1 (fun _ => rg_4 hW)) rfl rfl (Nat.le_of_ble_eq_true rfl) rfl rfl ⟨Nat.le_of_ble_eq_true rfl, Nat.le_of_ble_eq_true rfl⟩ ⟨by show _ ≤ 642456; omega, by show _ ≤ 7168736; omega⟩ (fun v9 M9 hq9 => ?_)
  obtain ⟨rfl, M1, hp9, hm9⟩ := hq9
  have h1 := LH_w hH hp9
  have h2 : LHf M9 ad mo qa qb qc qf qt ou σ (if e_4 σ = 0 then n_4 σ else σ) ∧ (e_4 σ = 0 → mL M9 ou 0 = a_4 σ) := by rw [hm9]; by_cases h9 : e_4 σ = 0; (rw [show (if e_4 σ = 0 then sL M1 ou 0 (a_4 σ) else M1) = sL M1 ou 0 (a_4 σ) from if_pos h9]; exact ⟨LH_o hW1 h1 0 _, fun _ => up2_s _ _ _ _⟩); (rw [show (if e_4 σ = 0 then sL M1 ou 0 (a_4 σ) else M1) = M1 from if_neg h9]; exact ⟨h1, fun h8 => absurd h8 h9⟩)
  refine q_st (st2 := [.int (qI (e_4 σ))]) rfl ?_
  refine q_abs (fun N => LHf N ad mo qa qb qc qf qt ou σ (if e_4 σ = 0 then n_4 σ else σ) ∧ (e_4 σ = 0 → mL N ou 0 = a_4 σ)) h2 ?_
  intro N1 hN1
  obtain ⟨hH1, ha1⟩ := hN1
  have oM := hH1.2.2.1.1
  refine q_istore (lv' := [(5, .int (qI (e_4 σ))), (4, .int (qI (i))), (3, .ref ou), (2, .ref mo), (1, .ref (ad 0)), (0, .ref b)]) G dL_law_333 (by decide) rfl ?_
  refine q_aload_n G 3 2 dL_law_335 rfl rfl ?_
  refine q_callV (As := []) (rest := []) G dL_law_336 cw_L_100 (c_X5_publish l D cy N1 mo qa qb qc qf qt hH1.2.2.1 σ hH1.2.2.2.1 hW) oM.1 oM.2 (by decide) rfl rfl rfl (Nat.le_of_ble_eq_true rfl) rfl rfl ⟨Nat.le_of_ble_eq_true rfl, Nat.le_of_ble_eq_true rfl⟩ ⟨by show _ ≤ 642456; omega, by show _ ≤ 7168736; omega⟩ (fun v9 M9 hq9 => ?_)
  obtain ⟨I9, L9, rfl, fr9, t9, r9, z9, rfl, hz9⟩ := hq9
  refine q_st (st2 := [.int (qI (z9))]) rfl ?_
  refine q_abs (fun N => LHf N ad mo qa qb qc qf qt ou (if e_4 σ = 0 then n_4 σ else σ) (if e_4 σ = 0 then n_4 σ else σ) ∧ mI N mo 0 = e_4 σ ∧ mL N ou 0 = mL N1 ou 0) ⟨LH_r hW1 hH1 fr9 r9, t9, congrFun (LH_ou hH1 fr9) 0⟩ ?_
  intro N2 hN2
  obtain ⟨hH2, t2, o2⟩ := hN2
  have oM2 := hH2.2.2.1.1
  have oU2 := hH2.2.2.2.2.1
  refine q_istore (lv' := [(6, .int (qI (z9))), (5, .int (qI (e_4 σ))), (4, .int (qI (i))), (3, .ref ou), (2, .ref mo), (1, .ref (ad 0)), (0, .ref b)]) G dL_law_339 (by decide) rfl ?_
  refine q_aload_n G 4 2 dL_law_341 rfl rfl ?_
  refine q_callV (As := []) (rest := []) G dL_law_342 cw_L_84 (c_X5_thrown l D cy N2 mo qa qb qc qf qt hH2.2.2.1) oM2.1 oM2.2 (by decide) rfl rfl rfl (Nat.le_of_ble_eq_true rfl) rfl rfl ⟨Nat.le_of_ble_eq_true rfl, Nat.le_of_ble_eq_true rfl⟩ ⟨by show _ ≤ 642456; omega, by show _ ≤ 7168736; omega⟩ (fun v9 M9 hq9 => ?_)
  obtain ⟨rfl, e9⟩ := hq9
  refine q_mem e9 ?_
  refine q_st (st2 := [.int (qI (mI N2 mo 0))]) rfl ?_
  refine q_iload G 1 dL_law_345 rfl ?_
  refine q_icmp_eq (tgt := 352) G dL_law_347 (by decide) (by omega) (by omega) (fun c1 => ?_) (fun c1 => ?_)
  · refine q_iload G 1 dL_law_352 rfl ?_
    refine q_if_ne (tgt := 369) G dL_law_354 (by decide) (by first | assumption | omega) (fun c2 => ?_) (fun c2 => ?_)
    · refine q_goto (tgt := 1060) G dL_law_369 (by decide) ?_
      refine q_lvs [2, 3, 4, 5, 6] rfl ?_
      exact Hk N2 (if e_4 σ = 0 then n_4 σ else σ) _ _ hH2 hW1 (by omega) (by omega)
    · refine q_aload_n G 3 3 dL_law_357 rfl rfl ?_
      refine q_iconst G dL_law_358 ?_
      have hz0 : e_4 σ = 0 := by omega
      have hzv : z9 = a_4 σ := hz9 hz0
      have hov : mL N2 ou (Int.toNat 0) = a_4 σ := o2.trans (ha1 hz0)
      have hvr := hva hz0
      refine q_laload G dL_law_359 oU2.1 oU2.2.1 (by first | assumption | omega) (show (0) < ((mN N2 ou : Nat) : Int) by rw [oU2.2.2]; omega) (show mN N2 ou < 2147483648 by rw [oU2.2.2]; decide) ?_
      refine q_iload G 0 dL_law_360 rfl ?_
      refine q_i2l G dL_law_362 (by omega) ?_
      refine q_lcmp_eq (tgt := 369) G dL_law_363 dL_law_364 (by decide) (by omega) (by omega) (fun c3 => ?_) (fun c3 => ?_)
      · refine q_goto (tgt := 1060) G dL_law_369 (by decide) ?_
        refine q_lvs [2, 3, 4, 5, 6] rfl ?_
        exact Hk N2 (if e_4 σ = 0 then n_4 σ else σ) _ _ hH2 hW1 (by omega) (by omega)
      · exact absurd (hov.trans hzv.symm) c3
  · exact absurd t2 c1
set_option maxRecDepth 100000 in
set_option maxHeartbeats 4000000 in
theorem k_told {p : Program} {l : Launch} {e : Env} {s : State} {m : MethodId} {args : Array Value} {below : List Frame} {meth : Method} {c : Code} {Q : State → Prop} {A : Nat → Prop} (hl : l.stackTraces = false) (D : va_G) (cy : Nat → ClassId) (G : qG p s m args meth c cL_law 8 RL D cy A) (hNs : qNs s) {b Ln : Nat} {xs : Nat → Int32} (hX : va_X b Ln xs s s.heap) (hbl : b < s.heap.size) (hbA : ¬ A b) (hLn : Ln ≤ 2048) (M : qM) (ad : Nat → Nat) (mo qa qb qc qf qt ou : Nat) (σ : qS) (hH : LHf M ad mo qa qb qc qf qt ou σ σ) (hW : WF σ) (i : Int) (hi : 0 ≤ i ∧ i + 4 ≤ Ln) (cs ss : Nat) (hcs : cs + 6 ≤ 642456) (hss : ss + 36 ≤ 7168736) (Hk : ∀ (M' : qM) (σ' : qS) (c' s' : Nat), LHf M' ad mo qa qb qc qf qt ou σ' σ' → WF σ' → c' ≤ cs + 6 → s' ≤ ss + 36 → qK p l e room_1 s m args below meth c Q 8 D cy A c' s' 1060 [(4, .int (qI (i))), (3, .ref ou), (2, .ref mo), (1, .ref (ad 0)), (0, .ref b)] [] M') : qK p l e room_1 s m args below meth c Q 8 D cy A (cs) (ss) 398 [(4, .int (qI (i))), (3, .ref ou), (2, .ref mo), (1, .ref (ad 0)), (0, .ref b)] [] (M) := by
  obtain ⟨z1, hz1⟩ : ∃ z, z = (xs (Int.toNat (i + 1))).toInt := ⟨_, rfl⟩
  obtain ⟨z2, hz2⟩ : ∃ z, z = (xs (Int.toNat (i + 2))).toInt := ⟨_, rfl⟩
  have rz1 : r32 z1 := by rw [hz1]; exact i32_r _
  have rz2 : r32 z2 := by rw [hz2]; exact i32_r _
  have hE : 0 ≤ e_7 σ z1 z2 ∧ e_7 σ z1 z2 ≤ 4 := by unfold e_7; omega
  have hW1 : WF (if e_7 σ z1 z2 = 0 then σ else σ) := by rw [ite_self]; exact hW
  have hva : e_7 σ z1 z2 = 0 → r32 (a_7 σ z1 z2) := rg_7 hW
  refine q_aload_n G 3 1 dL_law_398 rfl rfl ?_
  refine q_aload_n G 4 0 dL_law_399 rfl rfl ?_
  refine q_iload G 0 dL_law_400 rfl ?_
  refine q_iconst G dL_law_402 ?_
  refine q_iadd G dL_law_403 ?_
  refine q_sld G hX hbl hbA dL_law_404 (by omega) (by omega) (by omega) ?_
  refine q_topI (z2 := z1) hz1.symm ?_
  refine q_aload_n G 4 0 dL_law_405 rfl rfl ?_
  refine q_iload G 0 dL_law_406 rfl ?_
  refine q_iconst G dL_law_408 ?_
  refine q_iadd G dL_law_409 ?_
  refine q_sld G hX hbl hbA dL_law_410 (by omega) (by omega) (by omega) ?_
  refine q_topI (z2 := z2) hz2.symm ?_
  refine q_aload_n G 1 3 dL_law_411 rfl rfl ?_
  refine q_callH (As := [.ref (ad 0), .int (qI (z1)), .int (qI (z2)), .ref ou]) (rest := []) G hNs dL_law_412 cwh_110 (c_L_told l hl D cy M ad hH.1 σ hH.2.1 hW z1 z2 rz1 rz2 ou hH.2.2.2.2.1 (rg_7 hW)) rfl rfl (Nat.le_of_ble_eq_true rfl) rfl rfl ⟨Nat.le_of_ble_eq_true rfl, Nat.le_of_ble_eq_true rfl⟩ ⟨by show _ ≤ 642456; omega, by show _ ≤ 7168736; omega⟩ (fun v9 M9 hq9 => ?_)
  obtain ⟨rfl, M1, hp9, hm9⟩ := hq9
  have h1 := LH_w hH hp9
  have h2 : LHf M9 ad mo qa qb qc qf qt ou σ (if e_7 σ z1 z2 = 0 then σ else σ) ∧ (e_7 σ z1 z2 = 0 → mL M9 ou 0 = a_7 σ z1 z2) := by rw [hm9]; by_cases h9 : e_7 σ z1 z2 = 0; (rw [show (if e_7 σ z1 z2 = 0 then sL M1 ou 0 (a_7 σ z1 z2) else M1) = sL M1 ou 0 (a_7 σ z1 z2) from if_pos h9]; exact ⟨LH_o hW1 h1 0 _, fun _ => up2_s _ _ _ _⟩); (rw [show (if e_7 σ z1 z2 = 0 then sL M1 ou 0 (a_7 σ z1 z2) else M1) = M1 from if_neg h9]; exact ⟨h1, fun h8 => absurd h8 h9⟩)
  refine q_st (st2 := [.int (qI (e_7 σ z1 z2))]) rfl ?_
  refine q_abs (fun N => LHf N ad mo qa qb qc qf qt ou σ (if e_7 σ z1 z2 = 0 then σ else σ) ∧ (e_7 σ z1 z2 = 0 → mL N ou 0 = a_7 σ z1 z2)) h2 ?_
  intro N1 hN1
  obtain ⟨hH1, ha1⟩ := hN1
  have oM := hH1.2.2.1.1
  refine q_istore (lv' := [(5, .int (qI (e_7 σ z1 z2))), (4, .int (qI (i))), (3, .ref ou), (2, .ref mo), (1, .ref (ad 0)), (0, .ref b)]) G dL_law_415 (by decide) rfl ?_
  refine q_aload_n G 3 2 dL_law_417 rfl rfl ?_
  refine q_aload_n G 5 0 dL_law_418 rfl rfl ?_
  refine q_iload G 1 dL_law_419 rfl ?_
  refine q_iconst G dL_law_421 ?_
  refine q_iadd G dL_law_422 ?_
  refine q_sld G hX hbl hbA dL_law_423 (by omega) (by omega) (by omega) ?_
  refine q_topI (z2 := z1) hz1.symm ?_
  refine q_aload_n G 5 0 dL_law_424 rfl rfl ?_
  refine q_iload G 1 dL_law_425 rfl ?_
  refine q_iconst G dL_law_427 ?_
  refine q_iadd G dL_law_428 ?_
  refine q_sld G hX hbl hbA dL_law_429 (by omega) (by omega) (by omega) ?_
  refine q_topI (z2 := z2) hz2.symm ?_
  refine q_callV (As := [.int (qI (z1)), .int (qI (z2))]) (rest := []) G dL_law_430 cw_L_113 (c_X5_told l D cy N1 mo qa qb qc qf qt hH1.2.2.1 σ hH1.2.2.2.1 hW z1 z2 rz1 rz2) oM.1 oM.2 (by decide) rfl rfl rfl (Nat.le_of_ble_eq_true rfl) rfl rfl ⟨Nat.le_of_ble_eq_true rfl, Nat.le_of_ble_eq_true rfl⟩ ⟨by show _ ≤ 642456; omega, by show _ ≤ 7168736; omega⟩ (fun v9 M9 hq9 => ?_)
  obtain ⟨I9, L9, rfl, fr9, t9, r9, z9, rfl, hz9⟩ := hq9
  refine q_st (st2 := [.int (qI (z9))]) rfl ?_
  refine q_abs (fun N => LHf N ad mo qa qb qc qf qt ou (if e_7 σ z1 z2 = 0 then σ else σ) (if e_7 σ z1 z2 = 0 then σ else σ) ∧ mI N mo 0 = e_7 σ z1 z2 ∧ mL N ou 0 = mL N1 ou 0) ⟨LH_r hW1 hH1 fr9 (show RMd (if e_7 σ z1 z2 = 0 then σ else σ) I9 L9 mo qa qb qc qf qt by rw [ite_self]; exact r9), t9, congrFun (LH_ou hH1 fr9) 0⟩ ?_
  intro N2 hN2
  obtain ⟨hH2, t2, o2⟩ := hN2
  have oM2 := hH2.2.2.1.1
  have oU2 := hH2.2.2.2.2.1
  refine q_istore (lv' := [(6, .int (qI (z9))), (5, .int (qI (e_7 σ z1 z2))), (4, .int (qI (i))), (3, .ref ou), (2, .ref mo), (1, .ref (ad 0)), (0, .ref b)]) G dL_law_433 (by decide) rfl ?_
  refine q_aload_n G 4 2 dL_law_435 rfl rfl ?_
  refine q_callV (As := []) (rest := []) G dL_law_436 cw_L_84 (c_X5_thrown l D cy N2 mo qa qb qc qf qt hH2.2.2.1) oM2.1 oM2.2 (by decide) rfl rfl rfl (Nat.le_of_ble_eq_true rfl) rfl rfl ⟨Nat.le_of_ble_eq_true rfl, Nat.le_of_ble_eq_true rfl⟩ ⟨by show _ ≤ 642456; omega, by show _ ≤ 7168736; omega⟩ (fun v9 M9 hq9 => ?_)
  obtain ⟨rfl, e9⟩ := hq9
  refine q_mem e9 ?_
  refine q_st (st2 := [.int (qI (mI N2 mo 0))]) rfl ?_
  refine q_iload G 1 dL_law_439 rfl ?_
  refine q_icmp_eq (tgt := 446) G dL_law_441 (by decide) (by omega) (by omega) (fun c1 => ?_) (fun c1 => ?_)
  · refine q_iload G 1 dL_law_446 rfl ?_
    refine q_if_ne (tgt := 463) G dL_law_448 (by decide) (by first | assumption | omega) (fun c2 => ?_) (fun c2 => ?_)
    · refine q_goto (tgt := 1060) G dL_law_463 (by decide) ?_
      refine q_lvs [2, 3, 4, 5, 6] rfl ?_
      exact Hk N2 (if e_7 σ z1 z2 = 0 then σ else σ) _ _ hH2 hW1 (by omega) (by omega)
    · refine q_aload_n G 3 3 dL_law_451 rfl rfl ?_
      refine q_iconst G dL_law_452 ?_
      have hz0 : e_7 σ z1 z2 = 0 := by omega
      have hzv : z9 = a_7 σ z1 z2 := hz9 hz0
      have hov : mL N2 ou (Int.toNat 0) = a_7 σ z1 z2 := o2.trans (ha1 hz0)
      have hvr := hva hz0
      refine q_laload G dL_law_453 oU2.1 oU2.2.1 (by first | assumption | omega) (show (0) < ((mN N2 ou : Nat) : Int) by rw [oU2.2.2]; omega) (show mN N2 ou < 2147483648 by rw [oU2.2.2]; decide) ?_
      refine q_iload G 0 dL_law_454 rfl ?_
      refine q_i2l G dL_law_456 (by omega) ?_
      refine q_lcmp_eq (tgt := 463) G dL_law_457 dL_law_458 (by decide) (by omega) (by omega) (fun c3 => ?_) (fun c3 => ?_)
      · refine q_goto (tgt := 1060) G dL_law_463 (by decide) ?_
        refine q_lvs [2, 3, 4, 5, 6] rfl ?_
        exact Hk N2 (if e_7 σ z1 z2 = 0 then σ else σ) _ _ hH2 hW1 (by omega) (by omega)
      · exact absurd (hov.trans hzv.symm) c3
  · exact absurd t2 c1
set_option maxRecDepth 100000 in
set_option maxHeartbeats 4000000 in
theorem k_form {p : Program} {l : Launch} {e : Env} {s : State} {m : MethodId} {args : Array Value} {below : List Frame} {meth : Method} {c : Code} {Q : State → Prop} {A : Nat → Prop} (hl : l.stackTraces = false) (D : va_G) (cy : Nat → ClassId) (G : qG p s m args meth c cL_law 8 RL D cy A) (hNs : qNs s) {b Ln : Nat} {xs : Nat → Int32} (hX : va_X b Ln xs s s.heap) (hbl : b < s.heap.size) (hbA : ¬ A b) (hLn : Ln ≤ 2048) (M : qM) (ad : Nat → Nat) (mo qa qb qc qf qt ou : Nat) (σ : qS) (hH : LHf M ad mo qa qb qc qf qt ou σ σ) (hW : WF σ) (i : Int) (hi : 0 ≤ i ∧ i + 4 ≤ Ln) (cs ss : Nat) (hcs : cs + 6 ≤ 642456) (hss : ss + 36 ≤ 7168736) (Hk : ∀ (M' : qM) (σ' : qS) (c' s' : Nat), LHf M' ad mo qa qb qc qf qt ou σ' σ' → WF σ' → c' ≤ cs + 6 → s' ≤ ss + 36 → qK p l e room_1 s m args below meth c Q 8 D cy A c' s' 1060 [(4, .int (qI (i))), (3, .ref ou), (2, .ref mo), (1, .ref (ad 0)), (0, .ref b)] [] M') : qK p l e room_1 s m args below meth c Q 8 D cy A (cs) (ss) 466 [(4, .int (qI (i))), (3, .ref ou), (2, .ref mo), (1, .ref (ad 0)), (0, .ref b)] [] (M) := by
  obtain ⟨z1, hz1⟩ : ∃ z, z = (xs (Int.toNat (i + 1))).toInt := ⟨_, rfl⟩
  obtain ⟨z2, hz2⟩ : ∃ z, z = (xs (Int.toNat (i + 2))).toInt := ⟨_, rfl⟩
  obtain ⟨z3, hz3⟩ : ∃ z, z = (xs (Int.toNat (i + 3))).toInt := ⟨_, rfl⟩
  have rz1 : r32 z1 := by rw [hz1]; exact i32_r _
  have rz2 : r32 z2 := by rw [hz2]; exact i32_r _
  have rz3 : r32 z3 := by rw [hz3]; exact i32_r _
  have hE : 0 ≤ e_8 σ z1 z2 z3 ∧ e_8 σ z1 z2 z3 ≤ 4 := by unfold e_8; omega
  have hW1 : WF (if e_8 σ z1 z2 z3 = 0 then σ else σ) := by rw [ite_self]; exact hW
  have hva : e_8 σ z1 z2 z3 = 0 → r32 (a_8 σ z1 z2 z3) := fun _ => rg_8
  refine q_aload_n G 3 1 dL_law_466 rfl rfl ?_
  refine q_aload_n G 4 0 dL_law_467 rfl rfl ?_
  refine q_iload G 0 dL_law_468 rfl ?_
  refine q_iconst G dL_law_470 ?_
  refine q_iadd G dL_law_471 ?_
  refine q_sld G hX hbl hbA dL_law_472 (by omega) (by omega) (by omega) ?_
  refine q_topI (z2 := z1) hz1.symm ?_
  refine q_aload_n G 4 0 dL_law_473 rfl rfl ?_
  refine q_iload G 0 dL_law_474 rfl ?_
  refine q_iconst G dL_law_476 ?_
  refine q_iadd G dL_law_477 ?_
  refine q_sld G hX hbl hbA dL_law_478 (by omega) (by omega) (by omega) ?_
  refine q_topI (z2 := z2) hz2.symm ?_
  refine q_aload_n G 4 0 dL_law_479 rfl rfl ?_
  refine q_iload G 0 dL_law_480 rfl ?_
  refine q_iconst G dL_law_482 ?_
  refine q_iadd G dL_law_483 ?_
  refine q_sld G hX hbl hbA dL_law_484 (by omega) (by omega) (by omega) ?_
  refine q_topI (z2 := z3) hz3.symm ?_
  refine q_aload_n G 1 3 dL_law_485 rfl rfl ?_
  refine q_callH (As := [.ref (ad 0), .int (qI (z1)), .int (qI (z2)), .int (qI (z3)), .ref ou]) (rest := []) G hNs dL_law_486 cwh_114 (c_L_form l hl D cy M ad hH.1 σ hH.2.1 hW z1 z2 z3 rz1 rz2 rz3 ou hH.2.2.2.2.1 (fun _ => rg_8)) rfl rfl (Nat.le_of_ble_eq_true rfl) rfl rfl ⟨Nat.le_of_ble_eq_true rfl, Nat.le_of_ble_eq_true rfl⟩ ⟨by show _ ≤ 642456; omega, by show _ ≤ 7168736; omega⟩ (fun v9 M9 hq9 => ?_)
  obtain ⟨rfl, M1, hp9, hm9⟩ := hq9
  have h1 := LH_w hH hp9
  have h2 : LHf M9 ad mo qa qb qc qf qt ou σ (if e_8 σ z1 z2 z3 = 0 then σ else σ) ∧ (e_8 σ z1 z2 z3 = 0 → mL M9 ou 0 = a_8 σ z1 z2 z3) := by rw [hm9]; by_cases h9 : e_8 σ z1 z2 z3 = 0; (rw [show (if e_8 σ z1 z2 z3 = 0 then sL M1 ou 0 (a_8 σ z1 z2 z3) else M1) = sL M1 ou 0 (a_8 σ z1 z2 z3) from if_pos h9]; exact ⟨LH_o hW1 h1 0 _, fun _ => up2_s _ _ _ _⟩); (rw [show (if e_8 σ z1 z2 z3 = 0 then sL M1 ou 0 (a_8 σ z1 z2 z3) else M1) = M1 from if_neg h9]; exact ⟨h1, fun h8 => absurd h8 h9⟩)
  refine q_st (st2 := [.int (qI (e_8 σ z1 z2 z3))]) rfl ?_
  refine q_abs (fun N => LHf N ad mo qa qb qc qf qt ou σ (if e_8 σ z1 z2 z3 = 0 then σ else σ) ∧ (e_8 σ z1 z2 z3 = 0 → mL N ou 0 = a_8 σ z1 z2 z3)) h2 ?_
  intro N1 hN1
  obtain ⟨hH1, ha1⟩ := hN1
  have oM := hH1.2.2.1.1
  refine q_istore (lv' := [(5, .int (qI (e_8 σ z1 z2 z3))), (4, .int (qI (i))), (3, .ref ou), (2, .ref mo), (1, .ref (ad 0)), (0, .ref b)]) G dL_law_489 (by decide) rfl ?_
  refine q_aload_n G 3 2 dL_law_491 rfl rfl ?_
  refine q_aload_n G 5 0 dL_law_492 rfl rfl ?_
  refine q_iload G 1 dL_law_493 rfl ?_
  refine q_iconst G dL_law_495 ?_
  refine q_iadd G dL_law_496 ?_
  refine q_sld G hX hbl hbA dL_law_497 (by omega) (by omega) (by omega) ?_
  refine q_topI (z2 := z1) hz1.symm ?_
  refine q_aload_n G 5 0 dL_law_498 rfl rfl ?_
  refine q_iload G 1 dL_law_499 rfl ?_
  refine q_iconst G dL_law_501 ?_
  refine q_iadd G dL_law_502 ?_
  refine q_sld G hX hbl hbA dL_law_503 (by omega) (by omega) (by omega) ?_
  refine q_topI (z2 := z2) hz2.symm ?_
  refine q_aload_n G 5 0 dL_law_504 rfl rfl ?_
  refine q_iload G 1 dL_law_505 rfl ?_
  refine q_iconst G dL_law_507 ?_
  refine q_iadd G dL_law_508 ?_
  refine q_sld G hX hbl hbA dL_law_509 (by omega) (by omega) (by omega) ?_
  refine q_topI (z2 := z3) hz3.symm ?_
  refine q_callV (As := [.int (qI (z1)), .int (qI (z2)), .int (qI (z3))]) (rest := []) G dL_law_510 cw_L_117 (c_X5_form l D cy N1 mo qa qb qc qf qt hH1.2.2.1 σ hH1.2.2.2.1 hW z1 z2 z3 rz1 rz2 rz3) oM.1 oM.2 (by decide) rfl rfl rfl (Nat.le_of_ble_eq_true rfl) rfl rfl ⟨Nat.le_of_ble_eq_true rfl, Nat.le_of_ble_eq_true rfl⟩ ⟨by show _ ≤ 642456; omega, by show _ ≤ 7168736; omega⟩ (fun v9 M9 hq9 => ?_)
  obtain ⟨I9, L9, rfl, fr9, t9, r9, z9, rfl, hz9⟩ := hq9
  refine q_st (st2 := [.int (qI (z9))]) rfl ?_
  refine q_abs (fun N => LHf N ad mo qa qb qc qf qt ou (if e_8 σ z1 z2 z3 = 0 then σ else σ) (if e_8 σ z1 z2 z3 = 0 then σ else σ) ∧ mI N mo 0 = e_8 σ z1 z2 z3 ∧ mL N ou 0 = mL N1 ou 0) ⟨LH_r hW1 hH1 fr9 (show RMd (if e_8 σ z1 z2 z3 = 0 then σ else σ) I9 L9 mo qa qb qc qf qt by rw [ite_self]; exact r9), t9, congrFun (LH_ou hH1 fr9) 0⟩ ?_
  intro N2 hN2
  obtain ⟨hH2, t2, o2⟩ := hN2
  have oM2 := hH2.2.2.1.1
  have oU2 := hH2.2.2.2.2.1
  refine q_istore (lv' := [(6, .int (qI (z9))), (5, .int (qI (e_8 σ z1 z2 z3))), (4, .int (qI (i))), (3, .ref ou), (2, .ref mo), (1, .ref (ad 0)), (0, .ref b)]) G dL_law_513 (by decide) rfl ?_
  refine q_aload_n G 4 2 dL_law_515 rfl rfl ?_
  refine q_callV (As := []) (rest := []) G dL_law_516 cw_L_84 (c_X5_thrown l D cy N2 mo qa qb qc qf qt hH2.2.2.1) oM2.1 oM2.2 (by decide) rfl rfl rfl (Nat.le_of_ble_eq_true rfl) rfl rfl ⟨Nat.le_of_ble_eq_true rfl, Nat.le_of_ble_eq_true rfl⟩ ⟨by show _ ≤ 642456; omega, by show _ ≤ 7168736; omega⟩ (fun v9 M9 hq9 => ?_)
  obtain ⟨rfl, e9⟩ := hq9
  refine q_mem e9 ?_
  refine q_st (st2 := [.int (qI (mI N2 mo 0))]) rfl ?_
  refine q_iload G 1 dL_law_519 rfl ?_
  refine q_icmp_eq (tgt := 526) G dL_law_521 (by decide) (by omega) (by omega) (fun c1 => ?_) (fun c1 => ?_)
  · refine q_iload G 1 dL_law_526 rfl ?_
    refine q_if_ne (tgt := 543) G dL_law_528 (by decide) (by first | assumption | omega) (fun c2 => ?_) (fun c2 => ?_)
    · refine q_goto (tgt := 1060) G dL_law_543 (by decide) ?_
      refine q_lvs [2, 3, 4, 5, 6] rfl ?_
      exact Hk N2 (if e_8 σ z1 z2 z3 = 0 then σ else σ) _ _ hH2 hW1 (by omega) (by omega)
    · refine q_aload_n G 3 3 dL_law_531 rfl rfl ?_
      refine q_iconst G dL_law_532 ?_
      have hz0 : e_8 σ z1 z2 z3 = 0 := by omega
      have hzv : z9 = a_8 σ z1 z2 z3 := hz9 hz0
      have hov : mL N2 ou (Int.toNat 0) = a_8 σ z1 z2 z3 := o2.trans (ha1 hz0)
      have hvr := hva hz0
      refine q_laload G dL_law_533 oU2.1 oU2.2.1 (by first | assumption | omega) (show (0) < ((mN N2 ou : Nat) : Int) by rw [oU2.2.2]; omega) (show mN N2 ou < 2147483648 by rw [oU2.2.2]; decide) ?_
      refine q_iload G 0 dL_law_534 rfl ?_
      refine q_i2l G dL_law_536 (by omega) ?_
      refine q_lcmp_eq (tgt := 543) G dL_law_537 dL_law_538 (by decide) (by omega) (by omega) (fun c3 => ?_) (fun c3 => ?_)
      · refine q_goto (tgt := 1060) G dL_law_543 (by decide) ?_
        refine q_lvs [2, 3, 4, 5, 6] rfl ?_
        exact Hk N2 (if e_8 σ z1 z2 z3 = 0 then σ else σ) _ _ hH2 hW1 (by omega) (by omega)
      · exact absurd (hov.trans hzv.symm) c3
  · exact absurd t2 c1
set_option maxRecDepth 100000 in
set_option maxHeartbeats 4000000 in
theorem k_verify {p : Program} {l : Launch} {e : Env} {s : State} {m : MethodId} {args : Array Value} {below : List Frame} {meth : Method} {c : Code} {Q : State → Prop} {A : Nat → Prop} (hl : l.stackTraces = false) (D : va_G) (cy : Nat → ClassId) (G : qG p s m args meth c cL_law 8 RL D cy A) (hNs : qNs s) {b Ln : Nat} {xs : Nat → Int32} (hX : va_X b Ln xs s s.heap) (hbl : b < s.heap.size) (hbA : ¬ A b) (hLn : Ln ≤ 2048) (M : qM) (ad : Nat → Nat) (mo qa qb qc qf qt ou : Nat) (σ : qS) (hH : LHf M ad mo qa qb qc qf qt ou σ σ) (hW : WF σ) (i : Int) (hi : 0 ≤ i ∧ i + 4 ≤ Ln) (cs ss : Nat) (hcs : cs + 6 ≤ 642456) (hss : ss + 36 ≤ 7168736) (Hk : ∀ (M' : qM) (σ' : qS) (c' s' : Nat), LHf M' ad mo qa qb qc qf qt ou σ' σ' → WF σ' → c' ≤ cs + 6 → s' ≤ ss + 36 → qK p l e room_1 s m args below meth c Q 8 D cy A c' s' 1060 [(4, .int (qI (i))), (3, .ref ou), (2, .ref mo), (1, .ref (ad 0)), (0, .ref b)] [] M') : qK p l e room_1 s m args below meth c Q 8 D cy A (cs) (ss) 546 [(4, .int (qI (i))), (3, .ref ou), (2, .ref mo), (1, .ref (ad 0)), (0, .ref b)] [] (M) := by
  obtain ⟨z1, hz1⟩ : ∃ z, z = (xs (Int.toNat (i + 1))).toInt := ⟨_, rfl⟩
  have rz1 : r32 z1 := by rw [hz1]; exact i32_r _
  have hE : 0 ≤ e_9 σ z1 ∧ e_9 σ z1 ≤ 4 := by unfold e_9; omega
  have hW1 : WF (if e_9 σ z1 = 0 then σ else σ) := by rw [ite_self]; exact hW
  have hva : e_9 σ z1 = 0 → r32 (a_9 σ z1) := fun _ => by rcases bI_or (powT (unT (sD σ)) (geT (sD σ)) (sC σ (3 * z1 + 1).toNat) = sF σ (6 + 3 * z1).toNat ∧ hdT (sD σ) (sF σ (6 + 3 * z1).toNat) (sF σ (6 + 3 * z1 + 1).toNat) (sF σ (6 + 3 * z1 + 2).toNat) (sC σ (3 * z1).toNat) (sC σ (3 * z1 + 2).toNat)) with h9 | h9; (rw [show a_9 σ z1 = 1 from h9.1]; decide); (rw [show a_9 σ z1 = 0 from h9.1]; decide)
  have hb9 : a_9 σ z1 = 0 ∨ a_9 σ z1 = 1 := by rcases bI_or (powT (unT (sD σ)) (geT (sD σ)) (sC σ (3 * z1 + 1).toNat) = sF σ (6 + 3 * z1).toNat ∧ hdT (sD σ) (sF σ (6 + 3 * z1).toNat) (sF σ (6 + 3 * z1 + 1).toNat) (sF σ (6 + 3 * z1 + 2).toNat) (sC σ (3 * z1).toNat) (sC σ (3 * z1 + 2).toNat)) with h9 | h9; exact Or.inr h9.1; exact Or.inl h9.1
  refine q_aload_n G 3 1 dL_law_546 rfl rfl ?_
  refine q_aload_n G 4 0 dL_law_547 rfl rfl ?_
  refine q_iload G 0 dL_law_548 rfl ?_
  refine q_iconst G dL_law_550 ?_
  refine q_iadd G dL_law_551 ?_
  refine q_sld G hX hbl hbA dL_law_552 (by omega) (by omega) (by omega) ?_
  refine q_topI (z2 := z1) hz1.symm ?_
  refine q_aload_n G 1 3 dL_law_553 rfl rfl ?_
  refine q_callH (As := [.ref (ad 0), .int (qI (z1)), .ref ou]) (rest := []) G hNs dL_law_554 cwh_118 (c_L_verify l hl D cy M ad hH.1 σ hH.2.1 hW z1 rz1 ou hH.2.2.2.2.1) rfl rfl (Nat.le_of_ble_eq_true rfl) rfl rfl ⟨Nat.le_of_ble_eq_true rfl, Nat.le_of_ble_eq_true rfl⟩ ⟨by show _ ≤ 642456; omega, by show _ ≤ 7168736; omega⟩ (fun v9 M9 hq9 => ?_)
  obtain ⟨rfl, M1, hp9, hm9⟩ := hq9
  have h1 := LH_w hH hp9
  have h2 : LHf M9 ad mo qa qb qc qf qt ou σ (if e_9 σ z1 = 0 then σ else σ) ∧ (e_9 σ z1 = 0 → mL M9 ou 0 = a_9 σ z1) := by rw [hm9]; by_cases h9 : e_9 σ z1 = 0; (rw [show (if e_9 σ z1 = 0 then sL M1 ou 0 (a_9 σ z1) else M1) = sL M1 ou 0 (a_9 σ z1) from if_pos h9]; exact ⟨LH_o hW1 h1 0 _, fun _ => up2_s _ _ _ _⟩); (rw [show (if e_9 σ z1 = 0 then sL M1 ou 0 (a_9 σ z1) else M1) = M1 from if_neg h9]; exact ⟨h1, fun h8 => absurd h8 h9⟩)
  refine q_st (st2 := [.int (qI (e_9 σ z1))]) rfl ?_
  refine q_abs (fun N => LHf N ad mo qa qb qc qf qt ou σ (if e_9 σ z1 = 0 then σ else σ) ∧ (e_9 σ z1 = 0 → mL N ou 0 = a_9 σ z1)) h2 ?_
  intro N1 hN1
  obtain ⟨hH1, ha1⟩ := hN1
  have oM := hH1.2.2.1.1
  refine q_istore (lv' := [(5, .int (qI (e_9 σ z1))), (4, .int (qI (i))), (3, .ref ou), (2, .ref mo), (1, .ref (ad 0)), (0, .ref b)]) G dL_law_557 (by decide) rfl ?_
  refine q_aload_n G 3 2 dL_law_559 rfl rfl ?_
  refine q_aload_n G 5 0 dL_law_560 rfl rfl ?_
  refine q_iload G 1 dL_law_561 rfl ?_
  refine q_iconst G dL_law_563 ?_
  refine q_iadd G dL_law_564 ?_
  refine q_sld G hX hbl hbA dL_law_565 (by omega) (by omega) (by omega) ?_
  refine q_topI (z2 := z1) hz1.symm ?_
  refine q_callV (As := [.int (qI (z1))]) (rest := []) G dL_law_566 cw_L_120 (c_X5_verify l D cy N1 mo qa qb qc qf qt hH1.2.2.1 σ hH1.2.2.2.1 hW z1 rz1) oM.1 oM.2 (by decide) rfl rfl rfl (Nat.le_of_ble_eq_true rfl) rfl rfl ⟨Nat.le_of_ble_eq_true rfl, Nat.le_of_ble_eq_true rfl⟩ ⟨by show _ ≤ 642456; omega, by show _ ≤ 7168736; omega⟩ (fun v9 M9 hq9 => ?_)
  obtain ⟨I9, L9, rfl, fr9, t9, r9, z9, rfl, hz9⟩ := hq9
  refine q_st (st2 := [.int (qI (z9))]) rfl ?_
  refine q_abs (fun N => LHf N ad mo qa qb qc qf qt ou (if e_9 σ z1 = 0 then σ else σ) (if e_9 σ z1 = 0 then σ else σ) ∧ mI N mo 0 = e_9 σ z1 ∧ mL N ou 0 = mL N1 ou 0) ⟨LH_r hW1 hH1 fr9 (show RMd (if e_9 σ z1 = 0 then σ else σ) I9 L9 mo qa qb qc qf qt by rw [ite_self]; exact r9), t9, congrFun (LH_ou hH1 fr9) 0⟩ ?_
  intro N2 hN2
  obtain ⟨hH2, t2, o2⟩ := hN2
  have oM2 := hH2.2.2.1.1
  have oU2 := hH2.2.2.2.2.1
  refine q_istore (lv' := [(6, .int (qI (z9))), (5, .int (qI (e_9 σ z1))), (4, .int (qI (i))), (3, .ref ou), (2, .ref mo), (1, .ref (ad 0)), (0, .ref b)]) G dL_law_569 (by decide) rfl ?_
  refine q_aload_n G 4 2 dL_law_571 rfl rfl ?_
  refine q_callV (As := []) (rest := []) G dL_law_572 cw_L_84 (c_X5_thrown l D cy N2 mo qa qb qc qf qt hH2.2.2.1) oM2.1 oM2.2 (by decide) rfl rfl rfl (Nat.le_of_ble_eq_true rfl) rfl rfl ⟨Nat.le_of_ble_eq_true rfl, Nat.le_of_ble_eq_true rfl⟩ ⟨by show _ ≤ 642456; omega, by show _ ≤ 7168736; omega⟩ (fun v9 M9 hq9 => ?_)
  obtain ⟨rfl, e9⟩ := hq9
  refine q_mem e9 ?_
  refine q_st (st2 := [.int (qI (mI N2 mo 0))]) rfl ?_
  refine q_iload G 1 dL_law_575 rfl ?_
  refine q_icmp_eq (tgt := 582) G dL_law_577 (by decide) (by omega) (by omega) (fun c1 => ?_) (fun c1 => ?_)
  · refine q_iload G 1 dL_law_582 rfl ?_
    refine q_if_ne (tgt := 606) G dL_law_584 (by decide) (by first | assumption | omega) (fun c2 => ?_) (fun c2 => ?_)
    · refine q_goto (tgt := 1060) G dL_law_606 (by decide) ?_
      refine q_lvs [2, 3, 4, 5, 6] rfl ?_
      exact Hk N2 (if e_9 σ z1 = 0 then σ else σ) _ _ hH2 hW1 (by omega) (by omega)
    · refine q_aload_n G 3 3 dL_law_587 rfl rfl ?_
      refine q_iconst G dL_law_588 ?_
      have hz0 : e_9 σ z1 = 0 := by omega
      have hzv : z9 = a_9 σ z1 := hz9 hz0
      have hov : mL N2 ou (Int.toNat 0) = a_9 σ z1 := o2.trans (ha1 hz0)
      have hvr := hva hz0
      refine q_laload G dL_law_589 oU2.1 oU2.2.1 (by first | assumption | omega) (show (0) < ((mN N2 ou : Nat) : Int) by rw [oU2.2.2]; omega) (show mN N2 ou < 2147483648 by rw [oU2.2.2]; decide) ?_
      refine q_iload G 0 dL_law_590 rfl ?_
      refine q_if_eq (tgt := 599) G dL_law_592 (by decide) (by first | assumption | omega) (fun c3 => ?_) (fun c3 => ?_)
      · refine q_lconst (z := 0) G dL_law_599 (by decide +kernel) ?_
        refine q_lcmp_eq (tgt := 606) G dL_law_600 dL_law_601 (by decide) (by omega) (by omega) (fun c4 => ?_) (fun c4 => ?_)
        · refine q_goto (tgt := 1060) G dL_law_606 (by decide) ?_
          refine q_lvs [2, 3, 4, 5, 6] rfl ?_
          exact Hk N2 (if e_9 σ z1 = 0 then σ else σ) _ _ hH2 hW1 (by omega) (by omega)
        · exact (c4 (by omega)).elim
      · refine q_lconst (z := 1) G dL_law_595 (by decide +kernel) ?_
        refine q_goto (tgt := 600) G dL_law_596 (by decide) ?_
        refine q_lcmp_eq (tgt := 606) G dL_law_600 dL_law_601 (by decide) (by omega) (by omega) (fun c5 => ?_) (fun c5 => ?_)
        · refine q_goto (tgt := 1060) G dL_law_606 (by decide) ?_
          refine q_lvs [2, 3, 4, 5, 6] rfl ?_
          exact Hk N2 (if e_9 σ z1 = 0 then σ else σ) _ _ hH2 hW1 (by omega) (by omega)
        · exact (c5 (by omega)).elim
  · exact absurd t2 c1
set_option maxRecDepth 100000 in
set_option maxHeartbeats 4000000 in
theorem k_put {p : Program} {l : Launch} {e : Env} {s : State} {m : MethodId} {args : Array Value} {below : List Frame} {meth : Method} {c : Code} {Q : State → Prop} {A : Nat → Prop} (hl : l.stackTraces = false) (D : va_G) (cy : Nat → ClassId) (G : qG p s m args meth c cL_law 8 RL D cy A) (hNs : qNs s) {b Ln : Nat} {xs : Nat → Int32} (hX : va_X b Ln xs s s.heap) (hbl : b < s.heap.size) (hbA : ¬ A b) (hLn : Ln ≤ 2048) (M : qM) (ad : Nat → Nat) (mo qa qb qc qf qt ou : Nat) (σ : qS) (hH : LHf M ad mo qa qb qc qf qt ou σ σ) (hW : WF σ) (i : Int) (hi : 0 ≤ i ∧ i + 4 ≤ Ln) (cs ss : Nat) (hcs : cs + 6 ≤ 642456) (hss : ss + 36 ≤ 7168736) (Hk : ∀ (M' : qM) (σ' : qS) (c' s' : Nat), LHf M' ad mo qa qb qc qf qt ou σ' σ' → WF σ' → c' ≤ cs + 6 → s' ≤ ss + 36 → qK p l e room_1 s m args below meth c Q 8 D cy A c' s' 1060 [(4, .int (qI (i))), (3, .ref ou), (2, .ref mo), (1, .ref (ad 0)), (0, .ref b)] [] M') : qK p l e room_1 s m args below meth c Q 8 D cy A (cs) (ss) 609 [(4, .int (qI (i))), (3, .ref ou), (2, .ref mo), (1, .ref (ad 0)), (0, .ref b)] [] (M) := by
  obtain ⟨z1, hz1⟩ : ∃ z, z = (xs (Int.toNat (i + 1))).toInt := ⟨_, rfl⟩
  obtain ⟨z2, hz2⟩ : ∃ z, z = (xs (Int.toNat (i + 2))).toInt := ⟨_, rfl⟩
  obtain ⟨z3, hz3⟩ : ∃ z, z = (xs (Int.toNat (i + 3))).toInt := ⟨_, rfl⟩
  have rz1 : r32 z1 := by rw [hz1]; exact i32_r _
  have rz2 : r32 z2 := by rw [hz2]; exact i32_r _
  have rz3 : r32 z3 := by rw [hz3]; exact i32_r _
  have hE : 0 ≤ e_10 σ z1 z2 z3 ∧ e_10 σ z1 z2 z3 ≤ 4 := by unfold e_10; omega
  have hW1 : WF (if e_10 σ z1 z2 z3 = 0 then n_10 σ z1 z2 z3 else σ) := by by_cases h9 : e_10 σ z1 z2 z3 = 0; (rw [if_pos h9]; exact WF_n10 hW h9); (rw [if_neg h9]; exact hW)
  refine q_aload_n G 3 1 dL_law_609 rfl rfl ?_
  refine q_aload_n G 4 0 dL_law_610 rfl rfl ?_
  refine q_iload G 0 dL_law_611 rfl ?_
  refine q_iconst G dL_law_613 ?_
  refine q_iadd G dL_law_614 ?_
  refine q_sld G hX hbl hbA dL_law_615 (by omega) (by omega) (by omega) ?_
  refine q_topI (z2 := z1) hz1.symm ?_
  refine q_aload_n G 4 0 dL_law_616 rfl rfl ?_
  refine q_iload G 0 dL_law_617 rfl ?_
  refine q_iconst G dL_law_619 ?_
  refine q_iadd G dL_law_620 ?_
  refine q_sld G hX hbl hbA dL_law_621 (by omega) (by omega) (by omega) ?_
  refine q_topI (z2 := z2) hz2.symm ?_
  refine q_aload_n G 4 0 dL_law_622 rfl rfl ?_
  refine q_iload G 0 dL_law_623 rfl ?_
  refine q_iconst G dL_law_625 ?_
  refine q_iadd G dL_law_626 ?_
  refine q_sld G hX hbl hbA dL_law_627 (by omega) (by omega) (by omega) ?_
  refine q_topI (z2 := z3) hz3.symm ?_
  refine q_callH (As := [.ref (ad 0), .int (qI (z1)), .int (qI (z2)), .int (qI (z3))]) (rest := []) G hNs dL_law_628 cwh_121 (c_L_put l hl D cy M ad hH.1 σ hH.2.1 hW z1 z2 z3 rz1 rz2 rz3) rfl rfl (Nat.le_of_ble_eq_true rfl) rfl rfl ⟨Nat.le_of_ble_eq_true rfl, Nat.le_of_ble_eq_true rfl⟩ ⟨by show _ ≤ 642456; omega, by show _ ≤ 7168736; omega⟩ (fun v9 M9 hq9 => ?_)
  obtain ⟨rfl, hp9⟩ := hq9
  have h2 := LH_w hH hp9
  refine q_st (st2 := [.int (qI (e_10 σ z1 z2 z3))]) rfl ?_
  refine q_abs (fun N => LHf N ad mo qa qb qc qf qt ou σ (if e_10 σ z1 z2 z3 = 0 then n_10 σ z1 z2 z3 else σ)) h2 ?_
  intro N1 hN1
  have hH1 := hN1
  have oM := hH1.2.2.1.1
  refine q_istore (lv' := [(5, .int (qI (e_10 σ z1 z2 z3))), (4, .int (qI (i))), (3, .ref ou), (2, .ref mo), (1, .ref (ad 0)), (0, .ref b)]) G dL_law_631 (by decide) rfl ?_
  refine q_aload_n G 3 2 dL_law_633 rfl rfl ?_
  refine q_aload_n G 5 0 dL_law_634 rfl rfl ?_
  refine q_iload G 1 dL_law_635 rfl ?_
  refine q_iconst G dL_law_637 ?_
  refine q_iadd G dL_law_638 ?_
  refine q_sld G hX hbl hbA dL_law_639 (by omega) (by omega) (by omega) ?_
  refine q_topI (z2 := z1) hz1.symm ?_
  refine q_aload_n G 5 0 dL_law_640 rfl rfl ?_
  refine q_iload G 1 dL_law_641 rfl ?_
  refine q_iconst G dL_law_643 ?_
  refine q_iadd G dL_law_644 ?_
  refine q_sld G hX hbl hbA dL_law_645 (by omega) (by omega) (by omega) ?_
  refine q_topI (z2 := z2) hz2.symm ?_
  refine q_aload_n G 5 0 dL_law_646 rfl rfl ?_
  refine q_iload G 1 dL_law_647 rfl ?_
  refine q_iconst G dL_law_649 ?_
  refine q_iadd G dL_law_650 ?_
  refine q_sld G hX hbl hbA dL_law_651 (by omega) (by omega) (by omega) ?_
  refine q_topI (z2 := z3) hz3.symm ?_
  refine q_callV (As := [.int (qI (z1)), .int (qI (z2)), .int (qI (z3))]) (rest := []) G dL_law_652 cw_L_124 (c_X5_put l D cy N1 mo qa qb qc qf qt hH1.2.2.1 σ hH1.2.2.2.1 hW z1 z2 z3 rz1 rz2 rz3) oM.1 oM.2 (by decide) rfl rfl rfl (Nat.le_of_ble_eq_true rfl) rfl rfl ⟨Nat.le_of_ble_eq_true rfl, Nat.le_of_ble_eq_true rfl⟩ ⟨by show _ ≤ 642456; omega, by show _ ≤ 7168736; omega⟩ (fun v9 M9 hq9 => ?_)
  obtain ⟨I9, L9, rfl, fr9, t9, r9, rfl⟩ := hq9
  refine q_st (st2 := []) rfl ?_
  refine q_abs (fun N => LHf N ad mo qa qb qc qf qt ou (if e_10 σ z1 z2 z3 = 0 then n_10 σ z1 z2 z3 else σ) (if e_10 σ z1 z2 z3 = 0 then n_10 σ z1 z2 z3 else σ) ∧ mI N mo 0 = e_10 σ z1 z2 z3) ⟨LH_r hW1 hH1 fr9 r9, t9⟩ ?_
  intro N2 hN2
  obtain ⟨hH2, t2⟩ := hN2
  have oM2 := hH2.2.2.1.1
  have oU2 := hH2.2.2.2.2.1
  refine q_aload_n G 3 2 dL_law_655 rfl rfl ?_
  refine q_callV (As := []) (rest := []) G dL_law_656 cw_L_84 (c_X5_thrown l D cy N2 mo qa qb qc qf qt hH2.2.2.1) oM2.1 oM2.2 (by decide) rfl rfl rfl (Nat.le_of_ble_eq_true rfl) rfl rfl ⟨Nat.le_of_ble_eq_true rfl, Nat.le_of_ble_eq_true rfl⟩ ⟨by show _ ≤ 642456; omega, by show _ ≤ 7168736; omega⟩ (fun v9 M9 hq9 => ?_)
  obtain ⟨rfl, e9⟩ := hq9
  refine q_mem e9 ?_
  refine q_st (st2 := [.int (qI (mI N2 mo 0))]) rfl ?_
  refine q_iload G 0 dL_law_659 rfl ?_
  refine q_icmp_eq (tgt := 666) G dL_law_661 (by decide) (by omega) (by omega) (fun c1 => ?_) (fun c1 => ?_)
  · refine q_goto (tgt := 1060) G dL_law_666 (by decide) ?_
    refine q_lvs [1, 2, 3, 4, 5] rfl ?_
    exact Hk N2 (if e_10 σ z1 z2 z3 = 0 then n_10 σ z1 z2 z3 else σ) _ _ hH2 hW1 (by omega) (by omega)
  · exact absurd t2 c1
set_option maxRecDepth 100000 in
set_option maxHeartbeats 4000000 in
theorem k_buffer {p : Program} {l : Launch} {e : Env} {s : State} {m : MethodId} {args : Array Value} {below : List Frame} {meth : Method} {c : Code} {Q : State → Prop} {A : Nat → Prop} (hl : l.stackTraces = false) (D : va_G) (cy : Nat → ClassId) (G : qG p s m args meth c cL_law 8 RL D cy A) (hNs : qNs s) {b Ln : Nat} {xs : Nat → Int32} (hX : va_X b Ln xs s s.heap) (hbl : b < s.heap.size) (hbA : ¬ A b) (hLn : Ln ≤ 2048) (M : qM) (ad : Nat → Nat) (mo qa qb qc qf qt ou : Nat) (σ : qS) (hH : LHf M ad mo qa qb qc qf qt ou σ σ) (hW : WF σ) (i : Int) (hi : 0 ≤ i ∧ i + 4 ≤ Ln) (cs ss : Nat) (hcs : cs + 6 ≤ 642456) (hss : ss + 36 ≤ 7168736) (Hk : ∀ (M' : qM) (σ' : qS) (c' s' : Nat), LHf M' ad mo qa qb qc qf qt ou σ' σ' → WF σ' → c' ≤ cs + 6 → s' ≤ ss + 36 → qK p l e room_1 s m args below meth c Q 8 D cy A c' s' 1060 [(4, .int (qI (i))), (3, .ref ou), (2, .ref mo), (1, .ref (ad 0)), (0, .ref b)] [] M') : qK p l e room_1 s m args below meth c Q 8 D cy A (cs) (ss) 669 [(4, .int (qI (i))), (3, .ref ou), (2, .ref mo), (1, .ref (ad 0)), (0, .ref b)] [] (M) := by
  obtain ⟨z1, hz1⟩ : ∃ z, z = (xs (Int.toNat (i + 1))).toInt := ⟨_, rfl⟩
  obtain ⟨z2, hz2⟩ : ∃ z, z = (xs (Int.toNat (i + 2))).toInt := ⟨_, rfl⟩
  have rz1 : r32 z1 := by rw [hz1]; exact i32_r _
  have rz2 : r32 z2 := by rw [hz2]; exact i32_r _
  have hE : 0 ≤ e_11 σ z1 z2 ∧ e_11 σ z1 z2 ≤ 4 := by unfold e_11; omega
  have hW1 : WF (if e_11 σ z1 z2 = 0 then σ else σ) := by rw [ite_self]; exact hW
  have hva : e_11 σ z1 z2 = 0 → r64 (a_11 σ z1 z2) := rg_11 hW
  refine q_aload_n G 3 1 dL_law_669 rfl rfl ?_
  refine q_aload_n G 4 0 dL_law_670 rfl rfl ?_
  refine q_iload G 0 dL_law_671 rfl ?_
  refine q_iconst G dL_law_673 ?_
  refine q_iadd G dL_law_674 ?_
  refine q_sld G hX hbl hbA dL_law_675 (by omega) (by omega) (by omega) ?_
  refine q_topI (z2 := z1) hz1.symm ?_
  refine q_aload_n G 4 0 dL_law_676 rfl rfl ?_
  refine q_iload G 0 dL_law_677 rfl ?_
  refine q_iconst G dL_law_679 ?_
  refine q_iadd G dL_law_680 ?_
  refine q_sld G hX hbl hbA dL_law_681 (by omega) (by omega) (by omega) ?_
  refine q_topI (z2 := z2) hz2.symm ?_
  refine q_aload_n G 1 3 dL_law_682 rfl rfl ?_
  refine q_callH (As := [.ref (ad 0), .int (qI (z1)), .int (qI (z2)), .ref ou]) (rest := []) G hNs dL_law_683 cwh_125 (c_L_buffer l hl D cy M ad hH.1 σ hH.2.1 hW z1 z2 rz1 rz2 ou hH.2.2.2.2.1) rfl rfl (Nat.le_of_ble_eq_true rfl) rfl rfl ⟨Nat.le_of_ble_eq_true rfl, Nat.le_of_ble_eq_true rfl⟩ ⟨by show _ ≤ 642456; omega, by show _ ≤ 7168736; omega⟩ (fun v9 M9 hq9 => ?_)
  obtain ⟨rfl, M1, hp9, hm9⟩ := hq9
  have h1 := LH_w hH hp9
  have h2 : LHf M9 ad mo qa qb qc qf qt ou σ (if e_11 σ z1 z2 = 0 then σ else σ) ∧ (e_11 σ z1 z2 = 0 → mL M9 ou 0 = a_11 σ z1 z2) := by rw [hm9]; by_cases h9 : e_11 σ z1 z2 = 0; (rw [show (if e_11 σ z1 z2 = 0 then sL M1 ou 0 (a_11 σ z1 z2) else M1) = sL M1 ou 0 (a_11 σ z1 z2) from if_pos h9]; exact ⟨LH_o hW1 h1 0 _, fun _ => up2_s _ _ _ _⟩); (rw [show (if e_11 σ z1 z2 = 0 then sL M1 ou 0 (a_11 σ z1 z2) else M1) = M1 from if_neg h9]; exact ⟨h1, fun h8 => absurd h8 h9⟩)
  refine q_st (st2 := [.int (qI (e_11 σ z1 z2))]) rfl ?_
  refine q_abs (fun N => LHf N ad mo qa qb qc qf qt ou σ (if e_11 σ z1 z2 = 0 then σ else σ) ∧ (e_11 σ z1 z2 = 0 → mL N ou 0 = a_11 σ z1 z2)) h2 ?_
  intro N1 hN1
  obtain ⟨hH1, ha1⟩ := hN1
  have oM := hH1.2.2.1.1
  refine q_istore (lv' := [(5, .int (qI (e_11 σ z1 z2))), (4, .int (qI (i))), (3, .ref ou), (2, .ref mo), (1, .ref (ad 0)), (0, .ref b)]) G dL_law_686 (by decide) rfl ?_
  refine q_aload_n G 3 2 dL_law_688 rfl rfl ?_
  refine q_aload_n G 5 0 dL_law_689 rfl rfl ?_
  refine q_iload G 1 dL_law_690 rfl ?_
  refine q_iconst G dL_law_692 ?_
  refine q_iadd G dL_law_693 ?_
  refine q_sld G hX hbl hbA dL_law_694 (by omega) (by omega) (by omega) ?_
  refine q_topI (z2 := z1) hz1.symm ?_
  refine q_aload_n G 5 0 dL_law_695 rfl rfl ?_
  refine q_iload G 1 dL_law_696 rfl ?_
  refine q_iconst G dL_law_698 ?_
  refine q_iadd G dL_law_699 ?_
  refine q_sld G hX hbl hbA dL_law_700 (by omega) (by omega) (by omega) ?_
  refine q_topI (z2 := z2) hz2.symm ?_
  refine q_callV (As := [.int (qI (z1)), .int (qI (z2))]) (rest := []) G dL_law_701 cw_L_127 (c_X5_buffer l D cy N1 mo qa qb qc qf qt hH1.2.2.1 σ hH1.2.2.2.1 hW z1 z2 rz1 rz2) oM.1 oM.2 (by decide) rfl rfl rfl (Nat.le_of_ble_eq_true rfl) rfl rfl ⟨Nat.le_of_ble_eq_true rfl, Nat.le_of_ble_eq_true rfl⟩ ⟨by show _ ≤ 642456; omega, by show _ ≤ 7168736; omega⟩ (fun v9 M9 hq9 => ?_)
  obtain ⟨I9, L9, rfl, fr9, t9, r9, z9, rfl, hz9⟩ := hq9
  refine q_st (st2 := [.long (qL (z9))]) rfl ?_
  refine q_abs (fun N => LHf N ad mo qa qb qc qf qt ou (if e_11 σ z1 z2 = 0 then σ else σ) (if e_11 σ z1 z2 = 0 then σ else σ) ∧ mI N mo 0 = e_11 σ z1 z2 ∧ mL N ou 0 = mL N1 ou 0) ⟨LH_r hW1 hH1 fr9 (show RMd (if e_11 σ z1 z2 = 0 then σ else σ) I9 L9 mo qa qb qc qf qt by rw [ite_self]; exact r9), t9, congrFun (LH_ou hH1 fr9) 0⟩ ?_
  intro N2 hN2
  obtain ⟨hH2, t2, o2⟩ := hN2
  have oM2 := hH2.2.2.1.1
  have oU2 := hH2.2.2.2.2.1
  refine q_lstore (lv' := [(6, .long (qL (z9))), (5, .int (qI (e_11 σ z1 z2))), (4, .int (qI (i))), (3, .ref ou), (2, .ref mo), (1, .ref (ad 0)), (0, .ref b)]) G dL_law_704 (by decide) rfl ?_
  refine q_aload_n G 4 2 dL_law_706 rfl rfl ?_
  refine q_callV (As := []) (rest := []) G dL_law_707 cw_L_84 (c_X5_thrown l D cy N2 mo qa qb qc qf qt hH2.2.2.1) oM2.1 oM2.2 (by decide) rfl rfl rfl (Nat.le_of_ble_eq_true rfl) rfl rfl ⟨Nat.le_of_ble_eq_true rfl, Nat.le_of_ble_eq_true rfl⟩ ⟨by show _ ≤ 642456; omega, by show _ ≤ 7168736; omega⟩ (fun v9 M9 hq9 => ?_)
  obtain ⟨rfl, e9⟩ := hq9
  refine q_mem e9 ?_
  refine q_st (st2 := [.int (qI (mI N2 mo 0))]) rfl ?_
  refine q_iload G 1 dL_law_710 rfl ?_
  refine q_icmp_eq (tgt := 717) G dL_law_712 (by decide) (by omega) (by omega) (fun c1 => ?_) (fun c1 => ?_)
  · refine q_iload G 1 dL_law_717 rfl ?_
    refine q_if_ne (tgt := 733) G dL_law_719 (by decide) (by first | assumption | omega) (fun c2 => ?_) (fun c2 => ?_)
    · refine q_goto (tgt := 1060) G dL_law_733 (by decide) ?_
      refine q_lvs [2, 3, 4, 5, 6] rfl ?_
      exact Hk N2 (if e_11 σ z1 z2 = 0 then σ else σ) _ _ hH2 hW1 (by omega) (by omega)
    · refine q_aload_n G 3 3 dL_law_722 rfl rfl ?_
      refine q_iconst G dL_law_723 ?_
      have hz0 : e_11 σ z1 z2 = 0 := by omega
      have hzv : z9 = a_11 σ z1 z2 := hz9 hz0
      have hov : mL N2 ou (Int.toNat 0) = a_11 σ z1 z2 := o2.trans (ha1 hz0)
      have hvr := hva hz0
      refine q_laload G dL_law_724 oU2.1 oU2.2.1 (by first | assumption | omega) (show (0) < ((mN N2 ou : Nat) : Int) by rw [oU2.2.2]; omega) (show mN N2 ou < 2147483648 by rw [oU2.2.2]; decide) ?_
      refine q_lload G 0 dL_law_725 rfl ?_
      refine q_lcmp_eq (tgt := 733) G dL_law_727 dL_law_728 (by decide) (by omega) (by omega) (fun c3 => ?_) (fun c3 => ?_)
      · refine q_goto (tgt := 1060) G dL_law_733 (by decide) ?_
        refine q_lvs [2, 3, 4, 5, 6] rfl ?_
        exact Hk N2 (if e_11 σ z1 z2 = 0 then σ else σ) _ _ hH2 hW1 (by omega) (by omega)
      · exact absurd (hov.trans hzv.symm) c3
  · exact absurd t2 c1
set_option maxRecDepth 100000 in
set_option maxHeartbeats 4000000 in
theorem k_reduce {p : Program} {l : Launch} {e : Env} {s : State} {m : MethodId} {args : Array Value} {below : List Frame} {meth : Method} {c : Code} {Q : State → Prop} {A : Nat → Prop} (hl : l.stackTraces = false) (D : va_G) (cy : Nat → ClassId) (G : qG p s m args meth c cL_law 8 RL D cy A) (hNs : qNs s) {b Ln : Nat} {xs : Nat → Int32} (hX : va_X b Ln xs s s.heap) (hbl : b < s.heap.size) (hbA : ¬ A b) (hLn : Ln ≤ 2048) (M : qM) (ad : Nat → Nat) (mo qa qb qc qf qt ou : Nat) (σ : qS) (hH : LHf M ad mo qa qb qc qf qt ou σ σ) (hW : WF σ) (i : Int) (hi : 0 ≤ i ∧ i + 4 ≤ Ln) (cs ss : Nat) (hcs : cs + 6 ≤ 642456) (hss : ss + 36 ≤ 7168736) (Hk : ∀ (M' : qM) (σ' : qS) (c' s' : Nat), LHf M' ad mo qa qb qc qf qt ou σ' σ' → WF σ' → c' ≤ cs + 6 → s' ≤ ss + 36 → qK p l e room_1 s m args below meth c Q 8 D cy A c' s' 1060 [(4, .int (qI (i))), (3, .ref ou), (2, .ref mo), (1, .ref (ad 0)), (0, .ref b)] [] M') : qK p l e room_1 s m args below meth c Q 8 D cy A (cs) (ss) 736 [(4, .int (qI (i))), (3, .ref ou), (2, .ref mo), (1, .ref (ad 0)), (0, .ref b)] [] (M) := by
  obtain ⟨z1, hz1⟩ : ∃ z, z = (xs (Int.toNat (i + 1))).toInt := ⟨_, rfl⟩
  obtain ⟨z2, hz2⟩ : ∃ z, z = (xs (Int.toNat (i + 2))).toInt := ⟨_, rfl⟩
  have rz1 : r32 z1 := by rw [hz1]; exact i32_r _
  have rz2 : r32 z2 := by rw [hz2]; exact i32_r _
  have hE : 0 ≤ e_11 σ z1 z2 ∧ e_11 σ z1 z2 ≤ 4 := by unfold e_11; omega
  have hW1 : WF (if e_11 σ z1 z2 = 0 then n_12 σ z1 z2 else σ) := by by_cases h9 : e_11 σ z1 z2 = 0; (rw [if_pos h9]; exact WF_n12 hW h9); (rw [if_neg h9]; exact hW)
  refine q_aload_n G 3 1 dL_law_736 rfl rfl ?_
  refine q_aload_n G 4 0 dL_law_737 rfl rfl ?_
  refine q_iload G 0 dL_law_738 rfl ?_
  refine q_iconst G dL_law_740 ?_
  refine q_iadd G dL_law_741 ?_
  refine q_sld G hX hbl hbA dL_law_742 (by omega) (by omega) (by omega) ?_
  refine q_topI (z2 := z1) hz1.symm ?_
  refine q_aload_n G 4 0 dL_law_743 rfl rfl ?_
  refine q_iload G 0 dL_law_744 rfl ?_
  refine q_iconst G dL_law_746 ?_
  refine q_iadd G dL_law_747 ?_
  refine q_sld G hX hbl hbA dL_law_748 (by omega) (by omega) (by omega) ?_
  refine q_topI (z2 := z2) hz2.symm ?_
  refine q_callH (As := [.ref (ad 0), .int (qI (z1)), .int (qI (z2))]) (rest := []) G hNs dL_law_749 cwh_128 (c_L_reduce l hl D cy M ad hH.1 σ hH.2.1 hW z1 z2 rz1 rz2) rfl rfl (Nat.le_of_ble_eq_true rfl) rfl rfl ⟨Nat.le_of_ble_eq_true rfl, Nat.le_of_ble_eq_true rfl⟩ ⟨by show _ ≤ 642456; omega, by show _ ≤ 7168736; omega⟩ (fun v9 M9 hq9 => ?_)
  obtain ⟨rfl, hp9⟩ := hq9
  have h2 := LH_w hH hp9
  refine q_st (st2 := [.int (qI (e_11 σ z1 z2))]) rfl ?_
  refine q_abs (fun N => LHf N ad mo qa qb qc qf qt ou σ (if e_11 σ z1 z2 = 0 then n_12 σ z1 z2 else σ)) h2 ?_
  intro N1 hN1
  have hH1 := hN1
  have oM := hH1.2.2.1.1
  refine q_istore (lv' := [(5, .int (qI (e_11 σ z1 z2))), (4, .int (qI (i))), (3, .ref ou), (2, .ref mo), (1, .ref (ad 0)), (0, .ref b)]) G dL_law_752 (by decide) rfl ?_
  refine q_aload_n G 3 2 dL_law_754 rfl rfl ?_
  refine q_aload_n G 5 0 dL_law_755 rfl rfl ?_
  refine q_iload G 1 dL_law_756 rfl ?_
  refine q_iconst G dL_law_758 ?_
  refine q_iadd G dL_law_759 ?_
  refine q_sld G hX hbl hbA dL_law_760 (by omega) (by omega) (by omega) ?_
  refine q_topI (z2 := z1) hz1.symm ?_
  refine q_aload_n G 5 0 dL_law_761 rfl rfl ?_
  refine q_iload G 1 dL_law_762 rfl ?_
  refine q_iconst G dL_law_764 ?_
  refine q_iadd G dL_law_765 ?_
  refine q_sld G hX hbl hbA dL_law_766 (by omega) (by omega) (by omega) ?_
  refine q_topI (z2 := z2) hz2.symm ?_
  refine q_callV (As := [.int (qI (z1)), .int (qI (z2))]) (rest := []) G dL_law_767 cw_L_131 (c_X5_reduce l D cy N1 mo qa qb qc qf qt hH1.2.2.1 σ hH1.2.2.2.1 hW z1 z2 rz1 rz2) oM.1 oM.2 (by decide) rfl rfl rfl (Nat.le_of_ble_eq_true rfl) rfl rfl ⟨Nat.le_of_ble_eq_true rfl, Nat.le_of_ble_eq_true rfl⟩ ⟨by show _ ≤ 642456; omega, by show _ ≤ 7168736; omega⟩ (fun v9 M9 hq9 => ?_)
  obtain ⟨I9, L9, rfl, fr9, t9, r9, rfl⟩ := hq9
  refine q_st (st2 := []) rfl ?_
  refine q_abs (fun N => LHf N ad mo qa qb qc qf qt ou (if e_11 σ z1 z2 = 0 then n_12 σ z1 z2 else σ) (if e_11 σ z1 z2 = 0 then n_12 σ z1 z2 else σ) ∧ mI N mo 0 = e_11 σ z1 z2) ⟨LH_r hW1 hH1 fr9 r9, t9⟩ ?_
  intro N2 hN2
  obtain ⟨hH2, t2⟩ := hN2
  have oM2 := hH2.2.2.1.1
  have oU2 := hH2.2.2.2.2.1
  refine q_aload_n G 3 2 dL_law_770 rfl rfl ?_
  refine q_callV (As := []) (rest := []) G dL_law_771 cw_L_84 (c_X5_thrown l D cy N2 mo qa qb qc qf qt hH2.2.2.1) oM2.1 oM2.2 (by decide) rfl rfl rfl (Nat.le_of_ble_eq_true rfl) rfl rfl ⟨Nat.le_of_ble_eq_true rfl, Nat.le_of_ble_eq_true rfl⟩ ⟨by show _ ≤ 642456; omega, by show _ ≤ 7168736; omega⟩ (fun v9 M9 hq9 => ?_)
  obtain ⟨rfl, e9⟩ := hq9
  refine q_mem e9 ?_
  refine q_st (st2 := [.int (qI (mI N2 mo 0))]) rfl ?_
  refine q_iload G 0 dL_law_774 rfl ?_
  refine q_icmp_eq (tgt := 781) G dL_law_776 (by decide) (by omega) (by omega) (fun c1 => ?_) (fun c1 => ?_)
  · refine q_goto (tgt := 1060) G dL_law_781 (by decide) ?_
    refine q_lvs [1, 2, 3, 4, 5] rfl ?_
    exact Hk N2 (if e_11 σ z1 z2 = 0 then n_12 σ z1 z2 else σ) _ _ hH2 hW1 (by omega) (by omega)
  · exact absurd t2 c1
set_option maxRecDepth 100000 in
set_option maxHeartbeats 4000000 in
theorem k_multiply {p : Program} {l : Launch} {e : Env} {s : State} {m : MethodId} {args : Array Value} {below : List Frame} {meth : Method} {c : Code} {Q : State → Prop} {A : Nat → Prop} (hl : l.stackTraces = false) (D : va_G) (cy : Nat → ClassId) (G : qG p s m args meth c cL_law 8 RL D cy A) (hNs : qNs s) {b Ln : Nat} {xs : Nat → Int32} (hX : va_X b Ln xs s s.heap) (hbl : b < s.heap.size) (hbA : ¬ A b) (hLn : Ln ≤ 2048) (M : qM) (ad : Nat → Nat) (mo qa qb qc qf qt ou : Nat) (σ : qS) (hH : LHf M ad mo qa qb qc qf qt ou σ σ) (hW : WF σ) (i : Int) (hi : 0 ≤ i ∧ i + 4 ≤ Ln) (cs ss : Nat) (hcs : cs + 6 ≤ 642456) (hss : ss + 36 ≤ 7168736) (Hk : ∀ (M' : qM) (σ' : qS) (c' s' : Nat), LHf M' ad mo qa qb qc qf qt ou σ' σ' → WF σ' → c' ≤ cs + 6 → s' ≤ ss + 36 → qK p l e room_1 s m args below meth c Q 8 D cy A c' s' 1060 [(4, .int (qI (i))), (3, .ref ou), (2, .ref mo), (1, .ref (ad 0)), (0, .ref b)] [] M') : qK p l e room_1 s m args below meth c Q 8 D cy A (cs) (ss) 784 [(4, .int (qI (i))), (3, .ref ou), (2, .ref mo), (1, .ref (ad 0)), (0, .ref b)] [] (M) := by
  obtain ⟨z1, hz1⟩ : ∃ z, z = (xs (Int.toNat (i + 1))).toInt := ⟨_, rfl⟩
  obtain ⟨z2, hz2⟩ : ∃ z, z = (xs (Int.toNat (i + 2))).toInt := ⟨_, rfl⟩
  obtain ⟨z3, hz3⟩ : ∃ z, z = (xs (Int.toNat (i + 3))).toInt := ⟨_, rfl⟩
  have rz1 : r32 z1 := by rw [hz1]; exact i32_r _
  have rz2 : r32 z2 := by rw [hz2]; exact i32_r _
  have rz3 : r32 z3 := by rw [hz3]; exact i32_r _
  have hE : 0 ≤ e_13 σ z1 z2 z3 ∧ e_13 σ z1 z2 z3 ≤ 4 := by unfold e_13; omega
  have hW1 : WF (if e_13 σ z1 z2 z3 = 0 then n_13 σ z1 z2 z3 else σ) := by by_cases h9 : e_13 σ z1 z2 z3 = 0; (rw [if_pos h9]; exact WF_n13 hW h9); (rw [if_neg h9]; exact hW)
  refine q_aload_n G 3 1 dL_law_784 rfl rfl ?_
  refine q_aload_n G 4 0 dL_law_785 rfl rfl ?_
  refine q_iload G 0 dL_law_786 rfl ?_
  refine q_iconst G dL_law_788 ?_
  refine q_iadd G dL_law_789 ?_
  refine q_sld G hX hbl hbA dL_law_790 (by omega) (by omega) (by omega) ?_
  refine q_topI (z2 := z1) hz1.symm ?_
  refine q_aload_n G 4 0 dL_law_791 rfl rfl ?_
  refine q_iload G 0 dL_law_792 rfl ?_
  refine q_iconst G dL_law_794 ?_
  refine q_iadd G dL_law_795 ?_
  refine q_sld G hX hbl hbA dL_law_796 (by omega) (by omega) (by omega) ?_
  refine q_topI (z2 := z2) hz2.symm ?_
  refine q_aload_n G 4 0 dL_law_797 rfl rfl ?_
  refine q_iload G 0 dL_law_798 rfl ?_
  refine q_iconst G dL_law_800 ?_
  refine q_iadd G dL_law_801 ?_
  refine q_sld G hX hbl hbA dL_law_802 (by omega) (by omega) (by omega) ?_
  refine q_topI (z2 := z3) hz3.symm ?_
  refine q_callH (As := [.ref (ad 0), .int (qI (z1)), .int (qI (z2)), .int (qI (z3))]) (rest := []) G hNs dL_law_803 cwh_132 (c_L_multiply l hl D cy M ad hH.1 σ hH.2.1 hW z1 z2 z3 rz1 rz2 rz3) rfl rfl (Nat.le_of_ble_eq_true rfl) rfl rfl ⟨Nat.le_of_ble_eq_true rfl, Nat.le_of_ble_eq_true rfl⟩ ⟨by show _ ≤ 642456; omega, by show _ ≤ 7168736; omega⟩ (fun v9 M9 hq9 => ?_)
  obtain ⟨rfl, hp9⟩ := hq9
  have h2 := LH_w hH hp9
  refine q_st (st2 := [.int (qI (e_13 σ z1 z2 z3))]) rfl ?_
  refine q_abs (fun N => LHf N ad mo qa qb qc qf qt ou σ (if e_13 σ z1 z2 z3 = 0 then n_13 σ z1 z2 z3 else σ)) h2 ?_
  intro N1 hN1
  have hH1 := hN1
  have oM := hH1.2.2.1.1
  refine q_istore (lv' := [(5, .int (qI (e_13 σ z1 z2 z3))), (4, .int (qI (i))), (3, .ref ou), (2, .ref mo), (1, .ref (ad 0)), (0, .ref b)]) G dL_law_806 (by decide) rfl ?_
  refine q_aload_n G 3 2 dL_law_808 rfl rfl ?_
  refine q_aload_n G 5 0 dL_law_809 rfl rfl ?_
  refine q_iload G 1 dL_law_810 rfl ?_
  refine q_iconst G dL_law_812 ?_
  refine q_iadd G dL_law_813 ?_
  refine q_sld G hX hbl hbA dL_law_814 (by omega) (by omega) (by omega) ?_
  refine q_topI (z2 := z1) hz1.symm ?_
  refine q_aload_n G 5 0 dL_law_815 rfl rfl ?_
  refine q_iload G 1 dL_law_816 rfl ?_
  refine q_iconst G dL_law_818 ?_
  refine q_iadd G dL_law_819 ?_
  refine q_sld G hX hbl hbA dL_law_820 (by omega) (by omega) (by omega) ?_
  refine q_topI (z2 := z2) hz2.symm ?_
  refine q_aload_n G 5 0 dL_law_821 rfl rfl ?_
  refine q_iload G 1 dL_law_822 rfl ?_
  refine q_iconst G dL_law_824 ?_
  refine q_iadd G dL_law_825 ?_
  refine q_sld G hX hbl hbA dL_law_826 (by omega) (by omega) (by omega) ?_
  refine q_topI (z2 := z3) hz3.symm ?_
  refine q_callV (As := [.int (qI (z1)), .int (qI (z2)), .int (qI (z3))]) (rest := []) G dL_law_827 cw_L_134 (c_X5_multiply l D cy N1 mo qa qb qc qf qt hH1.2.2.1 σ hH1.2.2.2.1 hW z1 z2 z3 rz1 rz2 rz3) oM.1 oM.2 (by decide) rfl rfl rfl (Nat.le_of_ble_eq_true rfl) rfl rfl ⟨Nat.le_of_ble_eq_true rfl, Nat.le_of_ble_eq_true rfl⟩ ⟨by show _ ≤ 642456; omega, by show _ ≤ 7168736; omega⟩ (fun v9 M9 hq9 => ?_)
  obtain ⟨I9, L9, rfl, fr9, t9, r9, rfl⟩ := hq9
  refine q_st (st2 := []) rfl ?_
  refine q_abs (fun N => LHf N ad mo qa qb qc qf qt ou (if e_13 σ z1 z2 z3 = 0 then n_13 σ z1 z2 z3 else σ) (if e_13 σ z1 z2 z3 = 0 then n_13 σ z1 z2 z3 else σ) ∧ mI N mo 0 = e_13 σ z1 z2 z3) ⟨LH_r hW1 hH1 fr9 r9, t9⟩ ?_
  intro N2 hN2
  obtain ⟨hH2, t2⟩ := hN2
  have oM2 := hH2.2.2.1.1
  have oU2 := hH2.2.2.2.2.1
  refine q_aload_n G 3 2 dL_law_830 rfl rfl ?_
  refine q_callV (As := []) (rest := []) G dL_law_831 cw_L_84 (c_X5_thrown l D cy N2 mo qa qb qc qf qt hH2.2.2.1) oM2.1 oM2.2 (by decide) rfl rfl rfl (Nat.le_of_ble_eq_true rfl) rfl rfl ⟨Nat.le_of_ble_eq_true rfl, Nat.le_of_ble_eq_true rfl⟩ ⟨by show _ ≤ 642456; omega, by show _ ≤ 7168736; omega⟩ (fun v9 M9 hq9 => ?_)
  obtain ⟨rfl, e9⟩ := hq9
  refine q_mem e9 ?_
  refine q_st (st2 := [.int (qI (mI N2 mo 0))]) rfl ?_
  refine q_iload G 0 dL_law_834 rfl ?_
  refine q_icmp_eq (tgt := 841) G dL_law_836 (by decide) (by omega) (by omega) (fun c1 => ?_) (fun c1 => ?_)
  · refine q_goto (tgt := 1060) G dL_law_841 (by decide) ?_
    refine q_lvs [1, 2, 3, 4, 5] rfl ?_
    exact Hk N2 (if e_13 σ z1 z2 z3 = 0 then n_13 σ z1 z2 z3 else σ) _ _ hH2 hW1 (by omega) (by omega)
  · exact absurd t2 c1
set_option maxRecDepth 100000 in
set_option maxHeartbeats 4000000 in
theorem k_raise {p : Program} {l : Launch} {e : Env} {s : State} {m : MethodId} {args : Array Value} {below : List Frame} {meth : Method} {c : Code} {Q : State → Prop} {A : Nat → Prop} (hl : l.stackTraces = false) (D : va_G) (cy : Nat → ClassId) (G : qG p s m args meth c cL_law 8 RL D cy A) (hNs : qNs s) {b Ln : Nat} {xs : Nat → Int32} (hX : va_X b Ln xs s s.heap) (hbl : b < s.heap.size) (hbA : ¬ A b) (hLn : Ln ≤ 2048) (M : qM) (ad : Nat → Nat) (mo qa qb qc qf qt ou : Nat) (σ : qS) (hH : LHf M ad mo qa qb qc qf qt ou σ σ) (hW : WF σ) (i : Int) (hi : 0 ≤ i ∧ i + 4 ≤ Ln) (cs ss : Nat) (hcs : cs + 6 ≤ 642456) (hss : ss + 36 ≤ 7168736) (Hk : ∀ (M' : qM) (σ' : qS) (c' s' : Nat), LHf M' ad mo qa qb qc qf qt ou σ' σ' → WF σ' → c' ≤ cs + 6 → s' ≤ ss + 36 → qK p l e room_1 s m args below meth c Q 8 D cy A c' s' 1060 [(4, .int (qI (i))), (3, .ref ou), (2, .ref mo), (1, .ref (ad 0)), (0, .ref b)] [] M') : qK p l e room_1 s m args below meth c Q 8 D cy A (cs) (ss) 844 [(4, .int (qI (i))), (3, .ref ou), (2, .ref mo), (1, .ref (ad 0)), (0, .ref b)] [] (M) := by
  obtain ⟨z1, hz1⟩ : ∃ z, z = (xs (Int.toNat (i + 1))).toInt := ⟨_, rfl⟩
  obtain ⟨z2, hz2⟩ : ∃ z, z = (xs (Int.toNat (i + 2))).toInt := ⟨_, rfl⟩
  obtain ⟨z3, hz3⟩ : ∃ z, z = (xs (Int.toNat (i + 3))).toInt := ⟨_, rfl⟩
  have rz1 : r32 z1 := by rw [hz1]; exact i32_r _
  have rz2 : r32 z2 := by rw [hz2]; exact i32_r _
  have rz3 : r32 z3 := by rw [hz3]; exact i32_r _
  have hE : 0 ≤ e_14 σ z1 z2 z3 ∧ e_14 σ z1 z2 z3 ≤ 4 := by unfold e_14; omega
  have hW1 : WF (if e_14 σ z1 z2 z3 = 0 then n_14 σ z1 z2 z3 else σ) := by by_cases h9 : e_14 σ z1 z2 z3 = 0; (rw [if_pos h9]; exact WF_n14 hW h9); (rw [if_neg h9]; exact hW)
  refine q_aload_n G 3 1 dL_law_844 rfl rfl ?_
  refine q_aload_n G 4 0 dL_law_845 rfl rfl ?_
  refine q_iload G 0 dL_law_846 rfl ?_
  refine q_iconst G dL_law_848 ?_
  refine q_iadd G dL_law_849 ?_
  refine q_sld G hX hbl hbA dL_law_850 (by omega) (by omega) (by omega) ?_
  refine q_topI (z2 := z1) hz1.symm ?_
  refine q_aload_n G 4 0 dL_law_851 rfl rfl ?_
  refine q_iload G 0 dL_law_852 rfl ?_
  refine q_iconst G dL_law_854 ?_
  refine q_iadd G dL_law_855 ?_
  refine q_sld G hX hbl hbA dL_law_856 (by omega) (by omega) (by omega) ?_
  refine q_topI (z2 := z2) hz2.symm ?_
  refine q_aload_n G 4 0 dL_law_857 rfl rfl ?_
  refine q_iload G 0 dL_law_858 rfl ?_
  refine q_iconst G dL_law_860 ?_
  refine q_iadd G dL_law_861 ?_
  refine q_sld G hX hbl hbA dL_law_862 (by omega) (by omega) (by omega) ?_
  refine q_topI (z2 := z3) hz3.symm ?_
  refine q_callH (As := [.ref (ad 0), .int (qI (z1)), .int (qI (z2)), .int (qI (z3))]) (rest := []) G hNs dL_law_863 cwh_135 (c_L_raise l hl D cy M ad hH.1 σ hH.2.1 hW z1 z2 z3 rz1 rz2 rz3) rfl rfl (Nat.le_of_ble_eq_true rfl) rfl rfl ⟨Nat.le_of_ble_eq_true rfl, Nat.le_of_ble_eq_true rfl⟩ ⟨by show _ ≤ 642456; omega, by show _ ≤ 7168736; omega⟩ (fun v9 M9 hq9 => ?_)
  obtain ⟨rfl, hp9⟩ := hq9
  have h2 := LH_w hH hp9
  refine q_st (st2 := [.int (qI (e_14 σ z1 z2 z3))]) rfl ?_
  refine q_abs (fun N => LHf N ad mo qa qb qc qf qt ou σ (if e_14 σ z1 z2 z3 = 0 then n_14 σ z1 z2 z3 else σ)) h2 ?_
  intro N1 hN1
  have hH1 := hN1
  have oM := hH1.2.2.1.1
  refine q_istore (lv' := [(5, .int (qI (e_14 σ z1 z2 z3))), (4, .int (qI (i))), (3, .ref ou), (2, .ref mo), (1, .ref (ad 0)), (0, .ref b)]) G dL_law_866 (by decide) rfl ?_
  refine q_aload_n G 3 2 dL_law_868 rfl rfl ?_
  refine q_aload_n G 5 0 dL_law_869 rfl rfl ?_
  refine q_iload G 1 dL_law_870 rfl ?_
  refine q_iconst G dL_law_872 ?_
  refine q_iadd G dL_law_873 ?_
  refine q_sld G hX hbl hbA dL_law_874 (by omega) (by omega) (by omega) ?_
  refine q_topI (z2 := z1) hz1.symm ?_
  refine q_aload_n G 5 0 dL_law_875 rfl rfl ?_
  refine q_iload G 1 dL_law_876 rfl ?_
  refine q_iconst G dL_law_878 ?_
  refine q_iadd G dL_law_879 ?_
  refine q_sld G hX hbl hbA dL_law_880 (by omega) (by omega) (by omega) ?_
  refine q_topI (z2 := z2) hz2.symm ?_
  refine q_aload_n G 5 0 dL_law_881 rfl rfl ?_
  refine q_iload G 1 dL_law_882 rfl ?_
  refine q_iconst G dL_law_884 ?_
  refine q_iadd G dL_law_885 ?_
  refine q_sld G hX hbl hbA dL_law_886 (by omega) (by omega) (by omega) ?_
  refine q_topI (z2 := z3) hz3.symm ?_
  refine q_callV (As := [.int (qI (z1)), .int (qI (z2)), .int (qI (z3))]) (rest := []) G dL_law_887 cw_L_137 (c_X5_raise l D cy N1 mo qa qb qc qf qt hH1.2.2.1 σ hH1.2.2.2.1 hW z1 z2 z3 rz1 rz2 rz3) oM.1 oM.2 (by decide) rfl rfl rfl (Nat.le_of_ble_eq_true rfl) rfl rfl ⟨Nat.le_of_ble_eq_true rfl, Nat.le_of_ble_eq_true rfl⟩ ⟨by show _ ≤ 642456; omega, by show _ ≤ 7168736; omega⟩ (fun v9 M9 hq9 => ?_)
  obtain ⟨I9, L9, rfl, fr9, t9, r9, rfl⟩ := hq9
  refine q_st (st2 := []) rfl ?_
  refine q_abs (fun N => LHf N ad mo qa qb qc qf qt ou (if e_14 σ z1 z2 z3 = 0 then n_14 σ z1 z2 z3 else σ) (if e_14 σ z1 z2 z3 = 0 then n_14 σ z1 z2 z3 else σ) ∧ mI N mo 0 = e_14 σ z1 z2 z3) ⟨LH_r hW1 hH1 fr9 r9, t9⟩ ?_
  intro N2 hN2
  obtain ⟨hH2, t2⟩ := hN2
  have oM2 := hH2.2.2.1.1
  have oU2 := hH2.2.2.2.2.1
  refine q_aload_n G 3 2 dL_law_890 rfl rfl ?_
  refine q_callV (As := []) (rest := []) G dL_law_891 cw_L_84 (c_X5_thrown l D cy N2 mo qa qb qc qf qt hH2.2.2.1) oM2.1 oM2.2 (by decide) rfl rfl rfl (Nat.le_of_ble_eq_true rfl) rfl rfl ⟨Nat.le_of_ble_eq_true rfl, Nat.le_of_ble_eq_true rfl⟩ ⟨by show _ ≤ 642456; omega, by show _ ≤ 7168736; omega⟩ (fun v9 M9 hq9 => ?_)
  obtain ⟨rfl, e9⟩ := hq9
  refine q_mem e9 ?_
  refine q_st (st2 := [.int (qI (mI N2 mo 0))]) rfl ?_
  refine q_iload G 0 dL_law_894 rfl ?_
  refine q_icmp_eq (tgt := 901) G dL_law_896 (by decide) (by omega) (by omega) (fun c1 => ?_) (fun c1 => ?_)
  · refine q_goto (tgt := 1060) G dL_law_901 (by decide) ?_
    refine q_lvs [1, 2, 3, 4, 5] rfl ?_
    exact Hk N2 (if e_14 σ z1 z2 z3 = 0 then n_14 σ z1 z2 z3 else σ) _ _ hH2 hW1 (by omega) (by omega)
  · exact absurd t2 c1
set_option maxRecDepth 100000 in
set_option maxHeartbeats 4000000 in
theorem k_test {p : Program} {l : Launch} {e : Env} {s : State} {m : MethodId} {args : Array Value} {below : List Frame} {meth : Method} {c : Code} {Q : State → Prop} {A : Nat → Prop} (hl : l.stackTraces = false) (D : va_G) (cy : Nat → ClassId) (G : qG p s m args meth c cL_law 8 RL D cy A) (hNs : qNs s) {b Ln : Nat} {xs : Nat → Int32} (hX : va_X b Ln xs s s.heap) (hbl : b < s.heap.size) (hbA : ¬ A b) (hLn : Ln ≤ 2048) (M : qM) (ad : Nat → Nat) (mo qa qb qc qf qt ou : Nat) (σ : qS) (hH : LHf M ad mo qa qb qc qf qt ou σ σ) (hW : WF σ) (i : Int) (hi : 0 ≤ i ∧ i + 4 ≤ Ln) (cs ss : Nat) (hcs : cs + 6 ≤ 642456) (hss : ss + 36 ≤ 7168736) (Hk : ∀ (M' : qM) (σ' : qS) (c' s' : Nat), LHf M' ad mo qa qb qc qf qt ou σ' σ' → WF σ' → c' ≤ cs + 6 → s' ≤ ss + 36 → qK p l e room_1 s m args below meth c Q 8 D cy A c' s' 1060 [(4, .int (qI (i))), (3, .ref ou), (2, .ref mo), (1, .ref (ad 0)), (0, .ref b)] [] M') : qK p l e room_1 s m args below meth c Q 8 D cy A (cs) (ss) 904 [(4, .int (qI (i))), (3, .ref ou), (2, .ref mo), (1, .ref (ad 0)), (0, .ref b)] [] (M) := by
  obtain ⟨z1, hz1⟩ : ∃ z, z = (xs (Int.toNat (i + 1))).toInt := ⟨_, rfl⟩
  have rz1 : r32 z1 := by rw [hz1]; exact i32_r _
  have hE : 0 ≤ e_15 σ z1 ∧ e_15 σ z1 ≤ 4 := by unfold e_15; omega
  have hW1 : WF (if e_15 σ z1 = 0 then σ else σ) := by rw [ite_self]; exact hW
  have hva : e_15 σ z1 = 0 → r32 (a_15 σ z1) := fun _ => rg_15
  refine q_aload_n G 3 1 dL_law_904 rfl rfl ?_
  refine q_aload_n G 4 0 dL_law_905 rfl rfl ?_
  refine q_iload G 0 dL_law_906 rfl ?_
  refine q_iconst G dL_law_908 ?_
  refine q_iadd G dL_law_909 ?_
  refine q_sld G hX hbl hbA dL_law_910 (by omega) (by omega) (by omega) ?_
  refine q_topI (z2 := z1) hz1.symm ?_
  refine q_aload_n G 1 3 dL_law_911 rfl rfl ?_
  refine q_callH (As := [.ref (ad 0), .int (qI (z1)), .ref ou]) (rest := []) G hNs dL_law_912 cwh_138 (c_L_test l hl D cy M ad hH.1 σ hH.2.1 hW z1 rz1 ou hH.2.2.2.2.1 (fun _ => rg_15)) rfl rfl (Nat.le_of_ble_eq_true rfl) rfl rfl ⟨Nat.le_of_ble_eq_true rfl, Nat.le_of_ble_eq_true rfl⟩ ⟨by show _ ≤ 642456; omega, by show _ ≤ 7168736; omega⟩ (fun v9 M9 hq9 => ?_)
  obtain ⟨rfl, M1, hp9, hm9⟩ := hq9
  have h1 := LH_w hH hp9
  have h2 : LHf M9 ad mo qa qb qc qf qt ou σ (if e_15 σ z1 = 0 then σ else σ) ∧ (e_15 σ z1 = 0 → mL M9 ou 0 = a_15 σ z1) := by rw [hm9]; by_cases h9 : e_15 σ z1 = 0; (rw [show (if e_15 σ z1 = 0 then sL M1 ou 0 (a_15 σ z1) else M1) = sL M1 ou 0 (a_15 σ z1) from if_pos h9]; exact ⟨LH_o hW1 h1 0 _, fun _ => up2_s _ _ _ _⟩); (rw [show (if e_15 σ z1 = 0 then sL M1 ou 0 (a_15 σ z1) else M1) = M1 from if_neg h9]; exact ⟨h1, fun h8 => absurd h8 h9⟩)
  refine q_st (st2 := [.int (qI (e_15 σ z1))]) rfl ?_
  refine q_abs (fun N => LHf N ad mo qa qb qc qf qt ou σ (if e_15 σ z1 = 0 then σ else σ) ∧ (e_15 σ z1 = 0 → mL N ou 0 = a_15 σ z1)) h2 ?_
  intro N1 hN1
  obtain ⟨hH1, ha1⟩ := hN1
  have oM := hH1.2.2.1.1
  refine q_istore (lv' := [(5, .int (qI (e_15 σ z1))), (4, .int (qI (i))), (3, .ref ou), (2, .ref mo), (1, .ref (ad 0)), (0, .ref b)]) G dL_law_915 (by decide) rfl ?_
  refine q_aload_n G 3 2 dL_law_917 rfl rfl ?_
  refine q_aload_n G 5 0 dL_law_918 rfl rfl ?_
  refine q_iload G 1 dL_law_919 rfl ?_
  refine q_iconst G dL_law_921 ?_
  refine q_iadd G dL_law_922 ?_
  refine q_sld G hX hbl hbA dL_law_923 (by omega) (by omega) (by omega) ?_
  refine q_topI (z2 := z1) hz1.symm ?_
  refine q_callV (As := [.int (qI (z1))]) (rest := []) G dL_law_924 cw_L_140 (c_X5_test l D cy N1 mo qa qb qc qf qt hH1.2.2.1 σ hH1.2.2.2.1 hW z1 rz1) oM.1 oM.2 (by decide) rfl rfl rfl (Nat.le_of_ble_eq_true rfl) rfl rfl ⟨Nat.le_of_ble_eq_true rfl, Nat.le_of_ble_eq_true rfl⟩ ⟨by show _ ≤ 642456; omega, by show _ ≤ 7168736; omega⟩ (fun v9 M9 hq9 => ?_)
  obtain ⟨I9, L9, rfl, fr9, t9, r9, z9, rfl, hz9⟩ := hq9
  refine q_st (st2 := [.int (qI (z9))]) rfl ?_
  refine q_abs (fun N => LHf N ad mo qa qb qc qf qt ou (if e_15 σ z1 = 0 then σ else σ) (if e_15 σ z1 = 0 then σ else σ) ∧ mI N mo 0 = e_15 σ z1 ∧ mL N ou 0 = mL N1 ou 0) ⟨LH_r hW1 hH1 fr9 (show RMd (if e_15 σ z1 = 0 then σ else σ) I9 L9 mo qa qb qc qf qt by rw [ite_self]; exact r9), t9, congrFun (LH_ou hH1 fr9) 0⟩ ?_
  intro N2 hN2
  obtain ⟨hH2, t2, o2⟩ := hN2
  have oM2 := hH2.2.2.1.1
  have oU2 := hH2.2.2.2.2.1
  refine q_istore (lv' := [(6, .int (qI (z9))), (5, .int (qI (e_15 σ z1))), (4, .int (qI (i))), (3, .ref ou), (2, .ref mo), (1, .ref (ad 0)), (0, .ref b)]) G dL_law_927 (by decide) rfl ?_
  refine q_aload_n G 4 2 dL_law_929 rfl rfl ?_
  refine q_callV (As := []) (rest := []) G dL_law_930 cw_L_84 (c_X5_thrown l D cy N2 mo qa qb qc qf qt hH2.2.2.1) oM2.1 oM2.2 (by decide) rfl rfl rfl (Nat.le_of_ble_eq_true rfl) rfl rfl ⟨Nat.le_of_ble_eq_true rfl, Nat.le_of_ble_eq_true rfl⟩ ⟨by show _ ≤ 642456; omega, by show _ ≤ 7168736; omega⟩ (fun v9 M9 hq9 => ?_)
  obtain ⟨rfl, e9⟩ := hq9
  refine q_mem e9 ?_
  refine q_st (st2 := [.int (qI (mI N2 mo 0))]) rfl ?_
  refine q_iload G 1 dL_law_933 rfl ?_
  refine q_icmp_eq (tgt := 940) G dL_law_935 (by decide) (by omega) (by omega) (fun c1 => ?_) (fun c1 => ?_)
  · refine q_iload G 1 dL_law_940 rfl ?_
    refine q_if_ne (tgt := 957) G dL_law_942 (by decide) (by first | assumption | omega) (fun c2 => ?_) (fun c2 => ?_)
    · refine q_goto (tgt := 1060) G dL_law_957 (by decide) ?_
      refine q_lvs [2, 3, 4, 5, 6] rfl ?_
      exact Hk N2 (if e_15 σ z1 = 0 then σ else σ) _ _ hH2 hW1 (by omega) (by omega)
    · refine q_aload_n G 3 3 dL_law_945 rfl rfl ?_
      refine q_iconst G dL_law_946 ?_
      have hz0 : e_15 σ z1 = 0 := by omega
      have hzv : z9 = a_15 σ z1 := hz9 hz0
      have hov : mL N2 ou (Int.toNat 0) = a_15 σ z1 := o2.trans (ha1 hz0)
      have hvr := hva hz0
      refine q_laload G dL_law_947 oU2.1 oU2.2.1 (by first | assumption | omega) (show (0) < ((mN N2 ou : Nat) : Int) by rw [oU2.2.2]; omega) (show mN N2 ou < 2147483648 by rw [oU2.2.2]; decide) ?_
      refine q_iload G 0 dL_law_948 rfl ?_
      refine q_i2l G dL_law_950 (by omega) ?_
      refine q_lcmp_eq (tgt := 957) G dL_law_951 dL_law_952 (by decide) (by omega) (by omega) (fun c3 => ?_) (fun c3 => ?_)
      · refine q_goto (tgt := 1060) G dL_law_957 (by decide) ?_
        refine q_lvs [2, 3, 4, 5, 6] rfl ?_
        exact Hk N2 (if e_15 σ z1 = 0 then σ else σ) _ _ hH2 hW1 (by omega) (by omega)
      · exact absurd (hov.trans hzv.symm) c3
  · exact absurd t2 c1
set_option maxRecDepth 100000 in
set_option maxHeartbeats 4000000 in
theorem k_order {p : Program} {l : Launch} {e : Env} {s : State} {m : MethodId} {args : Array Value} {below : List Frame} {meth : Method} {c : Code} {Q : State → Prop} {A : Nat → Prop} (hl : l.stackTraces = false) (D : va_G) (cy : Nat → ClassId) (G : qG p s m args meth c cL_law 8 RL D cy A) (hNs : qNs s) {b Ln : Nat} {xs : Nat → Int32} (hX : va_X b Ln xs s s.heap) (hbl : b < s.heap.size) (hbA : ¬ A b) (hLn : Ln ≤ 2048) (M : qM) (ad : Nat → Nat) (mo qa qb qc qf qt ou : Nat) (σ : qS) (hH : LHf M ad mo qa qb qc qf qt ou σ σ) (hW : WF σ) (i : Int) (hi : 0 ≤ i ∧ i + 4 ≤ Ln) (cs ss : Nat) (hcs : cs + 6 ≤ 642456) (hss : ss + 36 ≤ 7168736) (Hk : ∀ (M' : qM) (σ' : qS) (c' s' : Nat), LHf M' ad mo qa qb qc qf qt ou σ' σ' → WF σ' → c' ≤ cs + 6 → s' ≤ ss + 36 → qK p l e room_1 s m args below meth c Q 8 D cy A c' s' 1060 [(4, .int (qI (i))), (3, .ref ou), (2, .ref mo), (1, .ref (ad 0)), (0, .ref b)] [] M') : qK p l e room_1 s m args below meth c Q 8 D cy A (cs) (ss) 960 [(4, .int (qI (i))), (3, .ref ou), (2, .ref mo), (1, .ref (ad 0)), (0, .ref b)] [] (M) := by
  obtain ⟨z1, hz1⟩ : ∃ z, z = (xs (Int.toNat (i + 1))).toInt := ⟨_, rfl⟩
  have rz1 : r32 z1 := by rw [hz1]; exact i32_r _
  have hE : 0 ≤ e_16 σ z1 ∧ e_16 σ z1 ≤ 4 := by unfold e_16; omega
  have hW1 : WF (if e_16 σ z1 = 0 then σ else σ) := by rw [ite_self]; exact hW
  have hva : e_16 σ z1 = 0 → r32 (a_16 σ z1) := rg_16
  refine q_aload_n G 3 1 dL_law_960 rfl rfl ?_
  refine q_aload_n G 4 0 dL_law_961 rfl rfl ?_
  refine q_iload G 0 dL_law_962 rfl ?_
  refine q_iconst G dL_law_964 ?_
  refine q_iadd G dL_law_965 ?_
  refine q_sld G hX hbl hbA dL_law_966 (by omega) (by omega) (by omega) ?_
  refine q_topI (z2 := z1) hz1.symm ?_
  refine q_aload_n G 1 3 dL_law_967 rfl rfl ?_
  refine q_callH (As := [.ref (ad 0), .int (qI (z1)), .ref ou]) (rest := []) G hNs dL_law_968 cwh_141 (c_L_order l hl D cy M ad hH.1 σ hH.2.1 hW z1 rz1 ou hH.2.2.2.2.1 (rg_16)) rfl rfl (Nat.le_of_ble_eq_true rfl) rfl rfl ⟨Nat.le_of_ble_eq_true rfl, Nat.le_of_ble_eq_true rfl⟩ ⟨by show _ ≤ 642456; omega, by show _ ≤ 7168736; omega⟩ (fun v9 M9 hq9 => ?_)
  obtain ⟨rfl, M1, hp9, hm9⟩ := hq9
  have h1 := LH_w hH hp9
  have h2 : LHf M9 ad mo qa qb qc qf qt ou σ (if e_16 σ z1 = 0 then σ else σ) ∧ (e_16 σ z1 = 0 → mL M9 ou 0 = a_16 σ z1) := by rw [hm9]; by_cases h9 : e_16 σ z1 = 0; (rw [show (if e_16 σ z1 = 0 then sL M1 ou 0 (a_16 σ z1) else M1) = sL M1 ou 0 (a_16 σ z1) from if_pos h9]; exact ⟨LH_o hW1 h1 0 _, fun _ => up2_s _ _ _ _⟩); (rw [show (if e_16 σ z1 = 0 then sL M1 ou 0 (a_16 σ z1) else M1) = M1 from if_neg h9]; exact ⟨h1, fun h8 => absurd h8 h9⟩)
  refine q_st (st2 := [.int (qI (e_16 σ z1))]) rfl ?_
  refine q_abs (fun N => LHf N ad mo qa qb qc qf qt ou σ (if e_16 σ z1 = 0 then σ else σ) ∧ (e_16 σ z1 = 0 → mL N ou 0 = a_16 σ z1)) h2 ?_
  intro N1 hN1
  obtain ⟨hH1, ha1⟩ := hN1
  have oM := hH1.2.2.1.1
  refine q_istore (lv' := [(5, .int (qI (e_16 σ z1))), (4, .int (qI (i))), (3, .ref ou), (2, .ref mo), (1, .ref (ad 0)), (0, .ref b)]) G dL_law_971 (by decide) rfl ?_
  refine q_aload_n G 3 2 dL_law_973 rfl rfl ?_
  refine q_aload_n G 5 0 dL_law_974 rfl rfl ?_
  refine q_iload G 1 dL_law_975 rfl ?_
  refine q_iconst G dL_law_977 ?_
  refine q_iadd G dL_law_978 ?_
  refine q_sld G hX hbl hbA dL_law_979 (by omega) (by omega) (by omega) ?_
  refine q_topI (z2 := z1) hz1.symm ?_
  refine q_callV (As := [.int (qI (z1))]) (rest := []) G dL_law_980 cw_L_143 (c_X5_order l D cy N1 mo qa qb qc qf qt hH1.2.2.1 σ hH1.2.2.2.1 hW z1 rz1) oM.1 oM.2 (by decide) rfl rfl rfl (Nat.le_of_ble_eq_true rfl) rfl rfl ⟨Nat.le_of_ble_eq_true rfl, Nat.le_of_ble_eq_true rfl⟩ ⟨by show _ ≤ 642456; omega, by show _ ≤ 7168736; omega⟩ (fun v9 M9 hq9 => ?_)
  obtain ⟨I9, L9, rfl, fr9, t9, r9, z9, rfl, hz9⟩ := hq9
  refine q_st (st2 := [.int (qI (z9))]) rfl ?_
  refine q_abs (fun N => LHf N ad mo qa qb qc qf qt ou (if e_16 σ z1 = 0 then σ else σ) (if e_16 σ z1 = 0 then σ else σ) ∧ mI N mo 0 = e_16 σ z1 ∧ mL N ou 0 = mL N1 ou 0) ⟨LH_r hW1 hH1 fr9 (show RMd (if e_16 σ z1 = 0 then σ else σ) I9 L9 mo qa qb qc qf qt by rw [ite_self]; exact r9), t9, congrFun (LH_ou hH1 fr9) 0⟩ ?_
  intro N2 hN2
  obtain ⟨hH2, t2, o2⟩ := hN2
  have oM2 := hH2.2.2.1.1
  have oU2 := hH2.2.2.2.2.1
  refine q_istore (lv' := [(6, .int (qI (z9))), (5, .int (qI (e_16 σ z1))), (4, .int (qI (i))), (3, .ref ou), (2, .ref mo), (1, .ref (ad 0)), (0, .ref b)]) G dL_law_983 (by decide) rfl ?_
  refine q_aload_n G 4 2 dL_law_985 rfl rfl ?_
  refine q_callV (As := []) (rest := []) G dL_law_986 cw_L_84 (c_X5_thrown l D cy N2 mo qa qb qc qf qt hH2.2.2.1) oM2.1 oM2.2 (by decide) rfl rfl rfl (Nat.le_of_ble_eq_true rfl) rfl rfl ⟨Nat.le_of_ble_eq_true rfl, Nat.le_of_ble_eq_true rfl⟩ ⟨by show _ ≤ 642456; omega, by show _ ≤ 7168736; omega⟩ (fun v9 M9 hq9 => ?_)
  obtain ⟨rfl, e9⟩ := hq9
  refine q_mem e9 ?_
  refine q_st (st2 := [.int (qI (mI N2 mo 0))]) rfl ?_
  refine q_iload G 1 dL_law_989 rfl ?_
  refine q_icmp_eq (tgt := 996) G dL_law_991 (by decide) (by omega) (by omega) (fun c1 => ?_) (fun c1 => ?_)
  · refine q_iload G 1 dL_law_996 rfl ?_
    refine q_if_ne (tgt := 1013) G dL_law_998 (by decide) (by first | assumption | omega) (fun c2 => ?_) (fun c2 => ?_)
    · refine q_goto (tgt := 1060) G dL_law_1013 (by decide) ?_
      refine q_lvs [2, 3, 4, 5, 6] rfl ?_
      exact Hk N2 (if e_16 σ z1 = 0 then σ else σ) _ _ hH2 hW1 (by omega) (by omega)
    · refine q_aload_n G 3 3 dL_law_1001 rfl rfl ?_
      refine q_iconst G dL_law_1002 ?_
      have hz0 : e_16 σ z1 = 0 := by omega
      have hzv : z9 = a_16 σ z1 := hz9 hz0
      have hov : mL N2 ou (Int.toNat 0) = a_16 σ z1 := o2.trans (ha1 hz0)
      have hvr := hva hz0
      refine q_laload G dL_law_1003 oU2.1 oU2.2.1 (by first | assumption | omega) (show (0) < ((mN N2 ou : Nat) : Int) by rw [oU2.2.2]; omega) (show mN N2 ou < 2147483648 by rw [oU2.2.2]; decide) ?_
      refine q_iload G 0 dL_law_1004 rfl ?_
      refine q_i2l G dL_law_1006 (by omega) ?_
      refine q_lcmp_eq (tgt := 1013) G dL_law_1007 dL_law_1008 (by decide) (by omega) (by omega) (fun c3 => ?_) (fun c3 => ?_)
      · refine q_goto (tgt := 1060) G dL_law_1013 (by decide) ?_
        refine q_lvs [2, 3, 4, 5, 6] rfl ?_
        exact Hk N2 (if e_16 σ z1 = 0 then σ else σ) _ _ hH2 hW1 (by omega) (by omega)
      · exact absurd (hov.trans hzv.symm) c3
  · exact absurd t2 c1
set_option maxRecDepth 100000 in
set_option maxHeartbeats 4000000 in
theorem k_classes {p : Program} {l : Launch} {e : Env} {s : State} {m : MethodId} {args : Array Value} {below : List Frame} {meth : Method} {c : Code} {Q : State → Prop} {A : Nat → Prop} (hl : l.stackTraces = false) (D : va_G) (cy : Nat → ClassId) (G : qG p s m args meth c cL_law 8 RL D cy A) (hNs : qNs s) {b Ln : Nat} {xs : Nat → Int32} (hX : va_X b Ln xs s s.heap) (hbl : b < s.heap.size) (hbA : ¬ A b) (hLn : Ln ≤ 2048) (M : qM) (ad : Nat → Nat) (mo qa qb qc qf qt ou : Nat) (σ : qS) (hH : LHf M ad mo qa qb qc qf qt ou σ σ) (hW : WF σ) (i : Int) (hi : 0 ≤ i ∧ i + 4 ≤ Ln) (cs ss : Nat) (hcs : cs + 6 ≤ 642456) (hss : ss + 36 ≤ 7168736) (Hk : ∀ (M' : qM) (σ' : qS) (c' s' : Nat), LHf M' ad mo qa qb qc qf qt ou σ' σ' → WF σ' → c' ≤ cs + 6 → s' ≤ ss + 36 → qK p l e room_1 s m args below meth c Q 8 D cy A c' s' 1060 [(4, .int (qI (i))), (3, .ref ou), (2, .ref mo), (1, .ref (ad 0)), (0, .ref b)] [] M') : qK p l e room_1 s m args below meth c Q 8 D cy A (cs) (ss) 1016 [(4, .int (qI (i))), (3, .ref ou), (2, .ref mo), (1, .ref (ad 0)), (0, .ref b)] [] (M) := by
  have hE : 0 ≤ e_17 σ ∧ e_17 σ ≤ 4 := by unfold e_17; omega
  have hW1 : WF (if e_17 σ = 0 then σ else σ) := by rw [ite_self]; exact hW
  have hva : e_17 σ = 0 → r32 (a_17 σ) := fun _ => rg_17
  refine q_aload_n G 3 1 dL_law_1016 rfl rfl ?_
  refine q_aload_n G 1 3 dL_law_1017 rfl rfl ?_
  refine q_callH (As := [.ref (ad 0), .ref ou]) (rest := []) G hNs dL_law_1018 cwh_144 (c_L_classes l hl D cy M ad hH.1 σ hH.2.1 hW ou hH.2.2.2.2.1 (fun _ => rg_17)) rfl rfl (Nat.le_of_ble_eq_true rfl) rfl rfl ⟨Nat.le_of_ble_eq_true rfl, Nat.le_of_ble_eq_true rfl⟩ ⟨by show _ ≤ 642456; omega, by show _ ≤ 7168736; omega⟩ (fun v9 M9 hq9 => ?_)
  obtain ⟨rfl, M1, hp9, hm9⟩ := hq9
  have h1 := LH_w hH hp9
  have h2 : LHf M9 ad mo qa qb qc qf qt ou σ (if e_17 σ = 0 then σ else σ) ∧ (e_17 σ = 0 → mL M9 ou 0 = a_17 σ) := by rw [hm9]; by_cases h9 : e_17 σ = 0; (rw [show (if e_17 σ = 0 then sL M1 ou 0 (a_17 σ) else M1) = sL M1 ou 0 (a_17 σ) from if_pos h9]; exact ⟨LH_o hW1 h1 0 _, fun _ => up2_s _ _ _ _⟩); (rw [show (if e_17 σ = 0 then sL M1 ou 0 (a_17 σ) else M1) = M1 from if_neg h9]; exact ⟨h1, fun h8 => absurd h8 h9⟩)
  refine q_st (st2 := [.int (qI (e_17 σ))]) rfl ?_
  refine q_abs (fun N => LHf N ad mo qa qb qc qf qt ou σ (if e_17 σ = 0 then σ else σ) ∧ (e_17 σ = 0 → mL N ou 0 = a_17 σ)) h2 ?_
  intro N1 hN1
  obtain ⟨hH1, ha1⟩ := hN1
  have oM := hH1.2.2.1.1
  refine q_istore (lv' := [(5, .int (qI (e_17 σ))), (4, .int (qI (i))), (3, .ref ou), (2, .ref mo), (1, .ref (ad 0)), (0, .ref b)]) G dL_law_1021 (by decide) rfl ?_
  refine q_aload_n G 3 2 dL_law_1023 rfl rfl ?_
  refine q_callV (As := []) (rest := []) G dL_law_1024 cw_L_146 (c_X5_classes l D cy N1 mo qa qb qc qf qt hH1.2.2.1 σ hH1.2.2.2.1 hW) oM.1 oM.2 (by decide) rfl rfl rfl (Nat.le_of_ble_eq_true rfl) rfl rfl ⟨Nat.le_of_ble_eq_true rfl, Nat.le_of_ble_eq_true rfl⟩ ⟨by show _ ≤ 642456; omega, by show _ ≤ 7168736; omega⟩ (fun v9 M9 hq9 => ?_)
  obtain ⟨I9, L9, rfl, fr9, t9, r9, z9, rfl, hz9⟩ := hq9
  refine q_st (st2 := [.int (qI (z9))]) rfl ?_
  refine q_abs (fun N => LHf N ad mo qa qb qc qf qt ou (if e_17 σ = 0 then σ else σ) (if e_17 σ = 0 then σ else σ) ∧ mI N mo 0 = e_17 σ ∧ mL N ou 0 = mL N1 ou 0) ⟨LH_r hW1 hH1 fr9 (show RMd (if e_17 σ = 0 then σ else σ) I9 L9 mo qa qb qc qf qt by rw [ite_self]; exact r9), t9, congrFun (LH_ou hH1 fr9) 0⟩ ?_
  intro N2 hN2
  obtain ⟨hH2, t2, o2⟩ := hN2
  have oM2 := hH2.2.2.1.1
  have oU2 := hH2.2.2.2.2.1
  refine q_istore (lv' := [(6, .int (qI (z9))), (5, .int (qI (e_17 σ))), (4, .int (qI (i))), (3, .ref ou), (2, .ref mo), (1, .ref (ad 0)), (0, .ref b)]) G dL_law_1027 (by decide) rfl ?_
  refine q_aload_n G 4 2 dL_law_1029 rfl rfl ?_
  refine q_callV (As := []) (rest := []) G dL_law_1030 cw_L_84 (c_X5_thrown l D cy N2 mo qa qb qc qf qt hH2.2.2.1) oM2.1 oM2.2 (by decide) rfl rfl rfl (Nat.le_of_ble_eq_true rfl) rfl rfl ⟨Nat.le_of_ble_eq_true rfl, Nat.le_of_ble_eq_true rfl⟩ ⟨by show _ ≤ 642456; omega, by show _ ≤ 7168736; omega⟩ (fun v9 M9 hq9 => ?_)
  obtain ⟨rfl, e9⟩ := hq9
  refine q_mem e9 ?_
  refine q_st (st2 := [.int (qI (mI N2 mo 0))]) rfl ?_
  refine q_iload G 1 dL_law_1033 rfl ?_
  refine q_icmp_eq (tgt := 1040) G dL_law_1035 (by decide) (by omega) (by omega) (fun c1 => ?_) (fun c1 => ?_)
  · refine q_iload G 1 dL_law_1040 rfl ?_
    refine q_if_ne (tgt := 1057) G dL_law_1042 (by decide) (by first | assumption | omega) (fun c2 => ?_) (fun c2 => ?_)
    · refine q_goto (tgt := 1060) G dL_law_1057 (by decide) ?_
      refine q_lvs [2, 3, 4, 5, 6] rfl ?_
      exact Hk N2 (if e_17 σ = 0 then σ else σ) _ _ hH2 hW1 (by omega) (by omega)
    · refine q_aload_n G 3 3 dL_law_1045 rfl rfl ?_
      refine q_iconst G dL_law_1046 ?_
      have hz0 : e_17 σ = 0 := by omega
      have hzv : z9 = a_17 σ := hz9 hz0
      have hov : mL N2 ou (Int.toNat 0) = a_17 σ := o2.trans (ha1 hz0)
      have hvr := hva hz0
      refine q_laload G dL_law_1047 oU2.1 oU2.2.1 (by first | assumption | omega) (show (0) < ((mN N2 ou : Nat) : Int) by rw [oU2.2.2]; omega) (show mN N2 ou < 2147483648 by rw [oU2.2.2]; decide) ?_
      refine q_iload G 0 dL_law_1048 rfl ?_
      refine q_i2l G dL_law_1050 (by omega) ?_
      refine q_lcmp_eq (tgt := 1057) G dL_law_1051 dL_law_1052 (by decide) (by omega) (by omega) (fun c3 => ?_) (fun c3 => ?_)
      · refine q_goto (tgt := 1060) G dL_law_1057 (by decide) ?_
        refine q_lvs [2, 3, 4, 5, 6] rfl ?_
        exact Hk N2 (if e_17 σ = 0 then σ else σ) _ _ hH2 hW1 (by omega) (by omega)
      · exact absurd (hov.trans hzv.symm) c3
  · exact absurd t2 c1
set_option maxRecDepth 100000 in
set_option maxHeartbeats 4000000 in
theorem k_drop {p : Program} {l : Launch} {e : Env} {s : State} {m : MethodId} {args : Array Value} {below : List Frame} {meth : Method} {c : Code} {Q : State → Prop} {A : Nat → Prop} (hl : l.stackTraces = false) (D : va_G) (cy : Nat → ClassId) (G : qG p s m args meth c cL_law 8 RL D cy A) (hNs : qNs s) {b Ln : Nat} {xs : Nat → Int32} (hX : va_X b Ln xs s s.heap) (hbl : b < s.heap.size) (hbA : ¬ A b) (hLn : Ln ≤ 2048) (M : qM) (ad : Nat → Nat) (mo qa qb qc qf qt ou : Nat) (σ : qS) (hH : LHf M ad mo qa qb qc qf qt ou σ σ) (hW : WF σ) (i : Int) (hi : 0 ≤ i ∧ i + 4 ≤ Ln) (cs ss : Nat) (hcs : cs + 6 ≤ 642456) (hss : ss + 36 ≤ 7168736) (Hk : ∀ (M' : qM) (σ' : qS) (c' s' : Nat), LHf M' ad mo qa qb qc qf qt ou σ' σ' → WF σ' → c' ≤ cs + 6 → s' ≤ ss + 36 → qK p l e room_1 s m args below meth c Q 8 D cy A c' s' 1060 [(4, .int (qI (i))), (3, .ref ou), (2, .ref mo), (1, .ref (ad 0)), (0, .ref b)] [] M') : qK p l e room_1 s m args below meth c Q 8 D cy A (cs) (ss) 372 [(4, .int (qI (i))), (3, .ref ou), (2, .ref mo), (1, .ref (ad 0)), (0, .ref b)] [] (M) := by
  have hW1 : WF (setU σ 0) := WF_drop hW
  have o0 := CS_x hH.1
  obtain ⟨w1, w2, w3⟩ := WF_n hW
  refine q_aload_n G 3 1 dL_law_372 rfl rfl ?_
  refine q_callV (As := []) (rest := []) G dL_law_373 cw_L_101 (c_X4_drop l D cy M ad hH.1 σ hH.2.1 hW) o0.1 o0.2 (by decide) rfl rfl rfl (Nat.le_of_ble_eq_true rfl) rfl rfl ⟨Nat.le_of_ble_eq_true rfl, Nat.le_of_ble_eq_true rfl⟩ ⟨by show _ ≤ 642456; omega, by show _ ≤ 7168736; omega⟩ (fun v9 M9 hq9 => ?_)
  obtain ⟨I9, L9, R9, rfl, fr9, hC9, hY9, rfl⟩ := hq9
  refine q_st (st2 := [.int (qI (sU σ))]) rfl ?_
  refine q_abs (fun N => LHf N ad mo qa qb qc qf qt ou σ (setU σ 0)) (LH_w hH ⟨I9, L9, R9, rfl, fr9, hC9, hY9, trivial⟩) ?_
  intro N1 hH1
  have oM := hH1.2.2.1.1
  refine q_aload_n G 2 2 dL_law_376 rfl rfl ?_
  refine q_callV (As := []) (rest := [.int (qI (sU σ))]) G dL_law_377 cw_L_105 (c_X5_drop l D cy N1 mo qa qb qc qf qt hH1.2.2.1 σ hH1.2.2.2.1 hW) oM.1 oM.2 (by decide) rfl rfl rfl (Nat.le_of_ble_eq_true rfl) rfl rfl ⟨Nat.le_of_ble_eq_true rfl, Nat.le_of_ble_eq_true rfl⟩ ⟨by show _ ≤ 642456; omega, by show _ ≤ 7168736; omega⟩ (fun v9 M9 hq9 => ?_)
  obtain ⟨I9, L9, rfl, fr9, t9, r9, rfl⟩ := hq9
  refine q_st (st2 := [.int (qI (sU σ)), .int (qI (sU σ))]) rfl ?_
  refine q_abs (fun N => LHf N ad mo qa qb qc qf qt ou (setU σ 0) (setU σ 0)) (LH_r hW1 hH1 fr9 r9) ?_
  intro N2 hH2
  refine q_icmp_eq (tgt := 1060) G dL_law_380 (by decide) (by omega) (by omega) (fun c1 => ?_) (fun c1 => ?_)
  · refine q_lvs [0, 1, 2, 3, 4] rfl ?_
    exact Hk N2 (setU σ 0) _ _ hH2 hW1 (by omega) (by omega)
  · exact absurd rfl c1
set_option maxRecDepth 100000 in
set_option maxHeartbeats 4000000 in
theorem k_rounds {p : Program} {l : Launch} {e : Env} {s : State} {m : MethodId} {args : Array Value} {below : List Frame} {meth : Method} {c : Code} {Q : State → Prop} {A : Nat → Prop} (hl : l.stackTraces = false) (D : va_G) (cy : Nat → ClassId) (G : qG p s m args meth c cL_law 8 RL D cy A) (hNs : qNs s) {b Ln : Nat} {xs : Nat → Int32} (hX : va_X b Ln xs s s.heap) (hbl : b < s.heap.size) (hbA : ¬ A b) (hLn : Ln ≤ 2048) (M : qM) (ad : Nat → Nat) (mo qa qb qc qf qt ou : Nat) (σ : qS) (hH : LHf M ad mo qa qb qc qf qt ou σ σ) (hW : WF σ) (i : Int) (hi : 0 ≤ i ∧ i + 4 ≤ Ln) (cs ss : Nat) (hcs : cs + 6 ≤ 642456) (hss : ss + 36 ≤ 7168736) (Hk : ∀ (M' : qM) (σ' : qS) (c' s' : Nat), LHf M' ad mo qa qb qc qf qt ou σ' σ' → WF σ' → c' ≤ cs + 6 → s' ≤ ss + 36 → qK p l e room_1 s m args below meth c Q 8 D cy A c' s' 1060 [(4, .int (qI (i))), (3, .ref ou), (2, .ref mo), (1, .ref (ad 0)), (0, .ref b)] [] M') : qK p l e room_1 s m args below meth c Q 8 D cy A (cs) (ss) 385 [(4, .int (qI (i))), (3, .ref ou), (2, .ref mo), (1, .ref (ad 0)), (0, .ref b)] [] (M) := by
  have hW1 : WF (σ) := hW
  have o0 := CS_x hH.1
  obtain ⟨w1, w2, w3⟩ := WF_n hW
  refine q_aload_n G 3 1 dL_law_385 rfl rfl ?_
  refine q_callV (As := []) (rest := []) G dL_law_386 cw_L_106 (c_X4_rounds l D cy M ad hH.1 σ hH.2.1 hW) o0.1 o0.2 (by decide) rfl rfl rfl (Nat.le_of_ble_eq_true rfl) rfl rfl ⟨Nat.le_of_ble_eq_true rfl, Nat.le_of_ble_eq_true rfl⟩ ⟨by show _ ≤ 642456; omega, by show _ ≤ 7168736; omega⟩ (fun v9 M9 hq9 => ?_)
  obtain ⟨I9, L9, R9, rfl, fr9, hC9, hY9, rfl⟩ := hq9
  refine q_st (st2 := [.int (qI (sB σ))]) rfl ?_
  refine q_abs (fun N => LHf N ad mo qa qb qc qf qt ou σ (σ)) (LH_w hH ⟨I9, L9, R9, rfl, fr9, hC9, hY9, trivial⟩) ?_
  intro N1 hH1
  have oM := hH1.2.2.1.1
  refine q_aload_n G 2 2 dL_law_389 rfl rfl ?_
  refine q_callV (As := []) (rest := [.int (qI (sB σ))]) G dL_law_390 cw_L_109 (c_X5_rounds l D cy N1 mo qa qb qc qf qt hH1.2.2.1 σ hH1.2.2.2.1 hW) oM.1 oM.2 (by decide) rfl rfl rfl (Nat.le_of_ble_eq_true rfl) rfl rfl ⟨Nat.le_of_ble_eq_true rfl, Nat.le_of_ble_eq_true rfl⟩ ⟨by show _ ≤ 642456; omega, by show _ ≤ 7168736; omega⟩ (fun v9 M9 hq9 => ?_)
  obtain ⟨I9, L9, rfl, fr9, t9, r9, rfl⟩ := hq9
  refine q_st (st2 := [.int (qI (sB σ)), .int (qI (sB σ))]) rfl ?_
  refine q_abs (fun N => LHf N ad mo qa qb qc qf qt ou (σ) (σ)) (LH_r hW1 hH1 fr9 r9) ?_
  intro N2 hH2
  refine q_icmp_eq (tgt := 1060) G dL_law_393 (by decide) (by omega) (by omega) (fun c1 => ?_) (fun c1 => ?_)
  · refine q_lvs [0, 1, 2, 3, 4] rfl ?_
    exact Hk N2 (σ) _ _ hH2 hW1 (by omega) (by omega)
  · exact absurd rfl c1
