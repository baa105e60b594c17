section QJ
variable {p : Program} {l : Launch} {e : Env} {R : Room} {s : State} {m : MethodId} {args : Array Value} {below : List Frame} {meth : Method} {c : Code} {Q : State → Prop}
variable {cc : ByteArray} {nL : Nat} {own : String} {D : va_G} {cy : Nat → ClassId} {A : Nat → Prop} {cells slots : Nat} {pc : Nat} {lv lv' : List (Nat × Value)} {st : List Value} {M : qM}
theorem qAfterY {H : Heap} {locs : List Loc} {ls : Array Slot} {st0 rest : List Value} {mc ms : Nat} {a : Array Value} {Qv : Option Value → qM → Prop} {X : String → qM → Prop} (G : qG p s m args meth c cc nL own D cy A) (hD : va_D A (qW cy M)) (hS : va_S A s.heap H locs) (hL : lv_has ls nL lv)
    (hr : vx_Run p l e R s m args below meth c H locs cells slots mc ms (F0 m pc ls st0) rest (qQ D cy (mP M) Qv a) (qXD D cy (mP M) X) (qA (mP M) H.size))
    (kx : ∀ (E : String) (ce : Cell) (q : Addr) (H1 : Heap) (locs1 : List Loc) (M9 : qM), X E M9 → va_P D vwCl (qW cy M9) H1 → va_D A (qW cy M9) → va_S A s.heap H1 locs1 → H1[q]? = some ce → ce.vm = .none → s.vm.findClass E = some ce.cls → vx_W p l e R s m args below meth c H1 locs1 (cells + mc) (slots + ms) Q (F0 m pc ls rest) q)
    (kk : ∀ v M', Qv v M' → qK p l e R s m args below meth c Q nL D cy A (cells + mc) (slots + ms) (pc + 3) lv (v.toList ++ rest) M') :
    W p l e R s m args below meth c H locs cells slots Q (F0 m pc ls st0) := by
  intro T hT X0
  have hsub := qSub G hD hS
  rcases hr T hT X0 with ⟨v, st₀, t, T', L, h0, X', hLc, e1, e2, ⟨⟨v', M', hv, hq, hP1, hD1⟩, hz, hk⟩, stp⟩ | ⟨q, st₀, t, T', L, E, ce, h0, X', hLc, e1, e2, ⟨M9, hx, hP1, hD9, hz, hk⟩, hce, hcv, hcl, stp⟩
  · cases hv
    rw [h0] at hz hk hD1
    have hS1 : va_S A s.heap T'.heap (locs ++ L) := ⟨Nat.le_trans hS.1 (by rw [e1]; exact hz), fun q h1 h2 => by rw [e1, hk q (Nat.lt_of_lt_of_le h1 hS.1) (fun z => h2 (hsub q z))]; exact hS.2.1 q h1 h2, fun q hq => by
      rcases List.mem_append.mp hq with h | h
      · exact hS.2.2 q h
      · exact hsub _ (hLc q h)⟩
    obtain ⟨t2, a1, b1⟩ := kk v M' hq T'.heap (locs ++ L) ls (by rw [e1]; exact hP1) (hD1.weaken (fun _ q _ h => hsub q.1 h)) hS1 hL T' rfl X'
    exact ⟨t2, stp t2 a1, b1⟩
  · rw [h0] at hz hk hD9
    have hS1 : va_S A s.heap T'.heap (locs ++ L) := ⟨Nat.le_trans hS.1 (by rw [e1]; exact hz), fun q h1 h2 => by rw [e1, hk q (Nat.lt_of_lt_of_le h1 hS.1) (fun z => h2 (hsub q z))]; exact hS.2.1 q h1 h2, fun q hq => by
      rcases List.mem_append.mp hq with h | h
      · exact hS.2.2 q h
      · exact hsub _ (hLc q h)⟩
    obtain ⟨t2, a1, b1⟩ := kx E ce q T'.heap (locs ++ L) M9 hx (by rw [e1]; exact hP1) (hD9.weaken (fun _ q _ h => hsub q.1 h)) hS1 (by rw [e1]; exact hce) hcv hcl T' rfl X'
    exact ⟨t2, stp.trans a1, b1⟩
theorem q_callVY {index ci n b maxL mc ms : Nat} {C : String} {T : u_T} {N : Nat} {y : MethodName} {bytes : ByteArray} {ret : Option FieldType} {rm : Room} {As rest st0 : List Value} {Qv : Option Value → qM → Prop} {X : String → qM → Prop} (G : qG p s m args meth c cc nL own D cy A)
    (hd : decode cc pc = .ok (.invokevirtual index, 3)) (hw : qCV own index C y bytes maxL ret n) (hM : qCy l D cy y bytes maxL ret rm mc ms (.ref b :: As) M Qv X) (hb : b ∈ mP M) (hk : mK M b = ci) (hc6 : ci < 6) (hcl : vwCl[ci]? = some (C, T, N))
    (hst : st0 = As.reverse ++ .ref b :: rest) (hn : As.length = n) (hcat : (rest.map fun v => v.category).sum ≤ 8) (hrc : rm.cells = mc) (hrs : rm.slots = ms) (hR : rm.frames + 1 ≤ R.frames ∧ 8 + (maxL + 11) + rm.locals ≤ R.locals) (hf : cells + mc ≤ R.cells ∧ slots + ms ≤ R.slots)
    (kx : ∀ (E : String) (ce : Cell) (q : Addr) (H1 : Heap) (locs1 : List Loc) (ls : Array Slot) (M9 : qM), X E M9 → va_P D vwCl (qW cy M9) H1 → va_D A (qW cy M9) → va_S A s.heap H1 locs1 → lv_has ls nL lv → H1[q]? = some ce → ce.vm = .none → s.vm.findClass E = some ce.cls → vx_W p l e R s m args below meth c H1 locs1 (cells + mc) (slots + ms) Q (F0 m pc ls rest) q)
    (kk : ∀ v M', Qv v M' → qK p l e R s m args below meth c Q nL D cy A (cells + mc) (slots + ms) (pc + 3) lv (v.toList ++ rest) M') : qK p l e R s m args below meth c Q nL D cy A cells slots pc lv st0 M := by
  intro H locs ls hP hD hS hL
  obtain ⟨⟨w1, w2, w3, w4, w5⟩, hC, hsig⟩ := hw
  obtain ⟨q0, hq⟩ := qW_get (cy := cy) hb
  rw [qC_o hk hc6] at hq
  refine qAfterY G hD hS hL (vx_runV (As := As) (rest := rest) (b := b) (C := C) (Ts := qB) ⟨G.1, G.2.1, G.2.2.1, G.2.2.2.1, G.2.2.2.2.1⟩ (hM H.size) (cwV n G.2.2.2.2.1 (qB_in ?_) rfl hrc hrs ⟨hC, hsig⟩ hR) ⟨qPc_blind _ _ _ _ _, ?_, qPre G hP hD hS (fun q h => qD_in hD h)⟩ rfl hn hL.1 hst (lv_room hcat) hd hf) (fun E ce q H1 locs1 M9 hx h1 hD9 h2 h3 h4 h5 => kx E ce q H1 locs1 ls M9 hx h1 hD9 h2 hL h3 h4 h5) kk
  · intro w h
    unfold wsV at h
    simp only [List.cons_append, List.nil_append, List.mem_cons] at h
    rcases h with rfl | rfl | rfl | rfl | rfl | h
    · exact w1
    · exact w2
    · exact w3
    · exact w4
    · exact w5
    · exact h
  · exact va_recv G.2.2.2.2.2.2.1.1 hP hcl hq
end QJ
set_option maxRecDepth 100000 in
set_option maxHeartbeats 4000000 in
theorem c_L_discriminant (l : Launch) (hl : l.stackTraces = false) (D : va_G) (cy : Nat → ClassId) (M : qM) (ad : Nat → Nat) (hC : CSt M ad) (σ : qS) (hY : CDy σ ad (mI M) (mL M) (mR M)) (hW : WF σ) (n : Int) (hn9 : r32 n) : qCh l D cy yL_discriminant cL_discriminant 3 (some .int) [(0, 5, 8, 13), (0, 5, 11, 15)] { frames := 7, cells := 1, slots := 6, locals := 112 } 1 6 [.ref (ad 0), .int (qI (n))] M (fun v M' => v = some (.int (qI (e_0 σ n))) ∧ poC M ad (if e_0 σ n = 0 then n_0 σ n else σ) (fun _ => True) none M') := by
  refine qCh_of (lv0 := [(0, .ref (ad 0)), (1, .int (qI (n)))]) (by decide) rfl (Nat.le_of_ble_eq_true rfl) ?_
  intro p e s m args below meth c G hNs htab hret
  have o0 := CS_x hC
  have hk_0 : ∀ (q9 : Nat), e_0 σ n = 1 → qK p l e { frames := 7, cells := 1, slots := 6, locals := 112 } s m args below meth c (vx_MQ below (qQ D cy (mP M) (fun v M' => v = some (.int (qI (e_0 σ n))) ∧ poC M ad (if e_0 σ n = 0 then n_0 σ n else σ) (fun _ => True) none M')) (fun _ _ _ => False) args s 1 6 (qA (mP M) s.heap.size)) 3 D cy (qA (mP M) s.heap.size) (0 + 1) (0 + 6) 8 [(0, .ref (ad 0)), (1, .int (qI (n)))] [.ref q9] M := by
    intro q9 he
    refine q_astore_n (lv' := [(2, .ref q9), (0, .ref (ad 0)), (1, .int (qI (n)))]) G 2 dL_discriminant_8 rfl (by decide) rfl ?_
    refine q_iconst G dL_discriminant_9 ?_
    refine q_retX ?_
    exact q_iret G dL_discriminant_10 hret (by omega) (by omega) (⟨by rw [he], by rw [if_neg (by rw [he]; decide)]; exact ⟨mI M, mL M, mR M, rfl, fun _ _ => ⟨rfl, rfl, rfl⟩, hC, hY, trivial⟩⟩)
  have hk_1 : ∀ (q9 : Nat), e_0 σ n = 2 → qK p l e { frames := 7, cells := 1, slots := 6, locals := 112 } s m args below meth c (vx_MQ below (qQ D cy (mP M) (fun v M' => v = some (.int (qI (e_0 σ n))) ∧ poC M ad (if e_0 σ n = 0 then n_0 σ n else σ) (fun _ => True) none M')) (fun _ _ _ => False) args s 1 6 (qA (mP M) s.heap.size)) 3 D cy (qA (mP M) s.heap.size) (0 + 1) (0 + 6) 11 [(0, .ref (ad 0)), (1, .int (qI (n)))] [.ref q9] M := by
    intro q9 he
    refine q_astore_n (lv' := [(2, .ref q9), (0, .ref (ad 0)), (1, .int (qI (n)))]) G 2 dL_discriminant_11 rfl (by decide) rfl ?_
    refine q_iconst G dL_discriminant_12 ?_
    refine q_retX ?_
    exact q_iret G dL_discriminant_13 hret (by omega) (by omega) (⟨by rw [he], by rw [if_neg (by rw [he]; decide)]; exact ⟨mI M, mL M, mR M, rfl, fun _ _ => ⟨rfl, rfl, rfl⟩, hC, hY, trivial⟩⟩)
  refine q_aload_n G 0 0 dL_discriminant_0 rfl rfl ?_
  refine q_iload_n G 1 1 dL_discriminant_1 rfl rfl ?_
  refine q_callVX (As := [.int (qI (n))]) (rest := []) G dL_discriminant_2 cw_L_7 (c_X4_discriminant l hl D cy M ad hC σ hY hW n hn9) o0.1 o0.2 (by decide) rfl rfl rfl (Nat.le_of_ble_eq_true rfl) rfl rfl ⟨Nat.le_of_ble_eq_true rfl, Nat.le_of_ble_eq_true rfl⟩ ⟨by first | decide | (dsimp only; omega), by first | decide | (dsimp only; omega)⟩ (fun E9 ce9 q9 H9 lc9 ls9 hx9 h91 h92 h93 h94 h95 h96 h97 => by rcases hx9 with ⟨rfl, he⟩ | ⟨rfl, he⟩; exact q_catch (E := sIA) (name := sIA) (hh := [(0, 5, 8, 13), (0, 5, 11, 15)]) (pre := []) (x := (0, 5, 8, 13)) (suf := [(0, 5, 11, 15)]) (hp := 8) G htab rfl (fun z hz => by exact absurd hz List.not_mem_nil) rfl (by decide) rfl (by decide +kernel) (by decide +kernel) h91 h92 h93 h94 h95 h96 h97 (hk_0 q9 he); exact q_catch (E := sIS) (name := sIS) (hh := [(0, 5, 8, 13), (0, 5, 11, 15)]) (pre := [(0, 5, 8, 13)]) (x := (0, 5, 11, 15)) (suf := []) (hp := 11) G htab rfl (fun z hz => by rcases List.mem_cons.mp hz with rfl | hz; exact ⟨by decide, sIA, by decide +kernel, hNs (sIS, sIA) (by decide +kernel)⟩; exact absurd hz List.not_mem_nil) rfl (by decide) rfl (by decide +kernel) (by decide +kernel) h91 h92 h93 h94 h95 h96 h97 (hk_1 q9 he)) (fun v9 M9 hq9 => ?_)
  obtain ⟨he, I9, L9, R9, rfl, fr9, hC9, hY9, rfl⟩ := hq9
  refine q_st (st2 := []) rfl ?_
  refine q_goto (tgt := 14) G dL_discriminant_5 (by decide) ?_
  refine q_iconst G dL_discriminant_14 ?_
  refine q_retX ?_
  exact q_iret G dL_discriminant_15 hret (by omega) (by omega) (⟨by rw [he], by rw [if_pos he]; exact ⟨I9, L9, R9, rfl, fr9, hC9, hY9, trivial⟩⟩)
set_option maxRecDepth 100000 in
set_option maxHeartbeats 4000000 in
theorem c_L_begin (l : Launch) (hl : l.stackTraces = false) (D : va_G) (cy : Nat → ClassId) (M : qM) (ad : Nat → Nat) (hC : CSt M ad) (σ : qS) (hY : CDy σ ad (mI M) (mL M) (mR M)) (hW : WF σ) (t : Int) (ht9 : r32 t) (ou : Nat) (hou : qAr M ou 7 1) (hv9 : e_1 σ t = 0 → r32 (a_1 σ)) : qCh l D cy yL_begin cL_begin 4 (some .int) [(0, 9, 12, 15), (0, 9, 15, 13)] { frames := 8, cells := 3, slots := 18, locals := 149 } 3 18 [.ref (ad 0), .int (qI (t)), .ref ou] M (fun v M' => v = some (.int (qI (e_1 σ t))) ∧ ∃ M1, poC M ad (if e_1 σ t = 0 then n_1 σ t else σ) (fun _ => True) none M1 ∧ M' = (if e_1 σ t = 0 then sL M1 ou 0 (a_1 σ) else M1)) := by
  refine qCh_of (lv0 := [(0, .ref (ad 0)), (1, .int (qI (t))), (2, .ref ou)]) (by decide) rfl (Nat.le_of_ble_eq_true rfl) ?_
  intro p e s m args below meth c G hNs htab hret
  have o0 := CS_x hC
  have hk_0 : ∀ (q9 : Nat), e_1 σ t = 1 → qK p l e { frames := 8, cells := 3, slots := 18, locals := 149 } s m args below meth c (vx_MQ below (qQ D cy (mP M) (fun v M' => v = some (.int (qI (e_1 σ t))) ∧ ∃ M1, poC M ad (if e_1 σ t = 0 then n_1 σ t else σ) (fun _ => True) none M1 ∧ M' = (if e_1 σ t = 0 then sL M1 ou 0 (a_1 σ) else M1))) (fun _ _ _ => False) args s 3 18 (qA (mP M) s.heap.size)) 4 D cy (qA (mP M) s.heap.size) (0 + 3) (0 + 18) 12 [(0, .ref (ad 0)), (1, .int (qI (t))), (2, .ref ou)] [.ref q9] M := by
    intro q9 he
    refine q_astore_n (lv' := [(3, .ref q9), (0, .ref (ad 0)), (1, .int (qI (t))), (2, .ref ou)]) G 3 dL_begin_12 rfl (by decide) rfl ?_
    refine q_iconst G dL_begin_13 ?_
    refine q_retX ?_
    exact q_iret G dL_begin_14 hret (by omega) (by omega) (⟨by rw [he], M, by rw [if_neg (by rw [he]; decide)]; exact ⟨mI M, mL M, mR M, rfl, fun _ _ => ⟨rfl, rfl, rfl⟩, hC, hY, trivial⟩, by rw [if_neg (by rw [he]; decide)]⟩)
  have hk_1 : ∀ (q9 : Nat), e_1 σ t = 2 → qK p l e { frames := 8, cells := 3, slots := 18, locals := 149 } s m args below meth c (vx_MQ below (qQ D cy (mP M) (fun v M' => v = some (.int (qI (e_1 σ t))) ∧ ∃ M1, poC M ad (if e_1 σ t = 0 then n_1 σ t else σ) (fun _ => True) none M1 ∧ M' = (if e_1 σ t = 0 then sL M1 ou 0 (a_1 σ) else M1))) (fun _ _ _ => False) args s 3 18 (qA (mP M) s.heap.size)) 4 D cy (qA (mP M) s.heap.size) (0 + 3) (0 + 18) 15 [(0, .ref (ad 0)), (1, .int (qI (t))), (2, .ref ou)] [.ref q9] M := by
    intro q9 he
    refine q_astore_n (lv' := [(3, .ref q9), (0, .ref (ad 0)), (1, .int (qI (t))), (2, .ref ou)]) G 3 dL_begin_15 rfl (by decide) rfl ?_
    refine q_iconst G dL_begin_16 ?_
    refine q_retX ?_
    exact q_iret G dL_begin_17 hret (by omega) (by omega) (⟨by rw [he], M, by rw [if_neg (by rw [he]; decide)]; exact ⟨mI M, mL M, mR M, rfl, fun _ _ => ⟨rfl, rfl, rfl⟩, hC, hY, trivial⟩, by rw [if_neg (by rw [he]; decide)]⟩)
  refine q_aload_n G 2 2 dL_begin_0 rfl rfl ?_
  refine q_iconst G dL_begin_1 ?_
  refine q_aload_n G 0 0 dL_begin_2 rfl rfl ?_
  refine q_iload_n G 1 1 dL_begin_3 rfl rfl ?_
  refine q_callVX (As := [.int (qI (t))]) (rest := [.int (qI (0)), .ref ou]) G dL_begin_4 cw_L_17 (c_X4_begin l hl D cy M ad hC σ hY hW t ht9) o0.1 o0.2 (by decide) rfl rfl rfl (Nat.le_of_ble_eq_true rfl) rfl rfl ⟨Nat.le_of_ble_eq_true rfl, Nat.le_of_ble_eq_true rfl⟩ ⟨by first | decide | (dsimp only; omega), by first | decide | (dsimp only; omega)⟩ (fun E9 ce9 q9 H9 lc9 ls9 hx9 h91 h92 h93 h94 h95 h96 h97 => by rcases hx9 with ⟨rfl, he⟩ | ⟨rfl, he⟩; exact q_catch (E := sIS) (name := sIS) (hh := [(0, 9, 12, 15), (0, 9, 15, 13)]) (pre := []) (x := (0, 9, 12, 15)) (suf := [(0, 9, 15, 13)]) (hp := 12) G htab rfl (fun z hz => by exact absurd hz List.not_mem_nil) rfl (by decide) rfl (by decide +kernel) (by decide +kernel) h91 h92 h93 h94 h95 h96 h97 (hk_0 q9 he); exact q_catch (E := sIA) (name := sIA) (hh := [(0, 9, 12, 15), (0, 9, 15, 13)]) (pre := [(0, 9, 12, 15)]) (x := (0, 9, 15, 13)) (suf := []) (hp := 15) G htab rfl (fun z hz => by rcases List.mem_cons.mp hz with rfl | hz; exact ⟨by decide, sIS, by decide +kernel, hNs (sIA, sIS) (by decide +kernel)⟩; exact absurd hz List.not_mem_nil) rfl (by decide) rfl (by decide +kernel) (by decide +kernel) h91 h92 h93 h94 h95 h96 h97 (hk_1 q9 he)) (fun v9 M9 hq9 => ?_)
  obtain ⟨he, I9, L9, R9, rfl, fr9, hC9, hY9, rfl⟩ := hq9
  refine q_st (st2 := [.int (qI (a_1 σ)), .int (qI (0)), .ref ou]) rfl ?_
  refine q_i2l G dL_begin_7 (hv9 he) ?_
  refine q_lastore G dL_begin_8 hou.1 hou.2.1 (by first | assumption | omega) (show (0) < ((mN M ou : Nat) : Int) by rw [hou.2.2]; omega) (show mN M ou < 2147483648 by rw [hou.2.2]; decide) ?_
  refine q_goto (tgt := 18) G dL_begin_9 (by decide) ?_
  refine q_iconst G dL_begin_18 ?_
  refine q_retX ?_
  exact q_iret G dL_begin_19 hret (by omega) (by omega) (⟨by rw [he], wD M I9 L9 R9, by rw [if_pos he]; exact ⟨I9, L9, R9, rfl, fr9, hC9, hY9, trivial⟩, by rw [if_pos he]; rfl⟩)
set_option maxRecDepth 100000 in
set_option maxHeartbeats 4000000 in
theorem c_L_work (l : Launch) (hl : l.stackTraces = false) (D : va_G) (cy : Nat → ClassId) (M : qM) (ad : Nat → Nat) (hC : CSt M ad) (σ : qS) (hY : CDy σ ad (mI M) (mL M) (mR M)) (hW : WF σ) (n : Int) (hn9 : r32 n) (ou : Nat) (hou : qAr M ou 7 1) (hv9 : e_2 σ n = 0 → r32 (a_2 σ n)) : qCh l D cy yL_work cL_work 4 (some .int) [(0, 9, 12, 15), (0, 9, 15, 13)] { frames := 8, cells := 3, slots := 18, locals := 133 } 3 18 [.ref (ad 0), .int (qI (n)), .ref ou] M (fun v M' => v = some (.int (qI (e_2 σ n))) ∧ ∃ M1, poC M ad (if e_2 σ n = 0 then n_2 σ n else σ) (fun _ => True) none M1 ∧ M' = (if e_2 σ n = 0 then sL M1 ou 0 (a_2 σ n) else M1)) := by
  refine qCh_of (lv0 := [(0, .ref (ad 0)), (1, .int (qI (n))), (2, .ref ou)]) (by decide) rfl (Nat.le_of_ble_eq_true rfl) ?_
  intro p e s m args below meth c G hNs htab hret
  have o0 := CS_x hC
  have hk_0 : ∀ (q9 : Nat), e_2 σ n = 1 → qK p l e { frames := 8, cells := 3, slots := 18, locals := 133 } s m args below meth c (vx_MQ below (qQ D cy (mP M) (fun v M' => v = some (.int (qI (e_2 σ n))) ∧ ∃ M1, poC M ad (if e_2 σ n = 0 then n_2 σ n else σ) (fun _ => True) none M1 ∧ M' = (if e_2 σ n = 0 then sL M1 ou 0 (a_2 σ n) else M1))) (fun _ _ _ => False) args s 3 18 (qA (mP M) s.heap.size)) 4 D cy (qA (mP M) s.heap.size) (0 + 3) (0 + 18) 12 [(0, .ref (ad 0)), (1, .int (qI (n))), (2, .ref ou)] [.ref q9] M := by
    intro q9 he
    refine q_astore_n (lv' := [(3, .ref q9), (0, .ref (ad 0)), (1, .int (qI (n))), (2, .ref ou)]) G 3 dL_work_12 rfl (by decide) rfl ?_
    refine q_iconst G dL_work_13 ?_
    refine q_retX ?_
    exact q_iret G dL_work_14 hret (by omega) (by omega) (⟨by rw [he], M, by rw [if_neg (by rw [he]; decide)]; exact ⟨mI M, mL M, mR M, rfl, fun _ _ => ⟨rfl, rfl, rfl⟩, hC, hY, trivial⟩, by rw [if_neg (by rw [he]; decide)]⟩)
  have hk_1 : ∀ (q9 : Nat), e_2 σ n = 2 → qK p l e { frames := 8, cells := 3, slots := 18, locals := 133 } s m args below meth c (vx_MQ below (qQ D cy (mP M) (fun v M' => v = some (.int (qI (e_2 σ n))) ∧ ∃ M1, poC M ad (if e_2 σ n = 0 then n_2 σ n else σ) (fun _ => True) none M1 ∧ M' = (if e_2 σ n = 0 then sL M1 ou 0 (a_2 σ n) else M1))) (fun _ _ _ => False) args s 3 18 (qA (mP M) s.heap.size)) 4 D cy (qA (mP M) s.heap.size) (0 + 3) (0 + 18) 15 [(0, .ref (ad 0)), (1, .int (qI (n))), (2, .ref ou)] [.ref q9] M := by
    intro q9 he
    refine q_astore_n (lv' := [(3, .ref q9), (0, .ref (ad 0)), (1, .int (qI (n))), (2, .ref ou)]) G 3 dL_work_15 rfl (by decide) rfl ?_
    refine q_iconst G dL_work_16 ?_
    refine q_retX ?_
    exact q_iret G dL_work_17 hret (by omega) (by omega) (⟨by rw [he], M, by rw [if_neg (by rw [he]; decide)]; exact ⟨mI M, mL M, mR M, rfl, fun _ _ => ⟨rfl, rfl, rfl⟩, hC, hY, trivial⟩, by rw [if_neg (by rw [he]; decide)]⟩)
  refine q_aload_n G 2 2 dL_work_0 rfl rfl ?_
  refine q_iconst G dL_work_1 ?_
  refine q_aload_n G 0 0 dL_work_2 rfl rfl ?_
  refine q_iload_n G 1 1 dL_work_3 rfl rfl ?_
  refine q_callVX (As := [.int (qI (n))]) (rest := [.int (qI (0)), .ref ou]) G dL_work_4 cw_L_21 (c_X4_work l hl D cy M ad hC σ hY hW n hn9) o0.1 o0.2 (by decide) rfl rfl rfl (Nat.le_of_ble_eq_true rfl) rfl rfl ⟨Nat.le_of_ble_eq_true rfl, Nat.le_of_ble_eq_true rfl⟩ ⟨by first | decide | (dsimp only; omega), by first | decide | (dsimp only; omega)⟩ (fun E9 ce9 q9 H9 lc9 ls9 hx9 h91 h92 h93 h94 h95 h96 h97 => by rcases hx9 with ⟨rfl, he⟩ | ⟨rfl, he⟩; exact q_catch (E := sIS) (name := sIS) (hh := [(0, 9, 12, 15), (0, 9, 15, 13)]) (pre := []) (x := (0, 9, 12, 15)) (suf := [(0, 9, 15, 13)]) (hp := 12) G htab rfl (fun z hz => by exact absurd hz List.not_mem_nil) rfl (by decide) rfl (by decide +kernel) (by decide +kernel) h91 h92 h93 h94 h95 h96 h97 (hk_0 q9 he); exact q_catch (E := sIA) (name := sIA) (hh := [(0, 9, 12, 15), (0, 9, 15, 13)]) (pre := [(0, 9, 12, 15)]) (x := (0, 9, 15, 13)) (suf := []) (hp := 15) G htab rfl (fun z hz => by rcases List.mem_cons.mp hz with rfl | hz; exact ⟨by decide, sIS, by decide +kernel, hNs (sIA, sIS) (by decide +kernel)⟩; exact absurd hz List.not_mem_nil) rfl (by decide) rfl (by decide +kernel) (by decide +kernel) h91 h92 h93 h94 h95 h96 h97 (hk_1 q9 he)) (fun v9 M9 hq9 => ?_)
  obtain ⟨he, I9, L9, R9, rfl, fr9, hC9, hY9, rfl⟩ := hq9
  refine q_st (st2 := [.int (qI (a_2 σ n)), .int (qI (0)), .ref ou]) rfl ?_
  refine q_i2l G dL_work_7 (hv9 he) ?_
  refine q_lastore G dL_work_8 hou.1 hou.2.1 (by first | assumption | omega) (show (0) < ((mN M ou : Nat) : Int) by rw [hou.2.2]; omega) (show mN M ou < 2147483648 by rw [hou.2.2]; decide) ?_
  refine q_goto (tgt := 18) G dL_work_9 (by decide) ?_
  refine q_iconst G dL_work_18 ?_
  refine q_retX ?_
  exact q_iret G dL_work_19 hret (by omega) (by omega) (⟨by rw [he], wD M I9 L9 R9, by rw [if_pos he]; exact ⟨I9, L9, R9, rfl, fr9, hC9, hY9, trivial⟩, by rw [if_pos he]; rfl⟩)
set_option maxRecDepth 100000 in
set_option maxHeartbeats 4000000 in
theorem c_L_prove (l : Launch) (hl : l.stackTraces = false) (D : va_G) (cy : Nat → ClassId) (M : qM) (ad : Nat → Nat) (hC : CSt M ad) (σ : qS) (hY : CDy σ ad (mI M) (mL M) (mR M)) (hW : WF σ) (n : Int) (hn9 : r32 n) (ou : Nat) (hou : qAr M ou 7 1) (hv9 : e_3 σ n = 0 → r32 (a_3 σ n)) : qCh l D cy yL_prove cL_prove 4 (some .int) [(0, 9, 12, 15), (0, 9, 15, 13)] { frames := 8, cells := 3, slots := 18, locals := 147 } 3 18 [.ref (ad 0), .int (qI (n)), .ref ou] M (fun v M' => v = some (.int (qI (e_3 σ n))) ∧ ∃ M1, poC M ad (if e_3 σ n = 0 then n_3 σ n else σ) (fun _ => True) none M1 ∧ M' = (if e_3 σ n = 0 then sL M1 ou 0 (a_3 σ n) else M1)) := by
  refine qCh_of (lv0 := [(0, .ref (ad 0)), (1, .int (qI (n))), (2, .ref ou)]) (by decide) rfl (Nat.le_of_ble_eq_true rfl) ?_
  intro p e s m args below meth c G hNs htab hret
  have o0 := CS_x hC
  have hk_0 : ∀ (q9 : Nat), e_3 σ n = 1 → qK p l e { frames := 8, cells := 3, slots := 18, locals := 147 } s m args below meth c (vx_MQ below (qQ D cy (mP M) (fun v M' => v = some (.int (qI (e_3 σ n))) ∧ ∃ M1, poC M ad (if e_3 σ n = 0 then n_3 σ n else σ) (fun _ => True) none M1 ∧ M' = (if e_3 σ n = 0 then sL M1 ou 0 (a_3 σ n) else M1))) (fun _ _ _ => False) args s 3 18 (qA (mP M) s.heap.size)) 4 D cy (qA (mP M) s.heap.size) (0 + 3) (0 + 18) 12 [(0, .ref (ad 0)), (1, .int (qI (n))), (2, .ref ou)] [.ref q9] M := by
    intro q9 he
    refine q_astore_n (lv' := [(3, .ref q9), (0, .ref (ad 0)), (1, .int (qI (n))), (2, .ref ou)]) G 3 dL_prove_12 rfl (by decide) rfl ?_
    refine q_iconst G dL_prove_13 ?_
    refine q_retX ?_
    exact q_iret G dL_prove_14 hret (by omega) (by omega) (⟨by rw [he], M, by rw [if_neg (by rw [he]; decide)]; exact ⟨mI M, mL M, mR M, rfl, fun _ _ => ⟨rfl, rfl, rfl⟩, hC, hY, trivial⟩, by rw [if_neg (by rw [he]; decide)]⟩)
  have hk_1 : ∀ (q9 : Nat), e_3 σ n = 2 → qK p l e { frames := 8, cells := 3, slots := 18, locals := 147 } s m args below meth c (vx_MQ below (qQ D cy (mP M) (fun v M' => v = some (.int (qI (e_3 σ n))) ∧ ∃ M1, poC M ad (if e_3 σ n = 0 then n_3 σ n else σ) (fun _ => True) none M1 ∧ M' = (if e_3 σ n = 0 then sL M1 ou 0 (a_3 σ n) else M1))) (fun _ _ _ => False) args s 3 18 (qA (mP M) s.heap.size)) 4 D cy (qA (mP M) s.heap.size) (0 + 3) (0 + 18) 15 [(0, .ref (ad 0)), (1, .int (qI (n))), (2, .ref ou)] [.ref q9] M := by
    intro q9 he
    refine q_astore_n (lv' := [(3, .ref q9), (0, .ref (ad 0)), (1, .int (qI (n))), (2, .ref ou)]) G 3 dL_prove_15 rfl (by decide) rfl ?_
    refine q_iconst G dL_prove_16 ?_
    refine q_retX ?_
    exact q_iret G dL_prove_17 hret (by omega) (by omega) (⟨by rw [he], M, by rw [if_neg (by rw [he]; decide)]; exact ⟨mI M, mL M, mR M, rfl, fun _ _ => ⟨rfl, rfl, rfl⟩, hC, hY, trivial⟩, by rw [if_neg (by rw [he]; decide)]⟩)
  refine q_aload_n G 2 2 dL_prove_0 rfl rfl ?_
  refine q_iconst G dL_prove_1 ?_
  refine q_aload_n G 0 0 dL_prove_2 rfl rfl ?_
  refine q_iload_n G 1 1 dL_prove_3 rfl rfl ?_
  refine q_callVX (As := [.int (qI (n))]) (rest := [.int (qI (0)), .ref ou]) G dL_prove_4 cw_L_24 (c_X4_prove l hl D cy M ad hC σ hY hW n hn9) o0.1 o0.2 (by decide) rfl rfl rfl (Nat.le_of_ble_eq_true rfl) rfl rfl ⟨Nat.le_of_ble_eq_true rfl, Nat.le_of_ble_eq_true rfl⟩ ⟨by first | decide | (dsimp only; omega), by first | decide | (dsimp only; omega)⟩ (fun E9 ce9 q9 H9 lc9 ls9 hx9 h91 h92 h93 h94 h95 h96 h97 => by rcases hx9 with ⟨rfl, he⟩ | ⟨rfl, he⟩; exact q_catch (E := sIS) (name := sIS) (hh := [(0, 9, 12, 15), (0, 9, 15, 13)]) (pre := []) (x := (0, 9, 12, 15)) (suf := [(0, 9, 15, 13)]) (hp := 12) G htab rfl (fun z hz => by exact absurd hz List.not_mem_nil) rfl (by decide) rfl (by decide +kernel) (by decide +kernel) h91 h92 h93 h94 h95 h96 h97 (hk_0 q9 he); exact q_catch (E := sIA) (name := sIA) (hh := [(0, 9, 12, 15), (0, 9, 15, 13)]) (pre := [(0, 9, 12, 15)]) (x := (0, 9, 15, 13)) (suf := []) (hp := 15) G htab rfl (fun z hz => by rcases List.mem_cons.mp hz with rfl | hz; exact ⟨by decide, sIS, by decide +kernel, hNs (sIA, sIS) (by decide +kernel)⟩; exact absurd hz List.not_mem_nil) rfl (by decide) rfl (by decide +kernel) (by decide +kernel) h91 h92 h93 h94 h95 h96 h97 (hk_1 q9 he)) (fun v9 M9 hq9 => ?_)
  obtain ⟨he, I9, L9, R9, rfl, fr9, hC9, hY9, rfl⟩ := hq9
  refine q_st (st2 := [.int (qI (a_3 σ n)), .int (qI (0)), .ref ou]) rfl ?_
  refine q_i2l G dL_prove_7 (hv9 he) ?_
  refine q_lastore G dL_prove_8 hou.1 hou.2.1 (by first | assumption | omega) (show (0) < ((mN M ou : Nat) : Int) by rw [hou.2.2]; omega) (show mN M ou < 2147483648 by rw [hou.2.2]; decide) ?_
  refine q_goto (tgt := 18) G dL_prove_9 (by decide) ?_
  refine q_iconst G dL_prove_18 ?_
  refine q_retX ?_
  exact q_iret G dL_prove_19 hret (by omega) (by omega) (⟨by rw [he], wD M I9 L9 R9, by rw [if_pos he]; exact ⟨I9, L9, R9, rfl, fr9, hC9, hY9, trivial⟩, by rw [if_pos he]; rfl⟩)
set_option maxRecDepth 100000 in
set_option maxHeartbeats 4000000 in
theorem c_L_publish (l : Launch) (hl : l.stackTraces = false) (D : va_G) (cy : Nat → ClassId) (M : qM) (ad : Nat → Nat) (hC : CSt M ad) (σ : qS) (hY : CDy σ ad (mI M) (mL M) (mR M)) (hW : WF σ) (ou : Nat) (hou : qAr M ou 7 1) (hv9 : e_4 σ = 0 → r32 (a_4 σ)) : qCh l D cy yL_publish cL_publish 3 (some .int) [(0, 8, 11, 15)] { frames := 8, cells := 2, slots := 12, locals := 130 } 2 12 [.ref (ad 0), .ref ou] M (fun v M' => v = some (.int (qI (e_4 σ))) ∧ ∃ M1, poC M ad (if e_4 σ = 0 then n_4 σ else σ) (fun _ => True) none M1 ∧ M' = (if e_4 σ = 0 then sL M1 ou 0 (a_4 σ) else M1)) := by
  refine qCh_of (lv0 := [(0, .ref (ad 0)), (1, .ref ou)]) (by decide) rfl (Nat.le_of_ble_eq_true rfl) ?_
  intro p e s m args below meth c G hNs htab hret
  have o0 := CS_x hC
  have hk_0 : ∀ (q9 : Nat), e_4 σ = 1 → qK p l e { frames := 8, cells := 2, slots := 12, locals := 130 } s m args below meth c (vx_MQ below (qQ D cy (mP M) (fun v M' => v = some (.int (qI (e_4 σ))) ∧ ∃ M1, poC M ad (if e_4 σ = 0 then n_4 σ else σ) (fun _ => True) none M1 ∧ M' = (if e_4 σ = 0 then sL M1 ou 0 (a_4 σ) else M1))) (fun _ _ _ => False) args s 2 12 (qA (mP M) s.heap.size)) 3 D cy (qA (mP M) s.heap.size) (0 + 2) (0 + 12) 11 [(0, .ref (ad 0)), (1, .ref ou)] [.ref q9] M := by
    intro q9 he
    refine q_astore_n (lv' := [(2, .ref q9), (0, .ref (ad 0)), (1, .ref ou)]) G 2 dL_publish_11 rfl (by decide) rfl ?_
    refine q_iconst G dL_publish_12 ?_
    refine q_retX ?_
    exact q_iret G dL_publish_13 hret (by omega) (by omega) (⟨by rw [he], M, by rw [if_neg (by rw [he]; decide)]; exact ⟨mI M, mL M, mR M, rfl, fun _ _ => ⟨rfl, rfl, rfl⟩, hC, hY, trivial⟩, by rw [if_neg (by rw [he]; decide)]⟩)
  refine q_aload_n G 1 1 dL_publish_0 rfl rfl ?_
  refine q_iconst G dL_publish_1 ?_
  refine q_aload_n G 0 0 dL_publish_2 rfl rfl ?_
  refine q_callVX (As := []) (rest := [.int (qI (0)), .ref ou]) G dL_publish_3 cw_L_27 (c_X4_publish l hl D cy M ad hC σ hY hW) o0.1 o0.2 (by decide) rfl rfl rfl (Nat.le_of_ble_eq_true rfl) rfl rfl ⟨Nat.le_of_ble_eq_true rfl, Nat.le_of_ble_eq_true rfl⟩ ⟨by first | decide | (dsimp only; omega), by first | decide | (dsimp only; omega)⟩ (fun E9 ce9 q9 H9 lc9 ls9 hx9 h91 h92 h93 h94 h95 h96 h97 => by obtain ⟨rfl, he⟩ := hx9; exact q_catch (E := sIS) (name := sIS) (hh := [(0, 8, 11, 15)]) (pre := []) (x := (0, 8, 11, 15)) (suf := []) (hp := 11) G htab rfl (fun z hz => by exact absurd hz List.not_mem_nil) rfl (by decide) rfl (by decide +kernel) (by decide +kernel) h91 h92 h93 h94 h95 h96 h97 (hk_0 q9 he)) (fun v9 M9 hq9 => ?_)
  obtain ⟨he, I9, L9, R9, rfl, fr9, hC9, hY9, rfl⟩ := hq9
  refine q_st (st2 := [.int (qI (a_4 σ)), .int (qI (0)), .ref ou]) rfl ?_
  refine q_i2l G dL_publish_6 (hv9 he) ?_
  refine q_lastore G dL_publish_7 hou.1 hou.2.1 (by first | assumption | omega) (show (0) < ((mN M ou : Nat) : Int) by rw [hou.2.2]; omega) (show mN M ou < 2147483648 by rw [hou.2.2]; decide) ?_
  refine q_goto (tgt := 14) G dL_publish_8 (by decide) ?_
  refine q_iconst G dL_publish_14 ?_
  refine q_retX ?_
  exact q_iret G dL_publish_15 hret (by omega) (by omega) (⟨by rw [he], wD M I9 L9 R9, by rw [if_pos he]; exact ⟨I9, L9, R9, rfl, fr9, hC9, hY9, trivial⟩, by rw [if_pos he]; rfl⟩)
set_option maxRecDepth 100000 in
set_option maxHeartbeats 4000000 in
theorem c_L_told (l : Launch) (hl : l.stackTraces = false) (D : va_G) (cy : Nat → ClassId) (M : qM) (ad : Nat → Nat) (hC : CSt M ad) (σ : qS) (hY : CDy σ ad (mI M) (mL M) (mR M)) (hW : WF σ) (r : Int) (k : Int) (hr9 : r32 r) (hk9 : r32 k) (ou : Nat) (hou : qAr M ou 7 1) (hv9 : e_7 σ r k = 0 → r32 (a_7 σ r k)) : qCh l D cy yL_told cL_told 5 (some .int) [(0, 10, 13, 15), (0, 10, 17, 35)] { frames := 9, cells := 3, slots := 18, locals := 155 } 3 18 [.ref (ad 0), .int (qI (r)), .int (qI (k)), .ref ou] M (fun v M' => v = some (.int (qI (e_7 σ r k))) ∧ ∃ M1, poC M ad (if e_7 σ r k = 0 then σ else σ) (fun _ => True) none M1 ∧ M' = (if e_7 σ r k = 0 then sL M1 ou 0 (a_7 σ r k) else M1)) := by
  refine qCh_of (lv0 := [(0, .ref (ad 0)), (1, .int (qI (r))), (2, .int (qI (k))), (3, .ref ou)]) (by decide) rfl (Nat.le_of_ble_eq_true rfl) ?_
  intro p e s m args below meth c G hNs htab hret
  have o0 := CS_x hC
  have hk_0 : ∀ (q9 : Nat), e_7 σ r k = 1 → qK p l e { frames := 9, cells := 3, slots := 18, locals := 155 } s m args below meth c (vx_MQ below (qQ D cy (mP M) (fun v M' => v = some (.int (qI (e_7 σ r k))) ∧ ∃ M1, poC M ad (if e_7 σ r k = 0 then σ else σ) (fun _ => True) none M1 ∧ M' = (if e_7 σ r k = 0 then sL M1 ou 0 (a_7 σ r k) else M1))) (fun _ _ _ => False) args s 3 18 (qA (mP M) s.heap.size)) 5 D cy (qA (mP M) s.heap.size) (0 + 3) (0 + 18) 13 [(0, .ref (ad 0)), (1, .int (qI (r))), (2, .int (qI (k))), (3, .ref ou)] [.ref q9] M := by
    intro q9 he
    refine q_astore (lv' := [(4, .ref q9), (0, .ref (ad 0)), (1, .int (qI (r))), (2, .int (qI (k))), (3, .ref ou)]) G dL_told_13 (by decide) rfl ?_
    refine q_iconst G dL_told_15 ?_
    refine q_retX ?_
    exact q_iret G dL_told_16 hret (by omega) (by omega) (⟨by rw [he], M, by rw [if_neg (by rw [he]; decide)]; exact ⟨mI M, mL M, mR M, rfl, fun _ _ => ⟨rfl, rfl, rfl⟩, hC, hY, trivial⟩, by rw [if_neg (by rw [he]; decide)]⟩)
  have hk_1 : ∀ (q9 : Nat), e_7 σ r k = 2 → qK p l e { frames := 9, cells := 3, slots := 18, locals := 155 } s m args below meth c (vx_MQ below (qQ D cy (mP M) (fun v M' => v = some (.int (qI (e_7 σ r k))) ∧ ∃ M1, poC M ad (if e_7 σ r k = 0 then σ else σ) (fun _ => True) none M1 ∧ M' = (if e_7 σ r k = 0 then sL M1 ou 0 (a_7 σ r k) else M1))) (fun _ _ _ => False) args s 3 18 (qA (mP M) s.heap.size)) 5 D cy (qA (mP M) s.heap.size) (0 + 3) (0 + 18) 17 [(0, .ref (ad 0)), (1, .int (qI (r))), (2, .int (qI (k))), (3, .ref ou)] [.ref q9] M := by
    intro q9 he
    refine q_astore (lv' := [(4, .ref q9), (0, .ref (ad 0)), (1, .int (qI (r))), (2, .int (qI (k))), (3, .ref ou)]) G dL_told_17 (by decide) rfl ?_
    refine q_iconst G dL_told_19 ?_
    refine q_retX ?_
    exact q_iret G dL_told_20 hret (by omega) (by omega) (⟨by rw [he], M, by rw [if_neg (by rw [he]; decide)]; exact ⟨mI M, mL M, mR M, rfl, fun _ _ => ⟨rfl, rfl, rfl⟩, hC, hY, trivial⟩, by rw [if_neg (by rw [he]; decide)]⟩)
  refine q_aload_n G 3 3 dL_told_0 rfl rfl ?_
  refine q_iconst G dL_told_1 ?_
  refine q_aload_n G 0 0 dL_told_2 rfl rfl ?_
  refine q_iload_n G 1 1 dL_told_3 rfl rfl ?_
  refine q_iload_n G 2 2 dL_told_4 rfl rfl ?_
  refine q_callVX (As := [.int (qI (r)), .int (qI (k))]) (rest := [.int (qI (0)), .ref ou]) G dL_told_5 cw_L_31 (c_X4_told l hl D cy M ad hC σ hY hW r k hr9 hk9) o0.1 o0.2 (by decide) rfl rfl rfl (Nat.le_of_ble_eq_true rfl) rfl rfl ⟨Nat.le_of_ble_eq_true rfl, Nat.le_of_ble_eq_true rfl⟩ ⟨by first | decide | (dsimp only; omega), by first | decide | (dsimp only; omega)⟩ (fun E9 ce9 q9 H9 lc9 ls9 hx9 h91 h92 h93 h94 h95 h96 h97 => by rcases hx9 with ⟨rfl, he⟩ | ⟨rfl, he⟩; exact q_catch (E := sIS) (name := sIS) (hh := [(0, 10, 13, 15), (0, 10, 17, 35)]) (pre := []) (x := (0, 10, 13, 15)) (suf := [(0, 10, 17, 35)]) (hp := 13) G htab rfl (fun z hz => by exact absurd hz List.not_mem_nil) rfl (by decide) rfl (by decide +kernel) (by decide +kernel) h91 h92 h93 h94 h95 h96 h97 (hk_0 q9 he); exact q_catch (E := sIO) (name := sIO) (hh := [(0, 10, 13, 15), (0, 10, 17, 35)]) (pre := [(0, 10, 13, 15)]) (x := (0, 10, 17, 35)) (suf := []) (hp := 17) G htab rfl (fun z hz => by rcases List.mem_cons.mp hz with rfl | hz; exact ⟨by decide, sIS, by decide +kernel, hNs (sIO, sIS) (by decide +kernel)⟩; exact absurd hz List.not_mem_nil) rfl (by decide) rfl (by decide +kernel) (by decide +kernel) h91 h92 h93 h94 h95 h96 h97 (hk_1 q9 he)) (fun v9 M9 hq9 => ?_)
  obtain ⟨he, I9, L9, R9, rfl, fr9, hC9, hY9, rfl⟩ := hq9
  refine q_st (st2 := [.int (qI (a_7 σ r k)), .int (qI (0)), .ref ou]) rfl ?_
  refine q_i2l G dL_told_8 (hv9 he) ?_
  refine q_lastore G dL_told_9 hou.1 hou.2.1 (by first | assumption | omega) (show (0) < ((mN M ou : Nat) : Int) by rw [hou.2.2]; omega) (show mN M ou < 2147483648 by rw [hou.2.2]; decide) ?_
  refine q_goto (tgt := 21) G dL_told_10 (by decide) ?_
  refine q_iconst G dL_told_21 ?_
  refine q_retX ?_
  exact q_iret G dL_told_22 hret (by omega) (by omega) (⟨by rw [he], wD M I9 L9 R9, by rw [if_pos he]; exact ⟨I9, L9, R9, rfl, fr9, hC9, hY9, trivial⟩, by rw [if_pos he]; rfl⟩)
set_option maxRecDepth 100000 in
set_option maxHeartbeats 4000000 in
theorem c_L_form (l : Launch) (hl : l.stackTraces = false) (D : va_G) (cy : Nat → ClassId) (M : qM) (ad : Nat → Nat) (hC : CSt M ad) (σ : qS) (hY : CDy σ ad (mI M) (mL M) (mR M)) (hW : WF σ) (r : Int) (k : Int) (x : Int) (hr9 : r32 r) (hk9 : r32 k) (hx9 : r32 x) (ou : Nat) (hou : qAr M ou 7 1) (hv9 : e_8 σ r k x = 0 → r32 (a_8 σ r k x)) : qCh l D cy yL_form cL_form 6 (some .int) [(0, 12, 15, 15), (0, 12, 19, 35)] { frames := 9, cells := 4, slots := 24, locals := 156 } 4 24 [.ref (ad 0), .int (qI (r)), .int (qI (k)), .int (qI (x)), .ref ou] M (fun v M' => v = some (.int (qI (e_8 σ r k x))) ∧ ∃ M1, poC M ad (if e_8 σ r k x = 0 then σ else σ) (fun _ => True) none M1 ∧ M' = (if e_8 σ r k x = 0 then sL M1 ou 0 (a_8 σ r k x) else M1)) := by
  refine qCh_of (lv0 := [(0, .ref (ad 0)), (1, .int (qI (r))), (2, .int (qI (k))), (3, .int (qI (x))), (4, .ref ou)]) (by decide) rfl (Nat.le_of_ble_eq_true rfl) ?_
  intro p e s m args below meth c G hNs htab hret
  have o0 := CS_x hC
  have hk_0 : ∀ (q9 : Nat), e_8 σ r k x = 1 → qK p l e { frames := 9, cells := 4, slots := 24, locals := 156 } s m args below meth c (vx_MQ below (qQ D cy (mP M) (fun v M' => v = some (.int (qI (e_8 σ r k x))) ∧ ∃ M1, poC M ad (if e_8 σ r k x = 0 then σ else σ) (fun _ => True) none M1 ∧ M' = (if e_8 σ r k x = 0 then sL M1 ou 0 (a_8 σ r k x) else M1))) (fun _ _ _ => False) args s 4 24 (qA (mP M) s.heap.size)) 6 D cy (qA (mP M) s.heap.size) (0 + 4) (0 + 24) 15 [(0, .ref (ad 0)), (1, .int (qI (r))), (2, .int (qI (k))), (3, .int (qI (x))), (4, .ref ou)] [.ref q9] M := by
    intro q9 he
    refine q_astore (lv' := [(5, .ref q9), (0, .ref (ad 0)), (1, .int (qI (r))), (2, .int (qI (k))), (3, .int (qI (x))), (4, .ref ou)]) G dL_form_15 (by decide) rfl ?_
    refine q_iconst G dL_form_17 ?_
    refine q_retX ?_
    exact q_iret G dL_form_18 hret (by omega) (by omega) (⟨by rw [he], M, by rw [if_neg (by rw [he]; decide)]; exact ⟨mI M, mL M, mR M, rfl, fun _ _ => ⟨rfl, rfl, rfl⟩, hC, hY, trivial⟩, by rw [if_neg (by rw [he]; decide)]⟩)
  have hk_1 : ∀ (q9 : Nat), e_8 σ r k x = 2 → qK p l e { frames := 9, cells := 4, slots := 24, locals := 156 } s m args below meth c (vx_MQ below (qQ D cy (mP M) (fun v M' => v = some (.int (qI (e_8 σ r k x))) ∧ ∃ M1, poC M ad (if e_8 σ r k x = 0 then σ else σ) (fun _ => True) none M1 ∧ M' = (if e_8 σ r k x = 0 then sL M1 ou 0 (a_8 σ r k x) else M1))) (fun _ _ _ => False) args s 4 24 (qA (mP M) s.heap.size)) 6 D cy (qA (mP M) s.heap.size) (0 + 4) (0 + 24) 19 [(0, .ref (ad 0)), (1, .int (qI (r))), (2, .int (qI (k))), (3, .int (qI (x))), (4, .ref ou)] [.ref q9] M := by
    intro q9 he
    refine q_astore (lv' := [(5, .ref q9), (0, .ref (ad 0)), (1, .int (qI (r))), (2, .int (qI (k))), (3, .int (qI (x))), (4, .ref ou)]) G dL_form_19 (by decide) rfl ?_
    refine q_iconst G dL_form_21 ?_
    refine q_retX ?_
    exact q_iret G dL_form_22 hret (by omega) (by omega) (⟨by rw [he], M, by rw [if_neg (by rw [he]; decide)]; exact ⟨mI M, mL M, mR M, rfl, fun _ _ => ⟨rfl, rfl, rfl⟩, hC, hY, trivial⟩, by rw [if_neg (by rw [he]; decide)]⟩)
  refine q_aload G 4 dL_form_0 rfl ?_
  refine q_iconst G dL_form_2 ?_
  refine q_aload_n G 0 0 dL_form_3 rfl rfl ?_
  refine q_iload_n G 1 1 dL_form_4 rfl rfl ?_
  refine q_iload_n G 2 2 dL_form_5 rfl rfl ?_
  refine q_iload_n G 3 3 dL_form_6 rfl rfl ?_
  refine q_callVX (As := [.int (qI (r)), .int (qI (k)), .int (qI (x))]) (rest := [.int (qI (0)), .ref ou]) G dL_form_7 cw_L_37 (c_X4_form l hl D cy M ad hC σ hY hW r k x hr9 hk9 hx9) o0.1 o0.2 (by decide) rfl rfl rfl (Nat.le_of_ble_eq_true rfl) rfl rfl ⟨Nat.le_of_ble_eq_true rfl, Nat.le_of_ble_eq_true rfl⟩ ⟨by first | decide | (dsimp only; omega), by first | decide | (dsimp only; omega)⟩ (fun E9 ce9 q9 H9 lc9 ls9 hx9 h91 h92 h93 h94 h95 h96 h97 => by rcases hx9 with ⟨rfl, he⟩ | ⟨rfl, he⟩; exact q_catch (E := sIS) (name := sIS) (hh := [(0, 12, 15, 15), (0, 12, 19, 35)]) (pre := []) (x := (0, 12, 15, 15)) (suf := [(0, 12, 19, 35)]) (hp := 15) G htab rfl (fun z hz => by exact absurd hz List.not_mem_nil) rfl (by decide) rfl (by decide +kernel) (by decide +kernel) h91 h92 h93 h94 h95 h96 h97 (hk_0 q9 he); exact q_catch (E := sIO) (name := sIO) (hh := [(0, 12, 15, 15), (0, 12, 19, 35)]) (pre := [(0, 12, 15, 15)]) (x := (0, 12, 19, 35)) (suf := []) (hp := 19) G htab rfl (fun z hz => by rcases List.mem_cons.mp hz with rfl | hz; exact ⟨by decide, sIS, by decide +kernel, hNs (sIO, sIS) (by decide +kernel)⟩; exact absurd hz List.not_mem_nil) rfl (by decide) rfl (by decide +kernel) (by decide +kernel) h91 h92 h93 h94 h95 h96 h97 (hk_1 q9 he)) (fun v9 M9 hq9 => ?_)
  obtain ⟨he, I9, L9, R9, rfl, fr9, hC9, hY9, rfl⟩ := hq9
  refine q_st (st2 := [.int (qI (a_8 σ r k x)), .int (qI (0)), .ref ou]) rfl ?_
  refine q_i2l G dL_form_10 (hv9 he) ?_
  refine q_lastore G dL_form_11 hou.1 hou.2.1 (by first | assumption | omega) (show (0) < ((mN M ou : Nat) : Int) by rw [hou.2.2]; omega) (show mN M ou < 2147483648 by rw [hou.2.2]; decide) ?_
  refine q_goto (tgt := 23) G dL_form_12 (by decide) ?_
  refine q_iconst G dL_form_23 ?_
  refine q_retX ?_
  exact q_iret G dL_form_24 hret (by omega) (by omega) (⟨by rw [he], wD M I9 L9 R9, by rw [if_pos he]; exact ⟨I9, L9, R9, rfl, fr9, hC9, hY9, trivial⟩, by rw [if_pos he]; rfl⟩)
set_option maxRecDepth 100000 in
set_option maxHeartbeats 4000000 in
theorem c_L_verify (l : Launch) (hl : l.stackTraces = false) (D : va_G) (cy : Nat → ClassId) (M : qM) (ad : Nat → Nat) (hC : CSt M ad) (σ : qS) (hY : CDy σ ad (mI M) (mL M) (mR M)) (hW : WF σ) (r : Int) (hr9 : r32 r) (ou : Nat) (hou : qAr M ou 7 1) : qCh l D cy yL_verify cL_verify 4 (some .int) [(0, 16, 19, 15), (0, 16, 22, 35)] { frames := 8, cells := 2, slots := 12, locals := 174 } 2 12 [.ref (ad 0), .int (qI (r)), .ref ou] M (fun v M' => v = some (.int (qI (e_9 σ r))) ∧ ∃ M1, poC M ad (if e_9 σ r = 0 then σ else σ) (fun _ => True) none M1 ∧ M' = (if e_9 σ r = 0 then sL M1 ou 0 (a_9 σ r) else M1)) := by
  refine qCh_of (lv0 := [(0, .ref (ad 0)), (1, .int (qI (r))), (2, .ref ou)]) (by decide) rfl (Nat.le_of_ble_eq_true rfl) ?_
  intro p e s m args below meth c G hNs htab hret
  have o0 := CS_x hC
  have hk_0 : ∀ (q9 : Nat), e_9 σ r = 1 → qK p l e { frames := 8, cells := 2, slots := 12, locals := 174 } s m args below meth c (vx_MQ below (qQ D cy (mP M) (fun v M' => v = some (.int (qI (e_9 σ r))) ∧ ∃ M1, poC M ad (if e_9 σ r = 0 then σ else σ) (fun _ => True) none M1 ∧ M' = (if e_9 σ r = 0 then sL M1 ou 0 (a_9 σ r) else M1))) (fun _ _ _ => False) args s 2 12 (qA (mP M) s.heap.size)) 4 D cy (qA (mP M) s.heap.size) (0 + 2) (0 + 12) 19 [(0, .ref (ad 0)), (1, .int (qI (r))), (2, .ref ou)] [.ref q9] M := by
    intro q9 he
    refine q_astore_n (lv' := [(3, .ref q9), (0, .ref (ad 0)), (1, .int (qI (r))), (2, .ref ou)]) G 3 dL_verify_19 rfl (by decide) rfl ?_
    refine q_iconst G dL_verify_20 ?_
    refine q_retX ?_
    exact q_iret G dL_verify_21 hret (by omega) (by omega) (⟨by rw [he], M, by rw [if_neg (by rw [he]; decide)]; exact ⟨mI M, mL M, mR M, rfl, fun _ _ => ⟨rfl, rfl, rfl⟩, hC, hY, trivial⟩, by rw [if_neg (by rw [he]; decide)]⟩)
  have hk_1 : ∀ (q9 : Nat), e_9 σ r = 2 → qK p l e { frames := 8, cells := 2, slots := 12, locals := 174 } s m args below meth c (vx_MQ below (qQ D cy (mP M) (fun v M' => v = some (.int (qI (e_9 σ r))) ∧ ∃ M1, poC M ad (if e_9 σ r = 0 then σ else σ) (fun _ => True) none M1 ∧ M' = (if e_9 σ r = 0 then sL M1 ou 0 (a_9 σ r) else M1))) (fun _ _ _ => False) args s 2 12 (qA (mP M) s.heap.size)) 4 D cy (qA (mP M) s.heap.size) (0 + 2) (0 + 12) 22 [(0, .ref (ad 0)), (1, .int (qI (r))), (2, .ref ou)] [.ref q9] M := by
    intro q9 he
    refine q_astore_n (lv' := [(3, .ref q9), (0, .ref (ad 0)), (1, .int (qI (r))), (2, .ref ou)]) G 3 dL_verify_22 rfl (by decide) rfl ?_
    refine q_iconst G dL_verify_23 ?_
    refine q_retX ?_
    exact q_iret G dL_verify_24 hret (by omega) (by omega) (⟨by rw [he], M, by rw [if_neg (by rw [he]; decide)]; exact ⟨mI M, mL M, mR M, rfl, fun _ _ => ⟨rfl, rfl, rfl⟩, hC, hY, trivial⟩, by rw [if_neg (by rw [he]; decide)]⟩)
  have hb9 : a_9 σ r = 0 ∨ a_9 σ r = 1 := by rcases bI_or (powT (unT (sD σ)) (geT (sD σ)) (sC σ (3 * r + 1).toNat) = sF σ (6 + 3 * r).toNat ∧ hdT (sD σ) (sF σ (6 + 3 * r).toNat) (sF σ (6 + 3 * r + 1).toNat) (sF σ (6 + 3 * r + 2).toNat) (sC σ (3 * r).toNat) (sC σ (3 * r + 2).toNat)) with h9 | h9; exact Or.inr h9.1; exact Or.inl h9.1
  refine q_aload_n G 2 2 dL_verify_0 rfl rfl ?_
  refine q_iconst G dL_verify_1 ?_
  refine q_aload_n G 0 0 dL_verify_2 rfl rfl ?_
  refine q_iload_n G 1 1 dL_verify_3 rfl rfl ?_
  refine q_callVX (As := [.int (qI (r))]) (rest := [.int (qI (0)), .ref ou]) G dL_verify_4 cw_L_41 (c_X4_verify l hl D cy M ad hC σ hY hW r hr9) o0.1 o0.2 (by decide) rfl rfl rfl (Nat.le_of_ble_eq_true rfl) rfl rfl ⟨Nat.le_of_ble_eq_true rfl, Nat.le_of_ble_eq_true rfl⟩ ⟨by first | decide | (dsimp only; omega), by first | decide | (dsimp only; omega)⟩ (fun E9 ce9 q9 H9 lc9 ls9 hx9 h91 h92 h93 h94 h95 h96 h97 => by rcases hx9 with ⟨rfl, he⟩ | ⟨rfl, he⟩; exact q_catch (E := sIS) (name := sIS) (hh := [(0, 16, 19, 15), (0, 16, 22, 35)]) (pre := []) (x := (0, 16, 19, 15)) (suf := [(0, 16, 22, 35)]) (hp := 19) G htab rfl (fun z hz => by exact absurd hz List.not_mem_nil) rfl (by decide) rfl (by decide +kernel) (by decide +kernel) h91 h92 h93 h94 h95 h96 h97 (hk_0 q9 he); exact q_catch (E := sIO) (name := sIO) (hh := [(0, 16, 19, 15), (0, 16, 22, 35)]) (pre := [(0, 16, 19, 15)]) (x := (0, 16, 22, 35)) (suf := []) (hp := 22) G htab rfl (fun z hz => by rcases List.mem_cons.mp hz with rfl | hz; exact ⟨by decide, sIS, by decide +kernel, hNs (sIO, sIS) (by decide +kernel)⟩; exact absurd hz List.not_mem_nil) rfl (by decide) rfl (by decide +kernel) (by decide +kernel) h91 h92 h93 h94 h95 h96 h97 (hk_1 q9 he)) (fun v9 M9 hq9 => ?_)
  obtain ⟨he, I9, L9, R9, rfl, fr9, hC9, hY9, rfl⟩ := hq9
  refine q_st (st2 := [.int (qI (a_9 σ r)), .int (qI (0)), .ref ou]) rfl ?_
  refine q_if_eq (tgt := 14) G dL_verify_7 (by decide) (by first | assumption | omega) (fun c1 => ?_) (fun c1 => ?_)
  · refine q_lconst (z := 0) G dL_verify_14 (by decide +kernel) ?_
    refine q_lastore G dL_verify_15 hou.1 hou.2.1 (by first | assumption | omega) (show (0) < ((mN M ou : Nat) : Int) by rw [hou.2.2]; omega) (show mN M ou < 2147483648 by rw [hou.2.2]; decide) ?_
    refine q_goto (tgt := 25) G dL_verify_16 (by decide) ?_
    refine q_iconst G dL_verify_25 ?_
    refine q_retX ?_
    exact q_iret G dL_verify_26 hret (by omega) (by omega) (⟨by rw [he], wD M I9 L9 R9, by rw [if_pos he]; exact ⟨I9, L9, R9, rfl, fr9, hC9, hY9, trivial⟩, by rw [if_pos he, show a_9 σ r = 0 by omega]; rfl⟩)
  · refine q_lconst (z := 1) G dL_verify_10 (by decide +kernel) ?_
    refine q_goto (tgt := 15) G dL_verify_11 (by decide) ?_
    refine q_lastore G dL_verify_15 hou.1 hou.2.1 (by first | assumption | omega) (show (0) < ((mN M ou : Nat) : Int) by rw [hou.2.2]; omega) (show mN M ou < 2147483648 by rw [hou.2.2]; decide) ?_
    refine q_goto (tgt := 25) G dL_verify_16 (by decide) ?_
    refine q_iconst G dL_verify_25 ?_
    refine q_retX ?_
    exact q_iret G dL_verify_26 hret (by omega) (by omega) (⟨by rw [he], wD M I9 L9 R9, by rw [if_pos he]; exact ⟨I9, L9, R9, rfl, fr9, hC9, hY9, trivial⟩, by rw [if_pos he, show a_9 σ r = 1 by omega]; rfl⟩)
set_option maxRecDepth 100000 in
set_option maxHeartbeats 4000000 in
theorem c_L_put (l : Launch) (hl : l.stackTraces = false) (D : va_G) (cy : Nat → ClassId) (M : qM) (ad : Nat → Nat) (hC : CSt M ad) (σ : qS) (hY : CDy σ ad (mI M) (mL M) (mR M)) (hW : WF σ) (i : Int) (a : Int) (b : Int) (hi9 : r32 i) (ha9 : r32 a) (hb9 : r32 b) : qCh l D cy yL_put cL_put 5 (some .int) [(0, 7, 10, 15), (0, 7, 14, 35), (0, 7, 18, 13)] { frames := 8, cells := 3, slots := 18, locals := 135 } 3 18 [.ref (ad 0), .int (qI (i)), .int (qI (a)), .int (qI (b))] M (fun v M' => v = some (.int (qI (e_10 σ i a b))) ∧ poC M ad (if e_10 σ i a b = 0 then n_10 σ i a b else σ) (fun _ => True) none M') := by
  refine qCh_of (lv0 := [(0, .ref (ad 0)), (1, .int (qI (i))), (2, .int (qI (a))), (3, .int (qI (b)))]) (by decide) rfl (Nat.le_of_ble_eq_true rfl) ?_
  intro p e s m args below meth c G hNs htab hret
  have o0 := CS_x hC
  have hk_0 : ∀ (q9 : Nat) (N9 : qM) (hp9 : poC M ad σ (fun _ => True) none N9), e_10 σ i a b = 1 → qK p l e { frames := 8, cells := 3, slots := 18, locals := 135 } s m args below meth c (vx_MQ below (qQ D cy (mP M) (fun v M' => v = some (.int (qI (e_10 σ i a b))) ∧ poC M ad (if e_10 σ i a b = 0 then n_10 σ i a b else σ) (fun _ => True) none M')) (fun _ _ _ => False) args s 3 18 (qA (mP M) s.heap.size)) 5 D cy (qA (mP M) s.heap.size) (0 + 3) (0 + 18) 10 [(0, .ref (ad 0)), (1, .int (qI (i))), (2, .int (qI (a))), (3, .int (qI (b)))] [.ref q9] N9 := by
    intro q9 N9 hp9 he
    refine q_astore (lv' := [(4, .ref q9), (0, .ref (ad 0)), (1, .int (qI (i))), (2, .int (qI (a))), (3, .int (qI (b)))]) G dL_put_10 (by decide) rfl ?_
    refine q_iconst G dL_put_12 ?_
    refine q_retX ?_
    exact q_iret G dL_put_13 hret (by omega) (by omega) (⟨by rw [he], by rw [if_neg (by rw [he]; decide)]; exact hp9⟩)
  have hk_1 : ∀ (q9 : Nat) (N9 : qM) (hp9 : poC M ad σ (fun _ => True) none N9), e_10 σ i a b = 2 → qK p l e { frames := 8, cells := 3, slots := 18, locals := 135 } s m args below meth c (vx_MQ below (qQ D cy (mP M) (fun v M' => v = some (.int (qI (e_10 σ i a b))) ∧ poC M ad (if e_10 σ i a b = 0 then n_10 σ i a b else σ) (fun _ => True) none M')) (fun _ _ _ => False) args s 3 18 (qA (mP M) s.heap.size)) 5 D cy (qA (mP M) s.heap.size) (0 + 3) (0 + 18) 14 [(0, .ref (ad 0)), (1, .int (qI (i))), (2, .int (qI (a))), (3, .int (qI (b)))] [.ref q9] N9 := by
    intro q9 N9 hp9 he
    refine q_astore (lv' := [(4, .ref q9), (0, .ref (ad 0)), (1, .int (qI (i))), (2, .int (qI (a))), (3, .int (qI (b)))]) G dL_put_14 (by decide) rfl ?_
    refine q_iconst G dL_put_16 ?_
    refine q_retX ?_
    exact q_iret G dL_put_17 hret (by omega) (by omega) (⟨by rw [he], by rw [if_neg (by rw [he]; decide)]; exact hp9⟩)
  have hk_2 : ∀ (q9 : Nat) (N9 : qM) (hp9 : poC M ad σ (fun _ => True) none N9), e_10 σ i a b = 3 → qK p l e { frames := 8, cells := 3, slots := 18, locals := 135 } s m args below meth c (vx_MQ below (qQ D cy (mP M) (fun v M' => v = some (.int (qI (e_10 σ i a b))) ∧ poC M ad (if e_10 σ i a b = 0 then n_10 σ i a b else σ) (fun _ => True) none M')) (fun _ _ _ => False) args s 3 18 (qA (mP M) s.heap.size)) 5 D cy (qA (mP M) s.heap.size) (0 + 3) (0 + 18) 18 [(0, .ref (ad 0)), (1, .int (qI (i))), (2, .int (qI (a))), (3, .int (qI (b)))] [.ref q9] N9 := by
    intro q9 N9 hp9 he
    refine q_astore (lv' := [(4, .ref q9), (0, .ref (ad 0)), (1, .int (qI (i))), (2, .int (qI (a))), (3, .int (qI (b)))]) G dL_put_18 (by decide) rfl ?_
    refine q_iconst G dL_put_20 ?_
    refine q_retX ?_
    exact q_iret G dL_put_21 hret (by omega) (by omega) (⟨by rw [he], by rw [if_neg (by rw [he]; decide)]; exact hp9⟩)
  refine q_aload_n G 0 0 dL_put_0 rfl rfl ?_
  refine q_iload_n G 1 1 dL_put_1 rfl rfl ?_
  refine q_iload_n G 2 2 dL_put_2 rfl rfl ?_
  refine q_iload_n G 3 3 dL_put_3 rfl rfl ?_
  refine q_callVY (As := [.int (qI (i)), .int (qI (a)), .int (qI (b))]) (rest := []) G dL_put_4 cw_L_45 (c_X4_put l hl D cy M ad hC σ hY hW i a b hi9 ha9 hb9) o0.1 o0.2 (by decide) rfl rfl rfl (Nat.le_of_ble_eq_true rfl) rfl rfl ⟨Nat.le_of_ble_eq_true rfl, Nat.le_of_ble_eq_true rfl⟩ ⟨by first | decide | (dsimp only; omega), by first | decide | (dsimp only; omega)⟩ (fun E9 ce9 q9 H9 lc9 ls9 N9 hx9 h91 h92 h93 h94 h95 h96 h97 => by obtain ⟨hx9, hp9⟩ := hx9; rcases hx9 with ⟨rfl, he⟩ | ⟨rfl, he⟩ | ⟨rfl, he⟩; exact q_catch (E := sIS) (name := sIS) (hh := [(0, 7, 10, 15), (0, 7, 14, 35), (0, 7, 18, 13)]) (pre := []) (x := (0, 7, 10, 15)) (suf := [(0, 7, 14, 35), (0, 7, 18, 13)]) (hp := 10) G htab rfl (fun z hz => by exact absurd hz List.not_mem_nil) rfl (by decide) rfl (by decide +kernel) (by decide +kernel) h91 h92 h93 h94 h95 h96 h97 (hk_0 q9 _ hp9 he); exact q_catch (E := sIO) (name := sIO) (hh := [(0, 7, 10, 15), (0, 7, 14, 35), (0, 7, 18, 13)]) (pre := [(0, 7, 10, 15)]) (x := (0, 7, 14, 35)) (suf := [(0, 7, 18, 13)]) (hp := 14) G htab rfl (fun z hz => by rcases List.mem_cons.mp hz with rfl | hz; exact ⟨by decide, sIS, by decide +kernel, hNs (sIO, sIS) (by decide +kernel)⟩; exact absurd hz List.not_mem_nil) rfl (by decide) rfl (by decide +kernel) (by decide +kernel) h91 h92 h93 h94 h95 h96 h97 (hk_1 q9 _ hp9 he); exact q_catch (E := sIA) (name := sIA) (hh := [(0, 7, 10, 15), (0, 7, 14, 35), (0, 7, 18, 13)]) (pre := [(0, 7, 10, 15), (0, 7, 14, 35)]) (x := (0, 7, 18, 13)) (suf := []) (hp := 18) G htab rfl (fun z hz => by rcases List.mem_cons.mp hz with rfl | hz; exact ⟨by decide, sIS, by decide +kernel, hNs (sIA, sIS) (by decide +kernel)⟩; rcases List.mem_cons.mp hz with rfl | hz; exact ⟨by decide, sIO, by decide +kernel, hNs (sIA, sIO) (by decide +kernel)⟩; exact absurd hz List.not_mem_nil) rfl (by decide) rfl (by decide +kernel) (by decide +kernel) h91 h92 h93 h94 h95 h96 h97 (hk_2 q9 _ hp9 he)) (fun v9 M9 hq9 => ?_)
  obtain ⟨he, I9, L9, R9, rfl, fr9, hC9, hY9, rfl⟩ := hq9
  refine q_st (st2 := []) rfl ?_
  refine q_goto (tgt := 22) G dL_put_7 (by decide) ?_
  refine q_iconst G dL_put_22 ?_
  refine q_retX ?_
  exact q_iret G dL_put_23 hret (by omega) (by omega) (⟨by rw [he], by rw [if_pos he]; exact ⟨I9, L9, R9, rfl, fr9, hC9, hY9, trivial⟩⟩)
set_option maxRecDepth 100000 in
set_option maxHeartbeats 4000000 in
theorem c_L_buffer (l : Launch) (hl : l.stackTraces = false) (D : va_G) (cy : Nat → ClassId) (M : qM) (ad : Nat → Nat) (hC : CSt M ad) (σ : qS) (hY : CDy σ ad (mI M) (mL M) (mR M)) (hW : WF σ) (i : Int) (k : Int) (hi9 : r32 i) (hk9 : r32 k) (ou : Nat) (hou : qAr M ou 7 1) : qCh l D cy yL_buffer cL_buffer 5 (some .int) [(0, 9, 12, 15), (0, 9, 16, 35), (0, 9, 20, 53)] { frames := 8, cells := 4, slots := 24, locals := 133 } 4 24 [.ref (ad 0), .int (qI (i)), .int (qI (k)), .ref ou] M (fun v M' => v = some (.int (qI (e_11 σ i k))) ∧ ∃ M1, poC M ad (if e_11 σ i k = 0 then σ else σ) (fun _ => True) none M1 ∧ M' = (if e_11 σ i k = 0 then sL M1 ou 0 (a_11 σ i k) else M1)) := by
  refine qCh_of (lv0 := [(0, .ref (ad 0)), (1, .int (qI (i))), (2, .int (qI (k))), (3, .ref ou)]) (by decide) rfl (Nat.le_of_ble_eq_true rfl) ?_
  intro p e s m args below meth c G hNs htab hret
  have o0 := CS_x hC
  have hk_0 : ∀ (q9 : Nat), e_11 σ i k = 1 → qK p l e { frames := 8, cells := 4, slots := 24, locals := 133 } s m args below meth c (vx_MQ below (qQ D cy (mP M) (fun v M' => v = some (.int (qI (e_11 σ i k))) ∧ ∃ M1, poC M ad (if e_11 σ i k = 0 then σ else σ) (fun _ => True) none M1 ∧ M' = (if e_11 σ i k = 0 then sL M1 ou 0 (a_11 σ i k) else M1))) (fun _ _ _ => False) args s 4 24 (qA (mP M) s.heap.size)) 5 D cy (qA (mP M) s.heap.size) (0 + 4) (0 + 24) 12 [(0, .ref (ad 0)), (1, .int (qI (i))), (2, .int (qI (k))), (3, .ref ou)] [.ref q9] M := by
    intro q9 he
    refine q_astore (lv' := [(4, .ref q9), (0, .ref (ad 0)), (1, .int (qI (i))), (2, .int (qI (k))), (3, .ref ou)]) G dL_buffer_12 (by decide) rfl ?_
    refine q_iconst G dL_buffer_14 ?_
    refine q_retX ?_
    exact q_iret G dL_buffer_15 hret (by omega) (by omega) (⟨by rw [he], M, by rw [if_neg (by rw [he]; decide)]; exact ⟨mI M, mL M, mR M, rfl, fun _ _ => ⟨rfl, rfl, rfl⟩, hC, hY, trivial⟩, by rw [if_neg (by rw [he]; decide)]⟩)
  have hk_1 : ∀ (q9 : Nat), e_11 σ i k = 2 → qK p l e { frames := 8, cells := 4, slots := 24, locals := 133 } s m args below meth c (vx_MQ below (qQ D cy (mP M) (fun v M' => v = some (.int (qI (e_11 σ i k))) ∧ ∃ M1, poC M ad (if e_11 σ i k = 0 then σ else σ) (fun _ => True) none M1 ∧ M' = (if e_11 σ i k = 0 then sL M1 ou 0 (a_11 σ i k) else M1))) (fun _ _ _ => False) args s 4 24 (qA (mP M) s.heap.size)) 5 D cy (qA (mP M) s.heap.size) (0 + 4) (0 + 24) 16 [(0, .ref (ad 0)), (1, .int (qI (i))), (2, .int (qI (k))), (3, .ref ou)] [.ref q9] M := by
    intro q9 he
    refine q_astore (lv' := [(4, .ref q9), (0, .ref (ad 0)), (1, .int (qI (i))), (2, .int (qI (k))), (3, .ref ou)]) G dL_buffer_16 (by decide) rfl ?_
    refine q_iconst G dL_buffer_18 ?_
    refine q_retX ?_
    exact q_iret G dL_buffer_19 hret (by omega) (by omega) (⟨by rw [he], M, by rw [if_neg (by rw [he]; decide)]; exact ⟨mI M, mL M, mR M, rfl, fun _ _ => ⟨rfl, rfl, rfl⟩, hC, hY, trivial⟩, by rw [if_neg (by rw [he]; decide)]⟩)
  have hk_2 : ∀ (q9 : Nat), e_11 σ i k = 3 → qK p l e { frames := 8, cells := 4, slots := 24, locals := 133 } s m args below meth c (vx_MQ below (qQ D cy (mP M) (fun v M' => v = some (.int (qI (e_11 σ i k))) ∧ ∃ M1, poC M ad (if e_11 σ i k = 0 then σ else σ) (fun _ => True) none M1 ∧ M' = (if e_11 σ i k = 0 then sL M1 ou 0 (a_11 σ i k) else M1))) (fun _ _ _ => False) args s 4 24 (qA (mP M) s.heap.size)) 5 D cy (qA (mP M) s.heap.size) (0 + 4) (0 + 24) 20 [(0, .ref (ad 0)), (1, .int (qI (i))), (2, .int (qI (k))), (3, .ref ou)] [.ref q9] M := by
    intro q9 he
    refine q_astore (lv' := [(4, .ref q9), (0, .ref (ad 0)), (1, .int (qI (i))), (2, .int (qI (k))), (3, .ref ou)]) G dL_buffer_20 (by decide) rfl ?_
    refine q_iconst G dL_buffer_22 ?_
    refine q_retX ?_
    exact q_iret G dL_buffer_23 hret (by omega) (by omega) (⟨by rw [he], M, by rw [if_neg (by rw [he]; decide)]; exact ⟨mI M, mL M, mR M, rfl, fun _ _ => ⟨rfl, rfl, rfl⟩, hC, hY, trivial⟩, by rw [if_neg (by rw [he]; decide)]⟩)
  refine q_aload_n G 3 3 dL_buffer_0 rfl rfl ?_
  refine q_iconst G dL_buffer_1 ?_
  refine q_aload_n G 0 0 dL_buffer_2 rfl rfl ?_
  refine q_iload_n G 1 1 dL_buffer_3 rfl rfl ?_
  refine q_iload_n G 2 2 dL_buffer_4 rfl rfl ?_
  refine q_callVX (As := [.int (qI (i)), .int (qI (k))]) (rest := [.int (qI (0)), .ref ou]) G dL_buffer_5 cw_L_49 (c_X4_buffer l hl D cy M ad hC σ hY hW i k hi9 hk9) o0.1 o0.2 (by decide) rfl rfl rfl (Nat.le_of_ble_eq_true rfl) rfl rfl ⟨Nat.le_of_ble_eq_true rfl, Nat.le_of_ble_eq_true rfl⟩ ⟨by first | decide | (dsimp only; omega), by first | decide | (dsimp only; omega)⟩ (fun E9 ce9 q9 H9 lc9 ls9 hx9 h91 h92 h93 h94 h95 h96 h97 => by rcases hx9 with ⟨rfl, he⟩ | ⟨rfl, he⟩ | ⟨rfl, he⟩; exact q_catch (E := sIS) (name := sIS) (hh := [(0, 9, 12, 15), (0, 9, 16, 35), (0, 9, 20, 53)]) (pre := []) (x := (0, 9, 12, 15)) (suf := [(0, 9, 16, 35), (0, 9, 20, 53)]) (hp := 12) G htab rfl (fun z hz => by exact absurd hz List.not_mem_nil) rfl (by decide) rfl (by decide +kernel) (by decide +kernel) h91 h92 h93 h94 h95 h96 h97 (hk_0 q9 he); exact q_catch (E := sIO) (name := sIO) (hh := [(0, 9, 12, 15), (0, 9, 16, 35), (0, 9, 20, 53)]) (pre := [(0, 9, 12, 15)]) (x := (0, 9, 16, 35)) (suf := [(0, 9, 20, 53)]) (hp := 16) G htab rfl (fun z hz => by rcases List.mem_cons.mp hz with rfl | hz; exact ⟨by decide, sIS, by decide +kernel, hNs (sIO, sIS) (by decide +kernel)⟩; exact absurd hz List.not_mem_nil) rfl (by decide) rfl (by decide +kernel) (by decide +kernel) h91 h92 h93 h94 h95 h96 h97 (hk_1 q9 he); exact q_catch (E := sNS) (name := sNS) (hh := [(0, 9, 12, 15), (0, 9, 16, 35), (0, 9, 20, 53)]) (pre := [(0, 9, 12, 15), (0, 9, 16, 35)]) (x := (0, 9, 20, 53)) (suf := []) (hp := 20) G htab rfl (fun z hz => by rcases List.mem_cons.mp hz with rfl | hz; exact ⟨by decide, sIS, by decide +kernel, hNs (sNS, sIS) (by decide +kernel)⟩; rcases List.mem_cons.mp hz with rfl | hz; exact ⟨by decide, sIO, by decide +kernel, hNs (sNS, sIO) (by decide +kernel)⟩; exact absurd hz List.not_mem_nil) rfl (by decide) rfl (by decide +kernel) (by decide +kernel) h91 h92 h93 h94 h95 h96 h97 (hk_2 q9 he)) (fun v9 M9 hq9 => ?_)
  obtain ⟨he, I9, L9, R9, rfl, fr9, hC9, hY9, rfl⟩ := hq9
  refine q_st (st2 := [.long (qL (a_11 σ i k)), .int (qI (0)), .ref ou]) rfl ?_
  refine q_lastore G dL_buffer_8 hou.1 hou.2.1 (by first | assumption | omega) (show (0) < ((mN M ou : Nat) : Int) by rw [hou.2.2]; omega) (show mN M ou < 2147483648 by rw [hou.2.2]; decide) ?_
  refine q_goto (tgt := 24) G dL_buffer_9 (by decide) ?_
  refine q_iconst G dL_buffer_24 ?_
  refine q_retX ?_
  exact q_iret G dL_buffer_25 hret (by omega) (by omega) (⟨by rw [he], wD M I9 L9 R9, by rw [if_pos he]; exact ⟨I9, L9, R9, rfl, fr9, hC9, hY9, trivial⟩, by rw [if_pos he]; rfl⟩)
set_option maxRecDepth 100000 in
set_option maxHeartbeats 4000000 in
theorem c_L_reduce (l : Launch) (hl : l.stackTraces = false) (D : va_G) (cy : Nat → ClassId) (M : qM) (ad : Nat → Nat) (hC : CSt M ad) (σ : qS) (hY : CDy σ ad (mI M) (mL M) (mR M)) (hW : WF σ) (i : Int) (k : Int) (hi9 : r32 i) (hk9 : r32 k) : qCh l D cy yL_reduce cL_reduce 4 (some .int) [(0, 6, 9, 15), (0, 6, 12, 35), (0, 6, 15, 53)] { frames := 8, cells := 4, slots := 24, locals := 133 } 4 24 [.ref (ad 0), .int (qI (i)), .int (qI (k))] M (fun v M' => v = some (.int (qI (e_11 σ i k))) ∧ poC M ad (if e_11 σ i k = 0 then n_12 σ i k else σ) (fun _ => True) none M') := by
  refine qCh_of (lv0 := [(0, .ref (ad 0)), (1, .int (qI (i))), (2, .int (qI (k)))]) (by decide) rfl (Nat.le_of_ble_eq_true rfl) ?_
  intro p e s m args below meth c G hNs htab hret
  have o0 := CS_x hC
  have hk_0 : ∀ (q9 : Nat), e_11 σ i k = 1 → qK p l e { frames := 8, cells := 4, slots := 24, locals := 133 } s m args below meth c (vx_MQ below (qQ D cy (mP M) (fun v M' => v = some (.int (qI (e_11 σ i k))) ∧ poC M ad (if e_11 σ i k = 0 then n_12 σ i k else σ) (fun _ => True) none M')) (fun _ _ _ => False) args s 4 24 (qA (mP M) s.heap.size)) 4 D cy (qA (mP M) s.heap.size) (0 + 4) (0 + 24) 9 [(0, .ref (ad 0)), (1, .int (qI (i))), (2, .int (qI (k)))] [.ref q9] M := by
    intro q9 he
    refine q_astore_n (lv' := [(3, .ref q9), (0, .ref (ad 0)), (1, .int (qI (i))), (2, .int (qI (k)))]) G 3 dL_reduce_9 rfl (by decide) rfl ?_
    refine q_iconst G dL_reduce_10 ?_
    refine q_retX ?_
    exact q_iret G dL_reduce_11 hret (by omega) (by omega) (⟨by rw [he], by rw [if_neg (by rw [he]; decide)]; exact ⟨mI M, mL M, mR M, rfl, fun _ _ => ⟨rfl, rfl, rfl⟩, hC, hY, trivial⟩⟩)
  have hk_1 : ∀ (q9 : Nat), e_11 σ i k = 2 → qK p l e { frames := 8, cells := 4, slots := 24, locals := 133 } s m args below meth c (vx_MQ below (qQ D cy (mP M) (fun v M' => v = some (.int (qI (e_11 σ i k))) ∧ poC M ad (if e_11 σ i k = 0 then n_12 σ i k else σ) (fun _ => True) none M')) (fun _ _ _ => False) args s 4 24 (qA (mP M) s.heap.size)) 4 D cy (qA (mP M) s.heap.size) (0 + 4) (0 + 24) 12 [(0, .ref (ad 0)), (1, .int (qI (i))), (2, .int (qI (k)))] [.ref q9] M := by
    intro q9 he
    refine q_astore_n (lv' := [(3, .ref q9), (0, .ref (ad 0)), (1, .int (qI (i))), (2, .int (qI (k)))]) G 3 dL_reduce_12 rfl (by decide) rfl ?_
    refine q_iconst G dL_reduce_13 ?_
    refine q_retX ?_
    exact q_iret G dL_reduce_14 hret (by omega) (by omega) (⟨by rw [he], by rw [if_neg (by rw [he]; decide)]; exact ⟨mI M, mL M, mR M, rfl, fun _ _ => ⟨rfl, rfl, rfl⟩, hC, hY, trivial⟩⟩)
  have hk_2 : ∀ (q9 : Nat), e_11 σ i k = 3 → qK p l e { frames := 8, cells := 4, slots := 24, locals := 133 } s m args below meth c (vx_MQ below (qQ D cy (mP M) (fun v M' => v = some (.int (qI (e_11 σ i k))) ∧ poC M ad (if e_11 σ i k = 0 then n_12 σ i k else σ) (fun _ => True) none M')) (fun _ _ _ => False) args s 4 24 (qA (mP M) s.heap.size)) 4 D cy (qA (mP M) s.heap.size) (0 + 4) (0 + 24) 15 [(0, .ref (ad 0)), (1, .int (qI (i))), (2, .int (qI (k)))] [.ref q9] M := by
    intro q9 he
    refine q_astore_n (lv' := [(3, .ref q9), (0, .ref (ad 0)), (1, .int (qI (i))), (2, .int (qI (k)))]) G 3 dL_reduce_15 rfl (by decide) rfl ?_
    refine q_iconst G dL_reduce_16 ?_
    refine q_retX ?_
    exact q_iret G dL_reduce_17 hret (by omega) (by omega) (⟨by rw [he], by rw [if_neg (by rw [he]; decide)]; exact ⟨mI M, mL M, mR M, rfl, fun _ _ => ⟨rfl, rfl, rfl⟩, hC, hY, trivial⟩⟩)
  refine q_aload_n G 0 0 dL_reduce_0 rfl rfl ?_
  refine q_iload_n G 1 1 dL_reduce_1 rfl rfl ?_
  refine q_iload_n G 2 2 dL_reduce_2 rfl rfl ?_
  refine q_callVX (As := [.int (qI (i)), .int (qI (k))]) (rest := []) G dL_reduce_3 cw_L_55 (c_X4_reduce l hl D cy M ad hC σ hY hW i k hi9 hk9) o0.1 o0.2 (by decide) rfl rfl rfl (Nat.le_of_ble_eq_true rfl) rfl rfl ⟨Nat.le_of_ble_eq_true rfl, Nat.le_of_ble_eq_true rfl⟩ ⟨by first | decide | (dsimp only; omega), by first | decide | (dsimp only; omega)⟩ (fun E9 ce9 q9 H9 lc9 ls9 hx9 h91 h92 h93 h94 h95 h96 h97 => by rcases hx9 with ⟨rfl, he⟩ | ⟨rfl, he⟩ | ⟨rfl, he⟩; exact q_catch (E := sIS) (name := sIS) (hh := [(0, 6, 9, 15), (0, 6, 12, 35), (0, 6, 15, 53)]) (pre := []) (x := (0, 6, 9, 15)) (suf := [(0, 6, 12, 35), (0, 6, 15, 53)]) (hp := 9) G htab rfl (fun z hz => by exact absurd hz List.not_mem_nil) rfl (by decide) rfl (by decide +kernel) (by decide +kernel) h91 h92 h93 h94 h95 h96 h97 (hk_0 q9 he); exact q_catch (E := sIO) (name := sIO) (hh := [(0, 6, 9, 15), (0, 6, 12, 35), (0, 6, 15, 53)]) (pre := [(0, 6, 9, 15)]) (x := (0, 6, 12, 35)) (suf := [(0, 6, 15, 53)]) (hp := 12) G htab rfl (fun z hz => by rcases List.mem_cons.mp hz with rfl | hz; exact ⟨by decide, sIS, by decide +kernel, hNs (sIO, sIS) (by decide +kernel)⟩; exact absurd hz List.not_mem_nil) rfl (by decide) rfl (by decide +kernel) (by decide +kernel) h91 h92 h93 h94 h95 h96 h97 (hk_1 q9 he); exact q_catch (E := sNS) (name := sNS) (hh := [(0, 6, 9, 15), (0, 6, 12, 35), (0, 6, 15, 53)]) (pre := [(0, 6, 9, 15), (0, 6, 12, 35)]) (x := (0, 6, 15, 53)) (suf := []) (hp := 15) G htab rfl (fun z hz => by rcases List.mem_cons.mp hz with rfl | hz; exact ⟨by decide, sIS, by decide +kernel, hNs (sNS, sIS) (by decide +kernel)⟩; rcases List.mem_cons.mp hz with rfl | hz; exact ⟨by decide, sIO, by decide +kernel, hNs (sNS, sIO) (by decide +kernel)⟩; exact absurd hz List.not_mem_nil) rfl (by decide) rfl (by decide +kernel) (by decide +kernel) h91 h92 h93 h94 h95 h96 h97 (hk_2 q9 he)) (fun v9 M9 hq9 => ?_)
  obtain ⟨he, I9, L9, R9, rfl, fr9, hC9, hY9, rfl⟩ := hq9
  refine q_st (st2 := []) rfl ?_
  refine q_goto (tgt := 18) G dL_reduce_6 (by decide) ?_
  refine q_iconst G dL_reduce_18 ?_
  refine q_retX ?_
  exact q_iret G dL_reduce_19 hret (by omega) (by omega) (⟨by rw [he], by rw [if_pos he]; exact ⟨I9, L9, R9, rfl, fr9, hC9, hY9, trivial⟩⟩)
set_option maxRecDepth 100000 in
set_option maxHeartbeats 4000000 in
theorem c_L_multiply (l : Launch) (hl : l.stackTraces = false) (D : va_G) (cy : Nat → ClassId) (M : qM) (ad : Nat → Nat) (hC : CSt M ad) (σ : qS) (hY : CDy σ ad (mI M) (mL M) (mR M)) (hW : WF σ) (i : Int) (j : Int) (k : Int) (hi9 : r32 i) (hj9 : r32 j) (hk9 : r32 k) : qCh l D cy yL_multiply cL_multiply 5 (some .int) [(0, 7, 10, 15), (0, 7, 14, 35), (0, 7, 18, 53)] { frames := 8, cells := 6, slots := 36, locals := 134 } 6 36 [.ref (ad 0), .int (qI (i)), .int (qI (j)), .int (qI (k))] M (fun v M' => v = some (.int (qI (e_13 σ i j k))) ∧ poC M ad (if e_13 σ i j k = 0 then n_13 σ i j k else σ) (fun _ => True) none M') := by
  refine qCh_of (lv0 := [(0, .ref (ad 0)), (1, .int (qI (i))), (2, .int (qI (j))), (3, .int (qI (k)))]) (by decide) rfl (Nat.le_of_ble_eq_true rfl) ?_
  intro p e s m args below meth c G hNs htab hret
  have o0 := CS_x hC
  have hk_0 : ∀ (q9 : Nat), e_13 σ i j k = 1 → qK p l e { frames := 8, cells := 6, slots := 36, locals := 134 } s m args below meth c (vx_MQ below (qQ D cy (mP M) (fun v M' => v = some (.int (qI (e_13 σ i j k))) ∧ poC M ad (if e_13 σ i j k = 0 then n_13 σ i j k else σ) (fun _ => True) none M')) (fun _ _ _ => False) args s 6 36 (qA (mP M) s.heap.size)) 5 D cy (qA (mP M) s.heap.size) (0 + 6) (0 + 36) 10 [(0, .ref (ad 0)), (1, .int (qI (i))), (2, .int (qI (j))), (3, .int (qI (k)))] [.ref q9] M := by
    intro q9 he
    refine q_astore (lv' := [(4, .ref q9), (0, .ref (ad 0)), (1, .int (qI (i))), (2, .int (qI (j))), (3, .int (qI (k)))]) G dL_multiply_10 (by decide) rfl ?_
    refine q_iconst G dL_multiply_12 ?_
    refine q_retX ?_
    exact q_iret G dL_multiply_13 hret (by omega) (by omega) (⟨by rw [he], by rw [if_neg (by rw [he]; decide)]; exact ⟨mI M, mL M, mR M, rfl, fun _ _ => ⟨rfl, rfl, rfl⟩, hC, hY, trivial⟩⟩)
  have hk_1 : ∀ (q9 : Nat), e_13 σ i j k = 2 → qK p l e { frames := 8, cells := 6, slots := 36, locals := 134 } s m args below meth c (vx_MQ below (qQ D cy (mP M) (fun v M' => v = some (.int (qI (e_13 σ i j k))) ∧ poC M ad (if e_13 σ i j k = 0 then n_13 σ i j k else σ) (fun _ => True) none M')) (fun _ _ _ => False) args s 6 36 (qA (mP M) s.heap.size)) 5 D cy (qA (mP M) s.heap.size) (0 + 6) (0 + 36) 14 [(0, .ref (ad 0)), (1, .int (qI (i))), (2, .int (qI (j))), (3, .int (qI (k)))] [.ref q9] M := by
    intro q9 he
    refine q_astore (lv' := [(4, .ref q9), (0, .ref (ad 0)), (1, .int (qI (i))), (2, .int (qI (j))), (3, .int (qI (k)))]) G dL_multiply_14 (by decide) rfl ?_
    refine q_iconst G dL_multiply_16 ?_
    refine q_retX ?_
    exact q_iret G dL_multiply_17 hret (by omega) (by omega) (⟨by rw [he], by rw [if_neg (by rw [he]; decide)]; exact ⟨mI M, mL M, mR M, rfl, fun _ _ => ⟨rfl, rfl, rfl⟩, hC, hY, trivial⟩⟩)
  have hk_2 : ∀ (q9 : Nat), e_13 σ i j k = 3 → qK p l e { frames := 8, cells := 6, slots := 36, locals := 134 } s m args below meth c (vx_MQ below (qQ D cy (mP M) (fun v M' => v = some (.int (qI (e_13 σ i j k))) ∧ poC M ad (if e_13 σ i j k = 0 then n_13 σ i j k else σ) (fun _ => True) none M')) (fun _ _ _ => False) args s 6 36 (qA (mP M) s.heap.size)) 5 D cy (qA (mP M) s.heap.size) (0 + 6) (0 + 36) 18 [(0, .ref (ad 0)), (1, .int (qI (i))), (2, .int (qI (j))), (3, .int (qI (k)))] [.ref q9] M := by
    intro q9 he
    refine q_astore (lv' := [(4, .ref q9), (0, .ref (ad 0)), (1, .int (qI (i))), (2, .int (qI (j))), (3, .int (qI (k)))]) G dL_multiply_18 (by decide) rfl ?_
    refine q_iconst G dL_multiply_20 ?_
    refine q_retX ?_
    exact q_iret G dL_multiply_21 hret (by omega) (by omega) (⟨by rw [he], by rw [if_neg (by rw [he]; decide)]; exact ⟨mI M, mL M, mR M, rfl, fun _ _ => ⟨rfl, rfl, rfl⟩, hC, hY, trivial⟩⟩)
  refine q_aload_n G 0 0 dL_multiply_0 rfl rfl ?_
  refine q_iload_n G 1 1 dL_multiply_1 rfl rfl ?_
  refine q_iload_n G 2 2 dL_multiply_2 rfl rfl ?_
  refine q_iload_n G 3 3 dL_multiply_3 rfl rfl ?_
  refine q_callVX (As := [.int (qI (i)), .int (qI (j)), .int (qI (k))]) (rest := []) G dL_multiply_4 cw_L_59 (c_X4_multiply l hl D cy M ad hC σ hY hW i j k hi9 hj9 hk9) o0.1 o0.2 (by decide) rfl rfl rfl (Nat.le_of_ble_eq_true rfl) rfl rfl ⟨Nat.le_of_ble_eq_true rfl, Nat.le_of_ble_eq_true rfl⟩ ⟨by first | decide | (dsimp only; omega), by first | decide | (dsimp only; omega)⟩ (fun E9 ce9 q9 H9 lc9 ls9 hx9 h91 h92 h93 h94 h95 h96 h97 => by rcases hx9 with ⟨rfl, he⟩ | ⟨rfl, he⟩ | ⟨rfl, he⟩; exact q_catch (E := sIS) (name := sIS) (hh := [(0, 7, 10, 15), (0, 7, 14, 35), (0, 7, 18, 53)]) (pre := []) (x := (0, 7, 10, 15)) (suf := [(0, 7, 14, 35), (0, 7, 18, 53)]) (hp := 10) G htab rfl (fun z hz => by exact absurd hz List.not_mem_nil) rfl (by decide) rfl (by decide +kernel) (by decide +kernel) h91 h92 h93 h94 h95 h96 h97 (hk_0 q9 he); exact q_catch (E := sIO) (name := sIO) (hh := [(0, 7, 10, 15), (0, 7, 14, 35), (0, 7, 18, 53)]) (pre := [(0, 7, 10, 15)]) (x := (0, 7, 14, 35)) (suf := [(0, 7, 18, 53)]) (hp := 14) G htab rfl (fun z hz => by rcases List.mem_cons.mp hz with rfl | hz; exact ⟨by decide, sIS, by decide +kernel, hNs (sIO, sIS) (by decide +kernel)⟩; exact absurd hz List.not_mem_nil) rfl (by decide) rfl (by decide +kernel) (by decide +kernel) h91 h92 h93 h94 h95 h96 h97 (hk_1 q9 he); exact q_catch (E := sNS) (name := sNS) (hh := [(0, 7, 10, 15), (0, 7, 14, 35), (0, 7, 18, 53)]) (pre := [(0, 7, 10, 15), (0, 7, 14, 35)]) (x := (0, 7, 18, 53)) (suf := []) (hp := 18) G htab rfl (fun z hz => by rcases List.mem_cons.mp hz with rfl | hz; exact ⟨by decide, sIS, by decide +kernel, hNs (sNS, sIS) (by decide +kernel)⟩; rcases List.mem_cons.mp hz with rfl | hz; exact ⟨by decide, sIO, by decide +kernel, hNs (sNS, sIO) (by decide +kernel)⟩; exact absurd hz List.not_mem_nil) rfl (by decide) rfl (by decide +kernel) (by decide +kernel) h91 h92 h93 h94 h95 h96 h97 (hk_2 q9 he)) (fun v9 M9 hq9 => ?_)
  obtain ⟨he, I9, L9, R9, rfl, fr9, hC9, hY9, rfl⟩ := hq9
  refine q_st (st2 := []) rfl ?_
  refine q_goto (tgt := 22) G dL_multiply_7 (by decide) ?_
  refine q_iconst G dL_multiply_22 ?_
  refine q_retX ?_
  exact q_iret G dL_multiply_23 hret (by omega) (by omega) (⟨by rw [he], by rw [if_pos he]; exact ⟨I9, L9, R9, rfl, fr9, hC9, hY9, trivial⟩⟩)
set_option maxRecDepth 100000 in
set_option maxHeartbeats 4000000 in
theorem c_L_raise (l : Launch) (hl : l.stackTraces = false) (D : va_G) (cy : Nat → ClassId) (M : qM) (ad : Nat → Nat) (hC : CSt M ad) (σ : qS) (hY : CDy σ ad (mI M) (mL M) (mR M)) (hW : WF σ) (i : Int) (n : Int) (k : Int) (hi9 : r32 i) (hn9 : r32 n) (hk9 : r32 k) : qCh l D cy yL_raise cL_raise 5 (some .int) [(0, 7, 10, 15), (0, 7, 14, 35), (0, 7, 18, 13), (0, 7, 22, 53)] { frames := 8, cells := 5, slots := 30, locals := 150 } 5 30 [.ref (ad 0), .int (qI (i)), .int (qI (n)), .int (qI (k))] M (fun v M' => v = some (.int (qI (e_14 σ i n k))) ∧ poC M ad (if e_14 σ i n k = 0 then n_14 σ i n k else σ) (fun _ => True) none M') := by
  refine qCh_of (lv0 := [(0, .ref (ad 0)), (1, .int (qI (i))), (2, .int (qI (n))), (3, .int (qI (k)))]) (by decide) rfl (Nat.le_of_ble_eq_true rfl) ?_
  intro p e s m args below meth c G hNs htab hret
  have o0 := CS_x hC
  have hk_0 : ∀ (q9 : Nat), e_14 σ i n k = 1 → qK p l e { frames := 8, cells := 5, slots := 30, locals := 150 } s m args below meth c (vx_MQ below (qQ D cy (mP M) (fun v M' => v = some (.int (qI (e_14 σ i n k))) ∧ poC M ad (if e_14 σ i n k = 0 then n_14 σ i n k else σ) (fun _ => True) none M')) (fun _ _ _ => False) args s 5 30 (qA (mP M) s.heap.size)) 5 D cy (qA (mP M) s.heap.size) (0 + 5) (0 + 30) 10 [(0, .ref (ad 0)), (1, .int (qI (i))), (2, .int (qI (n))), (3, .int (qI (k)))] [.ref q9] M := by
    intro q9 he
    refine q_astore (lv' := [(4, .ref q9), (0, .ref (ad 0)), (1, .int (qI (i))), (2, .int (qI (n))), (3, .int (qI (k)))]) G dL_raise_10 (by decide) rfl ?_
    refine q_iconst G dL_raise_12 ?_
    refine q_retX ?_
    exact q_iret G dL_raise_13 hret (by omega) (by omega) (⟨by rw [he], by rw [if_neg (by rw [he]; decide)]; exact ⟨mI M, mL M, mR M, rfl, fun _ _ => ⟨rfl, rfl, rfl⟩, hC, hY, trivial⟩⟩)
  have hk_1 : ∀ (q9 : Nat), e_14 σ i n k = 2 → qK p l e { frames := 8, cells := 5, slots := 30, locals := 150 } s m args below meth c (vx_MQ below (qQ D cy (mP M) (fun v M' => v = some (.int (qI (e_14 σ i n k))) ∧ poC M ad (if e_14 σ i n k = 0 then n_14 σ i n k else σ) (fun _ => True) none M')) (fun _ _ _ => False) args s 5 30 (qA (mP M) s.heap.size)) 5 D cy (qA (mP M) s.heap.size) (0 + 5) (0 + 30) 14 [(0, .ref (ad 0)), (1, .int (qI (i))), (2, .int (qI (n))), (3, .int (qI (k)))] [.ref q9] M := by
    intro q9 he
    refine q_astore (lv' := [(4, .ref q9), (0, .ref (ad 0)), (1, .int (qI (i))), (2, .int (qI (n))), (3, .int (qI (k)))]) G dL_raise_14 (by decide) rfl ?_
    refine q_iconst G dL_raise_16 ?_
    refine q_retX ?_
    exact q_iret G dL_raise_17 hret (by omega) (by omega) (⟨by rw [he], by rw [if_neg (by rw [he]; decide)]; exact ⟨mI M, mL M, mR M, rfl, fun _ _ => ⟨rfl, rfl, rfl⟩, hC, hY, trivial⟩⟩)
  have hk_2 : ∀ (q9 : Nat), e_14 σ i n k = 3 → qK p l e { frames := 8, cells := 5, slots := 30, locals := 150 } s m args below meth c (vx_MQ below (qQ D cy (mP M) (fun v M' => v = some (.int (qI (e_14 σ i n k))) ∧ poC M ad (if e_14 σ i n k = 0 then n_14 σ i n k else σ) (fun _ => True) none M')) (fun _ _ _ => False) args s 5 30 (qA (mP M) s.heap.size)) 5 D cy (qA (mP M) s.heap.size) (0 + 5) (0 + 30) 18 [(0, .ref (ad 0)), (1, .int (qI (i))), (2, .int (qI (n))), (3, .int (qI (k)))] [.ref q9] M := by
    intro q9 he
    refine q_astore (lv' := [(4, .ref q9), (0, .ref (ad 0)), (1, .int (qI (i))), (2, .int (qI (n))), (3, .int (qI (k)))]) G dL_raise_18 (by decide) rfl ?_
    refine q_iconst G dL_raise_20 ?_
    refine q_retX ?_
    exact q_iret G dL_raise_21 hret (by omega) (by omega) (⟨by rw [he], by rw [if_neg (by rw [he]; decide)]; exact ⟨mI M, mL M, mR M, rfl, fun _ _ => ⟨rfl, rfl, rfl⟩, hC, hY, trivial⟩⟩)
  have hk_3 : ∀ (q9 : Nat), e_14 σ i n k = 4 → qK p l e { frames := 8, cells := 5, slots := 30, locals := 150 } s m args below meth c (vx_MQ below (qQ D cy (mP M) (fun v M' => v = some (.int (qI (e_14 σ i n k))) ∧ poC M ad (if e_14 σ i n k = 0 then n_14 σ i n k else σ) (fun _ => True) none M')) (fun _ _ _ => False) args s 5 30 (qA (mP M) s.heap.size)) 5 D cy (qA (mP M) s.heap.size) (0 + 5) (0 + 30) 22 [(0, .ref (ad 0)), (1, .int (qI (i))), (2, .int (qI (n))), (3, .int (qI (k)))] [.ref q9] M := by
    intro q9 he
    refine q_astore (lv' := [(4, .ref q9), (0, .ref (ad 0)), (1, .int (qI (i))), (2, .int (qI (n))), (3, .int (qI (k)))]) G dL_raise_22 (by decide) rfl ?_
    refine q_iconst G dL_raise_24 ?_
    refine q_retX ?_
    exact q_iret G dL_raise_25 hret (by omega) (by omega) (⟨by rw [he], by rw [if_neg (by rw [he]; decide)]; exact ⟨mI M, mL M, mR M, rfl, fun _ _ => ⟨rfl, rfl, rfl⟩, hC, hY, trivial⟩⟩)
  refine q_aload_n G 0 0 dL_raise_0 rfl rfl ?_
  refine q_iload_n G 1 1 dL_raise_1 rfl rfl ?_
  refine q_iload_n G 2 2 dL_raise_2 rfl rfl ?_
  refine q_iload_n G 3 3 dL_raise_3 rfl rfl ?_
  refine q_callVX (As := [.int (qI (i)), .int (qI (n)), .int (qI (k))]) (rest := []) G dL_raise_4 cw_L_62 (c_X4_raise l hl D cy M ad hC σ hY hW i n k hi9 hn9 hk9) o0.1 o0.2 (by decide) rfl rfl rfl (Nat.le_of_ble_eq_true rfl) rfl rfl ⟨Nat.le_of_ble_eq_true rfl, Nat.le_of_ble_eq_true rfl⟩ ⟨by first | decide | (dsimp only; omega), by first | decide | (dsimp only; omega)⟩ (fun E9 ce9 q9 H9 lc9 ls9 hx9 h91 h92 h93 h94 h95 h96 h97 => by rcases hx9 with ⟨rfl, he⟩ | ⟨rfl, he⟩ | ⟨rfl, he⟩ | ⟨rfl, he⟩; exact q_catch (E := sIS) (name := sIS) (hh := [(0, 7, 10, 15), (0, 7, 14, 35), (0, 7, 18, 13), (0, 7, 22, 53)]) (pre := []) (x := (0, 7, 10, 15)) (suf := [(0, 7, 14, 35), (0, 7, 18, 13), (0, 7, 22, 53)]) (hp := 10) G htab rfl (fun z hz => by exact absurd hz List.not_mem_nil) rfl (by decide) rfl (by decide +kernel) (by decide +kernel) h91 h92 h93 h94 h95 h96 h97 (hk_0 q9 he); exact q_catch (E := sIO) (name := sIO) (hh := [(0, 7, 10, 15), (0, 7, 14, 35), (0, 7, 18, 13), (0, 7, 22, 53)]) (pre := [(0, 7, 10, 15)]) (x := (0, 7, 14, 35)) (suf := [(0, 7, 18, 13), (0, 7, 22, 53)]) (hp := 14) G htab rfl (fun z hz => by rcases List.mem_cons.mp hz with rfl | hz; exact ⟨by decide, sIS, by decide +kernel, hNs (sIO, sIS) (by decide +kernel)⟩; exact absurd hz List.not_mem_nil) rfl (by decide) rfl (by decide +kernel) (by decide +kernel) h91 h92 h93 h94 h95 h96 h97 (hk_1 q9 he); exact q_catch (E := sIA) (name := sIA) (hh := [(0, 7, 10, 15), (0, 7, 14, 35), (0, 7, 18, 13), (0, 7, 22, 53)]) (pre := [(0, 7, 10, 15), (0, 7, 14, 35)]) (x := (0, 7, 18, 13)) (suf := [(0, 7, 22, 53)]) (hp := 18) G htab rfl (fun z hz => by rcases List.mem_cons.mp hz with rfl | hz; exact ⟨by decide, sIS, by decide +kernel, hNs (sIA, sIS) (by decide +kernel)⟩; rcases List.mem_cons.mp hz with rfl | hz; exact ⟨by decide, sIO, by decide +kernel, hNs (sIA, sIO) (by decide +kernel)⟩; exact absurd hz List.not_mem_nil) rfl (by decide) rfl (by decide +kernel) (by decide +kernel) h91 h92 h93 h94 h95 h96 h97 (hk_2 q9 he); exact q_catch (E := sNS) (name := sNS) (hh := [(0, 7, 10, 15), (0, 7, 14, 35), (0, 7, 18, 13), (0, 7, 22, 53)]) (pre := [(0, 7, 10, 15), (0, 7, 14, 35), (0, 7, 18, 13)]) (x := (0, 7, 22, 53)) (suf := []) (hp := 22) G htab rfl (fun z hz => by rcases List.mem_cons.mp hz with rfl | hz; exact ⟨by decide, sIS, by decide +kernel, hNs (sNS, sIS) (by decide +kernel)⟩; rcases List.mem_cons.mp hz with rfl | hz; exact ⟨by decide, sIO, by decide +kernel, hNs (sNS, sIO) (by decide +kernel)⟩; rcases List.mem_cons.mp hz with rfl | hz; exact ⟨by decide, sIA, by decide +kernel, hNs (sNS, sIA) (by decide +kernel)⟩; exact absurd hz List.not_mem_nil) rfl (by decide) rfl (by decide +kernel) (by decide +kernel) h91 h92 h93 h94 h95 h96 h97 (hk_3 q9 he)) (fun v9 M9 hq9 => ?_)
  obtain ⟨he, I9, L9, R9, rfl, fr9, hC9, hY9, rfl⟩ := hq9
  refine q_st (st2 := []) rfl ?_
  refine q_goto (tgt := 26) G dL_raise_7 (by decide) ?_
  refine q_iconst G dL_raise_26 ?_
  refine q_retX ?_
  exact q_iret G dL_raise_27 hret (by omega) (by omega) (⟨by rw [he], by rw [if_pos he]; exact ⟨I9, L9, R9, rfl, fr9, hC9, hY9, trivial⟩⟩)
set_option maxRecDepth 100000 in
set_option maxHeartbeats 4000000 in
theorem c_L_test (l : Launch) (hl : l.stackTraces = false) (D : va_G) (cy : Nat → ClassId) (M : qM) (ad : Nat → Nat) (hC : CSt M ad) (σ : qS) (hY : CDy σ ad (mI M) (mL M) (mR M)) (hW : WF σ) (r : Int) (hr9 : r32 r) (ou : Nat) (hou : qAr M ou 7 1) (hv9 : e_15 σ r = 0 → r32 (a_15 σ r)) : qCh l D cy yL_test cL_test 4 (some .int) [(0, 9, 12, 15), (0, 9, 15, 35), (0, 9, 18, 53)] { frames := 8, cells := 5, slots := 30, locals := 178 } 5 30 [.ref (ad 0), .int (qI (r)), .ref ou] M (fun v M' => v = some (.int (qI (e_15 σ r))) ∧ ∃ M1, poC M ad (if e_15 σ r = 0 then σ else σ) (fun _ => True) none M1 ∧ M' = (if e_15 σ r = 0 then sL M1 ou 0 (a_15 σ r) else M1)) := by
  refine qCh_of (lv0 := [(0, .ref (ad 0)), (1, .int (qI (r))), (2, .ref ou)]) (by decide) rfl (Nat.le_of_ble_eq_true rfl) ?_
  intro p e s m args below meth c G hNs htab hret
  have o0 := CS_x hC
  have hk_0 : ∀ (q9 : Nat), e_15 σ r = 1 → qK p l e { frames := 8, cells := 5, slots := 30, locals := 178 } s m args below meth c (vx_MQ below (qQ D cy (mP M) (fun v M' => v = some (.int (qI (e_15 σ r))) ∧ ∃ M1, poC M ad (if e_15 σ r = 0 then σ else σ) (fun _ => True) none M1 ∧ M' = (if e_15 σ r = 0 then sL M1 ou 0 (a_15 σ r) else M1))) (fun _ _ _ => False) args s 5 30 (qA (mP M) s.heap.size)) 4 D cy (qA (mP M) s.heap.size) (0 + 5) (0 + 30) 12 [(0, .ref (ad 0)), (1, .int (qI (r))), (2, .ref ou)] [.ref q9] M := by
    intro q9 he
    refine q_astore_n (lv' := [(3, .ref q9), (0, .ref (ad 0)), (1, .int (qI (r))), (2, .ref ou)]) G 3 dL_test_12 rfl (by decide) rfl ?_
    refine q_iconst G dL_test_13 ?_
    refine q_retX ?_
    exact q_iret G dL_test_14 hret (by omega) (by omega) (⟨by rw [he], M, by rw [if_neg (by rw [he]; decide)]; exact ⟨mI M, mL M, mR M, rfl, fun _ _ => ⟨rfl, rfl, rfl⟩, hC, hY, trivial⟩, by rw [if_neg (by rw [he]; decide)]⟩)
  have hk_1 : ∀ (q9 : Nat), e_15 σ r = 2 → qK p l e { frames := 8, cells := 5, slots := 30, locals := 178 } s m args below meth c (vx_MQ below (qQ D cy (mP M) (fun v M' => v = some (.int (qI (e_15 σ r))) ∧ ∃ M1, poC M ad (if e_15 σ r = 0 then σ else σ) (fun _ => True) none M1 ∧ M' = (if e_15 σ r = 0 then sL M1 ou 0 (a_15 σ r) else M1))) (fun _ _ _ => False) args s 5 30 (qA (mP M) s.heap.size)) 4 D cy (qA (mP M) s.heap.size) (0 + 5) (0 + 30) 15 [(0, .ref (ad 0)), (1, .int (qI (r))), (2, .ref ou)] [.ref q9] M := by
    intro q9 he
    refine q_astore_n (lv' := [(3, .ref q9), (0, .ref (ad 0)), (1, .int (qI (r))), (2, .ref ou)]) G 3 dL_test_15 rfl (by decide) rfl ?_
    refine q_iconst G dL_test_16 ?_
    refine q_retX ?_
    exact q_iret G dL_test_17 hret (by omega) (by omega) (⟨by rw [he], M, by rw [if_neg (by rw [he]; decide)]; exact ⟨mI M, mL M, mR M, rfl, fun _ _ => ⟨rfl, rfl, rfl⟩, hC, hY, trivial⟩, by rw [if_neg (by rw [he]; decide)]⟩)
  have hk_2 : ∀ (q9 : Nat), e_15 σ r = 3 → qK p l e { frames := 8, cells := 5, slots := 30, locals := 178 } s m args below meth c (vx_MQ below (qQ D cy (mP M) (fun v M' => v = some (.int (qI (e_15 σ r))) ∧ ∃ M1, poC M ad (if e_15 σ r = 0 then σ else σ) (fun _ => True) none M1 ∧ M' = (if e_15 σ r = 0 then sL M1 ou 0 (a_15 σ r) else M1))) (fun _ _ _ => False) args s 5 30 (qA (mP M) s.heap.size)) 4 D cy (qA (mP M) s.heap.size) (0 + 5) (0 + 30) 18 [(0, .ref (ad 0)), (1, .int (qI (r))), (2, .ref ou)] [.ref q9] M := by
    intro q9 he
    refine q_astore_n (lv' := [(3, .ref q9), (0, .ref (ad 0)), (1, .int (qI (r))), (2, .ref ou)]) G 3 dL_test_18 rfl (by decide) rfl ?_
    refine q_iconst G dL_test_19 ?_
    refine q_retX ?_
    exact q_iret G dL_test_20 hret (by omega) (by omega) (⟨by rw [he], M, by rw [if_neg (by rw [he]; decide)]; exact ⟨mI M, mL M, mR M, rfl, fun _ _ => ⟨rfl, rfl, rfl⟩, hC, hY, trivial⟩, by rw [if_neg (by rw [he]; decide)]⟩)
  refine q_aload_n G 2 2 dL_test_0 rfl rfl ?_
  refine q_iconst G dL_test_1 ?_
  refine q_aload_n G 0 0 dL_test_2 rfl rfl ?_
  refine q_iload_n G 1 1 dL_test_3 rfl rfl ?_
  refine q_callVX (As := [.int (qI (r))]) (rest := [.int (qI (0)), .ref ou]) G dL_test_4 cw_L_65 (c_X4_test l hl D cy M ad hC σ hY hW r hr9) o0.1 o0.2 (by decide) rfl rfl rfl (Nat.le_of_ble_eq_true rfl) rfl rfl ⟨Nat.le_of_ble_eq_true rfl, Nat.le_of_ble_eq_true rfl⟩ ⟨by first | decide | (dsimp only; omega), by first | decide | (dsimp only; omega)⟩ (fun E9 ce9 q9 H9 lc9 ls9 hx9 h91 h92 h93 h94 h95 h96 h97 => by rcases hx9 with ⟨rfl, he⟩ | ⟨rfl, he⟩ | ⟨rfl, he⟩; exact q_catch (E := sIS) (name := sIS) (hh := [(0, 9, 12, 15), (0, 9, 15, 35), (0, 9, 18, 53)]) (pre := []) (x := (0, 9, 12, 15)) (suf := [(0, 9, 15, 35), (0, 9, 18, 53)]) (hp := 12) G htab rfl (fun z hz => by exact absurd hz List.not_mem_nil) rfl (by decide) rfl (by decide +kernel) (by decide +kernel) h91 h92 h93 h94 h95 h96 h97 (hk_0 q9 he); exact q_catch (E := sIO) (name := sIO) (hh := [(0, 9, 12, 15), (0, 9, 15, 35), (0, 9, 18, 53)]) (pre := [(0, 9, 12, 15)]) (x := (0, 9, 15, 35)) (suf := [(0, 9, 18, 53)]) (hp := 15) G htab rfl (fun z hz => by rcases List.mem_cons.mp hz with rfl | hz; exact ⟨by decide, sIS, by decide +kernel, hNs (sIO, sIS) (by decide +kernel)⟩; exact absurd hz List.not_mem_nil) rfl (by decide) rfl (by decide +kernel) (by decide +kernel) h91 h92 h93 h94 h95 h96 h97 (hk_1 q9 he); exact q_catch (E := sNS) (name := sNS) (hh := [(0, 9, 12, 15), (0, 9, 15, 35), (0, 9, 18, 53)]) (pre := [(0, 9, 12, 15), (0, 9, 15, 35)]) (x := (0, 9, 18, 53)) (suf := []) (hp := 18) G htab rfl (fun z hz => by rcases List.mem_cons.mp hz with rfl | hz; exact ⟨by decide, sIS, by decide +kernel, hNs (sNS, sIS) (by decide +kernel)⟩; rcases List.mem_cons.mp hz with rfl | hz; exact ⟨by decide, sIO, by decide +kernel, hNs (sNS, sIO) (by decide +kernel)⟩; exact absurd hz List.not_mem_nil) rfl (by decide) rfl (by decide +kernel) (by decide +kernel) h91 h92 h93 h94 h95 h96 h97 (hk_2 q9 he)) (fun v9 M9 hq9 => ?_)
  obtain ⟨he, I9, L9, R9, rfl, fr9, hC9, hY9, rfl⟩ := hq9
  refine q_st (st2 := [.int (qI (a_15 σ r)), .int (qI (0)), .ref ou]) rfl ?_
  refine q_i2l G dL_test_7 (hv9 he) ?_
  refine q_lastore G dL_test_8 hou.1 hou.2.1 (by first | assumption | omega) (show (0) < ((mN M ou : Nat) : Int) by rw [hou.2.2]; omega) (show mN M ou < 2147483648 by rw [hou.2.2]; decide) ?_
  refine q_goto (tgt := 21) G dL_test_9 (by decide) ?_
  refine q_iconst G dL_test_21 ?_
  refine q_retX ?_
  exact q_iret G dL_test_22 hret (by omega) (by omega) (⟨by rw [he], wD M I9 L9 R9, by rw [if_pos he]; exact ⟨I9, L9, R9, rfl, fr9, hC9, hY9, trivial⟩, by rw [if_pos he]; rfl⟩)
set_option maxRecDepth 100000 in
set_option maxHeartbeats 4000000 in
theorem c_L_order (l : Launch) (hl : l.stackTraces = false) (D : va_G) (cy : Nat → ClassId) (M : qM) (ad : Nat → Nat) (hC : CSt M ad) (σ : qS) (hY : CDy σ ad (mI M) (mL M) (mR M)) (hW : WF σ) (n : Int) (hn9 : r32 n) (ou : Nat) (hou : qAr M ou 7 1) (hv9 : e_16 σ n = 0 → r32 (a_16 σ n)) : qCh l D cy yL_order cL_order 4 (some .int) [(0, 9, 12, 15), (0, 9, 15, 13)] { frames := 8, cells := 2, slots := 12, locals := 146 } 2 12 [.ref (ad 0), .int (qI (n)), .ref ou] M (fun v M' => v = some (.int (qI (e_16 σ n))) ∧ ∃ M1, poC M ad (if e_16 σ n = 0 then σ else σ) (fun _ => True) none M1 ∧ M' = (if e_16 σ n = 0 then sL M1 ou 0 (a_16 σ n) else M1)) := by
  refine qCh_of (lv0 := [(0, .ref (ad 0)), (1, .int (qI (n))), (2, .ref ou)]) (by decide) rfl (Nat.le_of_ble_eq_true rfl) ?_
  intro p e s m args below meth c G hNs htab hret
  have o0 := CS_x hC
  have hk_0 : ∀ (q9 : Nat), e_16 σ n = 1 → qK p l e { frames := 8, cells := 2, slots := 12, locals := 146 } s m args below meth c (vx_MQ below (qQ D cy (mP M) (fun v M' => v = some (.int (qI (e_16 σ n))) ∧ ∃ M1, poC M ad (if e_16 σ n = 0 then σ else σ) (fun _ => True) none M1 ∧ M' = (if e_16 σ n = 0 then sL M1 ou 0 (a_16 σ n) else M1))) (fun _ _ _ => False) args s 2 12 (qA (mP M) s.heap.size)) 4 D cy (qA (mP M) s.heap.size) (0 + 2) (0 + 12) 12 [(0, .ref (ad 0)), (1, .int (qI (n))), (2, .ref ou)] [.ref q9] M := by
    intro q9 he
    refine q_astore_n (lv' := [(3, .ref q9), (0, .ref (ad 0)), (1, .int (qI (n))), (2, .ref ou)]) G 3 dL_order_12 rfl (by decide) rfl ?_
    refine q_iconst G dL_order_13 ?_
    refine q_retX ?_
    exact q_iret G dL_order_14 hret (by omega) (by omega) (⟨by rw [he], M, by rw [if_neg (by rw [he]; decide)]; exact ⟨mI M, mL M, mR M, rfl, fun _ _ => ⟨rfl, rfl, rfl⟩, hC, hY, trivial⟩, by rw [if_neg (by rw [he]; decide)]⟩)
  have hk_1 : ∀ (q9 : Nat), e_16 σ n = 2 → qK p l e { frames := 8, cells := 2, slots := 12, locals := 146 } s m args below meth c (vx_MQ below (qQ D cy (mP M) (fun v M' => v = some (.int (qI (e_16 σ n))) ∧ ∃ M1, poC M ad (if e_16 σ n = 0 then σ else σ) (fun _ => True) none M1 ∧ M' = (if e_16 σ n = 0 then sL M1 ou 0 (a_16 σ n) else M1))) (fun _ _ _ => False) args s 2 12 (qA (mP M) s.heap.size)) 4 D cy (qA (mP M) s.heap.size) (0 + 2) (0 + 12) 15 [(0, .ref (ad 0)), (1, .int (qI (n))), (2, .ref ou)] [.ref q9] M := by
    intro q9 he
    refine q_astore_n (lv' := [(3, .ref q9), (0, .ref (ad 0)), (1, .int (qI (n))), (2, .ref ou)]) G 3 dL_order_15 rfl (by decide) rfl ?_
    refine q_iconst G dL_order_16 ?_
    refine q_retX ?_
    exact q_iret G dL_order_17 hret (by omega) (by omega) (⟨by rw [he], M, by rw [if_neg (by rw [he]; decide)]; exact ⟨mI M, mL M, mR M, rfl, fun _ _ => ⟨rfl, rfl, rfl⟩, hC, hY, trivial⟩, by rw [if_neg (by rw [he]; decide)]⟩)
  refine q_aload_n G 2 2 dL_order_0 rfl rfl ?_
  refine q_iconst G dL_order_1 ?_
  refine q_aload_n G 0 0 dL_order_2 rfl rfl ?_
  refine q_iload_n G 1 1 dL_order_3 rfl rfl ?_
  refine q_callVX (As := [.int (qI (n))]) (rest := [.int (qI (0)), .ref ou]) G dL_order_4 cw_L_68 (c_X4_order l hl D cy M ad hC σ hY hW n hn9) o0.1 o0.2 (by decide) rfl rfl rfl (Nat.le_of_ble_eq_true rfl) rfl rfl ⟨Nat.le_of_ble_eq_true rfl, Nat.le_of_ble_eq_true rfl⟩ ⟨by first | decide | (dsimp only; omega), by first | decide | (dsimp only; omega)⟩ (fun E9 ce9 q9 H9 lc9 ls9 hx9 h91 h92 h93 h94 h95 h96 h97 => by rcases hx9 with ⟨rfl, he⟩ | ⟨rfl, he⟩; exact q_catch (E := sIS) (name := sIS) (hh := [(0, 9, 12, 15), (0, 9, 15, 13)]) (pre := []) (x := (0, 9, 12, 15)) (suf := [(0, 9, 15, 13)]) (hp := 12) G htab rfl (fun z hz => by exact absurd hz List.not_mem_nil) rfl (by decide) rfl (by decide +kernel) (by decide +kernel) h91 h92 h93 h94 h95 h96 h97 (hk_0 q9 he); exact q_catch (E := sIA) (name := sIA) (hh := [(0, 9, 12, 15), (0, 9, 15, 13)]) (pre := [(0, 9, 12, 15)]) (x := (0, 9, 15, 13)) (suf := []) (hp := 15) G htab rfl (fun z hz => by rcases List.mem_cons.mp hz with rfl | hz; exact ⟨by decide, sIS, by decide +kernel, hNs (sIA, sIS) (by decide +kernel)⟩; exact absurd hz List.not_mem_nil) rfl (by decide) rfl (by decide +kernel) (by decide +kernel) h91 h92 h93 h94 h95 h96 h97 (hk_1 q9 he)) (fun v9 M9 hq9 => ?_)
  obtain ⟨he, I9, L9, R9, rfl, fr9, hC9, hY9, rfl⟩ := hq9
  refine q_st (st2 := [.int (qI (a_16 σ n)), .int (qI (0)), .ref ou]) rfl ?_
  refine q_i2l G dL_order_7 (hv9 he) ?_
  refine q_lastore G dL_order_8 hou.1 hou.2.1 (by first | assumption | omega) (show (0) < ((mN M ou : Nat) : Int) by rw [hou.2.2]; omega) (show mN M ou < 2147483648 by rw [hou.2.2]; decide) ?_
  refine q_goto (tgt := 18) G dL_order_9 (by decide) ?_
  refine q_iconst G dL_order_18 ?_
  refine q_retX ?_
  exact q_iret G dL_order_19 hret (by omega) (by omega) (⟨by rw [he], wD M I9 L9 R9, by rw [if_pos he]; exact ⟨I9, L9, R9, rfl, fr9, hC9, hY9, trivial⟩, by rw [if_pos he]; rfl⟩)
set_option maxRecDepth 100000 in
set_option maxHeartbeats 4000000 in
theorem c_L_classes (l : Launch) (hl : l.stackTraces = false) (D : va_G) (cy : Nat → ClassId) (M : qM) (ad : Nat → Nat) (hC : CSt M ad) (σ : qS) (hY : CDy σ ad (mI M) (mL M) (mR M)) (hW : WF σ) (ou : Nat) (hou : qAr M ou 7 1) (hv9 : e_17 σ = 0 → r32 (a_17 σ)) : qCh l D cy yL_classes cL_classes 3 (some .int) [(0, 8, 11, 15), (0, 8, 14, 13)] { frames := 8, cells := 2, slots := 12, locals := 133 } 2 12 [.ref (ad 0), .ref ou] M (fun v M' => v = some (.int (qI (e_17 σ))) ∧ ∃ M1, poC M ad (if e_17 σ = 0 then σ else σ) (fun _ => True) none M1 ∧ M' = (if e_17 σ = 0 then sL M1 ou 0 (a_17 σ) else M1)) := by
  refine qCh_of (lv0 := [(0, .ref (ad 0)), (1, .ref ou)]) (by decide) rfl (Nat.le_of_ble_eq_true rfl) ?_
  intro p e s m args below meth c G hNs htab hret
  have o0 := CS_x hC
  have hk_0 : ∀ (q9 : Nat), e_17 σ = 1 → qK p l e { frames := 8, cells := 2, slots := 12, locals := 133 } s m args below meth c (vx_MQ below (qQ D cy (mP M) (fun v M' => v = some (.int (qI (e_17 σ))) ∧ ∃ M1, poC M ad (if e_17 σ = 0 then σ else σ) (fun _ => True) none M1 ∧ M' = (if e_17 σ = 0 then sL M1 ou 0 (a_17 σ) else M1))) (fun _ _ _ => False) args s 2 12 (qA (mP M) s.heap.size)) 3 D cy (qA (mP M) s.heap.size) (0 + 2) (0 + 12) 11 [(0, .ref (ad 0)), (1, .ref ou)] [.ref q9] M := by
    intro q9 he
    refine q_astore_n (lv' := [(2, .ref q9), (0, .ref (ad 0)), (1, .ref ou)]) G 2 dL_classes_11 rfl (by decide) rfl ?_
    refine q_iconst G dL_classes_12 ?_
    refine q_retX ?_
    exact q_iret G dL_classes_13 hret (by omega) (by omega) (⟨by rw [he], M, by rw [if_neg (by rw [he]; decide)]; exact ⟨mI M, mL M, mR M, rfl, fun _ _ => ⟨rfl, rfl, rfl⟩, hC, hY, trivial⟩, by rw [if_neg (by rw [he]; decide)]⟩)
  have hk_1 : ∀ (q9 : Nat), e_17 σ = 2 → qK p l e { frames := 8, cells := 2, slots := 12, locals := 133 } s m args below meth c (vx_MQ below (qQ D cy (mP M) (fun v M' => v = some (.int (qI (e_17 σ))) ∧ ∃ M1, poC M ad (if e_17 σ = 0 then σ else σ) (fun _ => True) none M1 ∧ M' = (if e_17 σ = 0 then sL M1 ou 0 (a_17 σ) else M1))) (fun _ _ _ => False) args s 2 12 (qA (mP M) s.heap.size)) 3 D cy (qA (mP M) s.heap.size) (0 + 2) (0 + 12) 14 [(0, .ref (ad 0)), (1, .ref ou)] [.ref q9] M := by
    intro q9 he
    refine q_astore_n (lv' := [(2, .ref q9), (0, .ref (ad 0)), (1, .ref ou)]) G 2 dL_classes_14 rfl (by decide) rfl ?_
    refine q_iconst G dL_classes_15 ?_
    refine q_retX ?_
    exact q_iret G dL_classes_16 hret (by omega) (by omega) (⟨by rw [he], M, by rw [if_neg (by rw [he]; decide)]; exact ⟨mI M, mL M, mR M, rfl, fun _ _ => ⟨rfl, rfl, rfl⟩, hC, hY, trivial⟩, by rw [if_neg (by rw [he]; decide)]⟩)
  refine q_aload_n G 1 1 dL_classes_0 rfl rfl ?_
  refine q_iconst G dL_classes_1 ?_
  refine q_aload_n G 0 0 dL_classes_2 rfl rfl ?_
  refine q_callVX (As := []) (rest := [.int (qI (0)), .ref ou]) G dL_classes_3 cw_L_71 (c_X4_classes l hl D cy M ad hC σ hY hW) o0.1 o0.2 (by decide) rfl rfl rfl (Nat.le_of_ble_eq_true rfl) rfl rfl ⟨Nat.le_of_ble_eq_true rfl, Nat.le_of_ble_eq_true rfl⟩ ⟨by first | decide | (dsimp only; omega), by first | decide | (dsimp only; omega)⟩ (fun E9 ce9 q9 H9 lc9 ls9 hx9 h91 h92 h93 h94 h95 h96 h97 => by rcases hx9 with ⟨rfl, he⟩ | ⟨rfl, he⟩; exact q_catch (E := sIS) (name := sIS) (hh := [(0, 8, 11, 15), (0, 8, 14, 13)]) (pre := []) (x := (0, 8, 11, 15)) (suf := [(0, 8, 14, 13)]) (hp := 11) G htab rfl (fun z hz => by exact absurd hz List.not_mem_nil) rfl (by decide) rfl (by decide +kernel) (by decide +kernel) h91 h92 h93 h94 h95 h96 h97 (hk_0 q9 he); exact q_catch (E := sIA) (name := sIA) (hh := [(0, 8, 11, 15), (0, 8, 14, 13)]) (pre := [(0, 8, 11, 15)]) (x := (0, 8, 14, 13)) (suf := []) (hp := 14) G htab rfl (fun z hz => by rcases List.mem_cons.mp hz with rfl | hz; exact ⟨by decide, sIS, by decide +kernel, hNs (sIA, sIS) (by decide +kernel)⟩; exact absurd hz List.not_mem_nil) rfl (by decide) rfl (by decide +kernel) (by decide +kernel) h91 h92 h93 h94 h95 h96 h97 (hk_1 q9 he)) (fun v9 M9 hq9 => ?_)
  obtain ⟨he, I9, L9, R9, rfl, fr9, hC9, hY9, rfl⟩ := hq9
  refine q_st (st2 := [.int (qI (a_17 σ)), .int (qI (0)), .ref ou]) rfl ?_
  refine q_i2l G dL_classes_6 (hv9 he) ?_
  refine q_lastore G dL_classes_7 hou.1 hou.2.1 (by first | assumption | omega) (show (0) < ((mN M ou : Nat) : Int) by rw [hou.2.2]; omega) (show mN M ou < 2147483648 by rw [hou.2.2]; decide) ?_
  refine q_goto (tgt := 17) G dL_classes_8 (by decide) ?_
  refine q_iconst G dL_classes_17 ?_
  refine q_retX ?_
  exact q_iret G dL_classes_18 hret (by omega) (by omega) (⟨by rw [he], wD M I9 L9 R9, by rw [if_pos he]; exact ⟨I9, L9, R9, rfl, fr9, hC9, hY9, trivial⟩, by rw [if_pos he]; rfl⟩)
