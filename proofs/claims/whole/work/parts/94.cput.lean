/-! a call that may throw when the memory has changed -/
def qXD (D : va_G) (cy : Nat → ClassId) (P0 : List Nat) (X : String → qM → Prop) : String → State → State → Prop := fun E st t =>
  ∃ M', X E M' ∧ va_P D vwCl (qW cy M') t.heap ∧ va_D (qA P0 st.heap.size) (qW cy M') ∧ va_F (qA P0 st.heap.size) st t
def qCy (l : Launch) (D : va_G) (cy : Nat → ClassId) (y : MethodName) (bytes : ByteArray) (maxL : Nat) (ret : Option FieldType) (rm : Room) (mc ms : Nat) (As : List Value) (M : qM) (Qv : Option Value → qM → Prop) (X : String → qM → Prop) : Prop :=
  ∀ sz : Nat, vx_Met l y (Cond.code y bytes maxL ret :: qB) rm (qPc D cy As M sz) (qQ D cy (mP M) Qv) (qXD D cy (mP M) X) mc ms (qA (mP M) sz)
section QY
variable {p : Program} {l : Launch} {e : Env} {R : Room} {s : State} {m : MethodId} {args : Array Value} {below : List Frame} {meth : Method} {c : Code} {Q : State → Prop}
variable {cc : ByteArray} {nL : Nat} {own : String} {D : va_G} {cy : Nat → ClassId} {A : Nat → Prop} {cells slots : Nat} {pc : Nat} {lv lv' : List (Nat × Value)} {st : List Value} {M : qM}
theorem q_throwY {ik ic is mc ms : Nat} {cls text : String} {P0 : List Nat} {Qv : Option Value → qM → Prop} {X : String → qM → Prop} (G : qG p s m args meth c cc nL own D cy (qA P0 s.heap.size)) (hl : l.stackTraces = false) (hw : qTh own ik ic is cls text) (hX : X cls M)
    (d0 : decode cc pc = .ok (.new ik, 3)) (d3 : decode cc (pc + 3) = .ok (.dup, 1)) (d4 : decode cc (pc + 4) = .ok (.ldc is, 2)) (d6 : decode cc (pc + 6) = .ok (.invokespecial ic, 3)) (d9 : decode cc (pc + 9) = .ok (.athrow, 1)) (ht : ∀ x ∈ c.exceptionTable.toList, False)
    (hRf : 5 < R.frames) (hRl : (st.map fun v => v.category).sum + 82 ≤ R.locals) (hRc : cells + 1 ≤ R.cells) (hRs : slots + 6 ≤ R.slots) (hc : cells + 1 ≤ mc) (hs : slots + 6 ≤ ms) : qK p l e R s m args below meth c (vx_MQ below (qQ D cy P0 Qv) (qXD D cy P0 X) args s mc ms (qA P0 s.heap.size)) nL D cy (qA P0 s.heap.size) cells slots (pc) lv (st) (M) := by
  intro H locs ls hP hD hS hL
  obtain ⟨⟨w1, w2⟩, rfl, w4, w5, w6⟩ := hw
  obtain ⟨hK, hN, hU, hZ, hstr⟩ := G.2.2.2.2.2.2.1
  obtain ⟨sa, hsa⟩ := hstr _ w4
  refine vx_throwS (names := qXn) (A := qA P0 s.heap.size) G.1 G.2.1 hl G.2.2.2.1 w5 (by decide +kernel) (G.2.2.2.2.1 _ w1) (G.2.2.2.2.1 _ w2) hsa (fun w h => ?_) (fun w h => ?_) hU hZ hS (hL.1.trans G.2.2.1.symm) d0 d3 d4 d6 d9 (fun x h => absurd (ht x h) id) (show 2 + 3 < _ by omega) (show _ + (13 * (2 + 1) + 43) ≤ _ by omega) hRc hRs G.2.2.2.2.2.1 (fun t hvm hz hk => ?_) hS.2.2 hc hs
  · rcases (w6 w h).1 with h1 | h1
    · exact G.2.2.2.2.1 _ h1
    · exact qX_use h1 (w6 w h).2 (hN _ h1)
  · rcases List.mem_cons.mp h with rfl | h
    · rfl
    · rcases List.mem_cons.mp h with rfl | h
      · rfl
      · exact (w6 w h).2
  · refine ⟨M, hX, fun k q hq => ?_, hD, Nat.le_trans hS.1 hz, fun q h1 h2 => ?_⟩
    · exact (hP k q hq).kept (hk q.1 (hP k q hq).lt)
    · rw [hk q (Nat.lt_of_lt_of_le h1 hS.1)]; exact hS.2.1 q h1 h2
theorem q_outY {mc ms : Nat} {Qv : Option Value → qM → Prop} {X : String → qM → Prop} {P0 : List Nat} {E : String} {ce : Cell} {q : Addr} {H1 : Heap} {locs1 : List Loc} {ls : Array Slot} (G : qG p s m args meth c cc nL own D cy (qA P0 s.heap.size)) (ht : ∀ x ∈ c.exceptionTable.toList, False) (hX : X E M) (hP : va_P D vwCl (qW cy M) H1) (hD : va_D (qA P0 s.heap.size) (qW cy M)) (hS : va_S (qA P0 s.heap.size) s.heap H1 locs1) (h1 : H1[q]? = some ce) (h2 : ce.vm = .none) (h3 : s.vm.findClass E = some ce.cls) (hc : cells ≤ mc) (hs : slots ≤ ms) :
    vx_W p l e R s m args below meth c H1 locs1 cells slots (vx_MQ below (qQ D cy P0 Qv) (qXD D cy P0 X) args s mc ms (qA P0 s.heap.size)) (F0 m pc ls st) q :=
  vx_out (fun x h => absurd (ht x h) id) G.2.2.2.2.2.1 h1 h2 h3 (fun t ht9 _ => ⟨M, hX, by rw [ht9]; exact hP, hD, hS.F ht9⟩) hS.2.2 hc hs
end QY
section QZ
variable {l : Launch} {D : va_G} {cy : Nat → ClassId} {y : MethodName} {bytes : ByteArray} {maxL : Nat} {ret : Option FieldType} {rm : Room} {mc ms : Nat} {As : List Value} {M : qM} {Qv : Option Value → qM → Prop} {X : String → qM → Prop}
theorem qCy_of {lv0 : List (Nat × Value)} (hy : plainName y.cls = true) (hlv : lv_args 0 As = lv0) (hn : (lg_sl As).length ≤ maxL)
    (body : ∀ (p : Program) (e : Env) (s : State) (m : MethodId) (args : Array Value) (below : List Frame) (meth : Method) (c : Code), qG p s m args meth c bytes maxL y.cls D cy (qA (mP M) s.heap.size) → (∀ x ∈ c.exceptionTable.toList, False) → meth.sig.returnType = ret →
      qK p l e rm s m args below meth c (vx_MQ below (qQ D cy (mP M) Qv) (qXD D cy (mP M) X) args s mc ms (qA (mP M) s.heap.size)) maxL D cy (qA (mP M) s.heap.size) 0 0 0 lv0 [] M) : qCy l D cy y bytes maxL ret rm mc ms As M Qv X := by
  intro sz
  refine vx_ofW (cc := bytes) (maxL := maxL) (ret := ret) hy rfl ?_
  intro p e s m args below meth c s₁ B hml htab hv
  obtain ⟨ha, hsz, hP, hD, hE⟩ := hv
  subst ha
  subst hsz
  have hts := atoms_spec (ws := Cond.code y bytes maxL ret :: qB) B.pre
  have G : qG p s m As.toArray meth c bytes maxL y.cls D cy (qA (mP M) s.heap.size) := ⟨B.exec, B.bytes, hml, findClass_of_methodNamed B.named, fun w h => hts w (List.mem_cons_of_mem _ h), B.notSynchronized, hE, fun q h => Or.inr h⟩
  have hl := lv_entry As (n := maxL) hn
  rw [lg_entry_eq]
  rw [hlv] at hl
  exact body p e s m As.toArray below meth c G htab B.returns s.heap [] _ hP (qD_self hD) va_S.rf hl
end QZ
set_option maxRecDepth 100000 in
set_option maxHeartbeats 4000000 in
theorem c_X4_put (l : Launch) (hl : l.stackTraces = false) (D : va_G) (cy : Nat → ClassId) (M : qM) (ad : Nat → Nat) (hC : CSt M ad) (σ : qS) (hY : CDy σ ad (mI M) (mL M) (mR M)) (hW : WF σ) (i a b : Int) (hi : r32 i) (ha : r32 a) (hb : r32 b) : qCy l D cy yX4_put cX4_put 4 none { frames := 7, cells := 3, slots := 18, locals := 112 } 3 18 [.ref (ad 0), .int (qI (i)), .int (qI (a)), .int (qI (b))] M (fun v M' => e_10 σ i a b = 0 ∧ poC M ad (n_10 σ i a b) (fun v => v = none) v M') (fun E M' => ((E = sIS ∧ e_10 σ i a b = 1) ∨ (E = sIO ∧ e_10 σ i a b = 2) ∨ (E = sIA ∧ e_10 σ i a b = 3)) ∧ poC M ad σ (fun _ => True) none M') := by
  refine qCy_of (lv0 := [(0, .ref (ad 0)), (1, .int (qI (i))), (2, .int (qI (a))), (3, .int (qI (b)))]) (by decide) rfl (Nat.le_of_ble_eq_true rfl) ?_
  intro p e s m args below meth c G ht hret
  obtain ⟨⟨y4, y5, y6⟩, yD, yV, yF, yB, yR, -⟩ := id hY
  obtain ⟨w1, w2, w3⟩ := WF_n hW
  have o0 := CS_x hC
  have o1 := CS_fo hC
  have a11 := CS_a1 hC
  have a12 := CS_a2 hC
  have a13 := CS_a3 hC
  obtain ⟨s0, s1, s2, s3⟩ := hC.2.2.2.1
  have z4 : mI M (ad 0) 4 = 0 ∨ mI M (ad 0) 4 = 1 := by omega
  refine q_aload_n G 0 0 dX4_put_0 rfl rfl ?_
  refine q_callVX (As := []) (rest := []) G dX4_put_1 cw_X4_63 (c_X4_needDiscriminant l hl D cy M (ad 0) o0 z4) o0.1 o0.2 (by decide) rfl rfl rfl (Nat.le_of_ble_eq_true rfl) rfl rfl ⟨Nat.le_of_ble_eq_true rfl, Nat.le_of_ble_eq_true rfl⟩ ⟨by decide, by decide⟩ (fun E9 ce9 q9 H9 lc9 ls9 hx9 h91 h92 h93 h94 h95 h96 h97 => q_outY G ht ⟨Or.inl (⟨hx9.1, by have h9 := hx9.2; unfold e_10; omega⟩), ⟨mI M, mL M, mR M, rfl, fun _ _ => ⟨rfl, rfl, rfl⟩, hC, hY, trivial⟩⟩ h91 h92 h93 h95 h96 h97 (by omega) (by omega)) (fun v9 M9 hq9 => ?_)
  obtain ⟨⟨rfl, e9⟩, zD⟩ := hq9
  refine q_st (st2 := []) rfl ?_
  refine q_mem e9 ?_
  refine q_iload_n G 1 1 dX4_put_4 rfl rfl ?_
  refine q_callSX (As := [.int (qI (i))]) (rest := []) G dX4_put_5 cw_X4_170 (c_X4_needSlot l hl D cy M i (by omega)) rfl rfl (Nat.le_of_ble_eq_true rfl) rfl rfl ⟨Nat.le_of_ble_eq_true rfl, Nat.le_of_ble_eq_true rfl⟩ ⟨by decide, by decide⟩ (fun E9 ce9 q9 H9 lc9 ls9 hx9 h91 h92 h93 h94 h95 h96 h97 => q_outY G ht ⟨Or.inr (Or.inl (⟨hx9.1, by have h9 := hx9.2; unfold e_10; omega⟩)), ⟨mI M, mL M, mR M, rfl, fun _ _ => ⟨rfl, rfl, rfl⟩, hC, hY, trivial⟩⟩ h91 h92 h93 h95 h96 h97 (by omega) (by omega)) (fun v9 M9 hq9 => ?_)
  obtain ⟨⟨rfl, e9⟩, zI⟩ := hq9
  refine q_st (st2 := []) rfl ?_
  refine q_mem e9 ?_
  have hD0 : sD σ ≠ 0 := by omega
  have hd : dOk (sD σ) := by rcases hW.1 with h9 | h9; exact absurd h9 hD0; exact h9
  obtain ⟨d1, d2, d3⟩ := yD hD0
  have hd7 := hd.1
  have hd9 := hd.2.1
  have hdm : dOk (mI M (ad 1) 0) := by rw [d1]; exact hd
  have hFO := CS_FO hC (by omega)
  have hun : gT (mL M) (ad 2) = unT (mI M (ad 1) 0) := by rw [d1]; exact d2
  have hge : gd (mI M (ad 1) 0) (gT (mL M) (ad 3)) := by rw [d1, d3]; exact (geT_gd hd).1
  refine q_iload_n G 2 2 dX4_put_8 rfl rfl ?_
  refine q_iconst G dX4_put_9 ?_
  refine q_icmp_lt (tgt := 45) G dX4_put_10 (by decide) (by first | assumption | omega) (by first | assumption | omega) (fun c1 => ?_) (fun c1 => ?_)
  · exact q_throwY G hl qt_47_179 ⟨Or.inr (Or.inr ⟨rfl, by have h7 : bI (okP (sD σ) a b) = 0 := bI_0 (fun h9 => by have h8 := h9.1; omega); unfold e_10; omega⟩), ⟨mI M, mL M, mR M, rfl, fun _ _ => ⟨rfl, rfl, rfl⟩, hC, hY, trivial⟩⟩ dX4_put_45 dX4_put_48 dX4_put_49 dX4_put_51 dX4_put_54 ht (by decide) (by decide) (by decide) (by decide) (by omega) (by omega)
  · refine q_iload_n G 2 2 dX4_put_13 rfl rfl ?_
    refine q_ldc (z := 100000) G dX4_put_14 tw_372 (by decide +kernel) ?_
    refine q_icmp_gt (tgt := 45) G dX4_put_16 (by decide) (by first | assumption | omega) (by first | assumption | omega) (fun c2 => ?_) (fun c2 => ?_)
    · exact q_throwY G hl qt_47_179 ⟨Or.inr (Or.inr ⟨rfl, by have h7 : bI (okP (sD σ) a b) = 0 := bI_0 (fun h9 => by have h8 := h9.1; omega); unfold e_10; omega⟩), ⟨mI M, mL M, mR M, rfl, fun _ _ => ⟨rfl, rfl, rfl⟩, hC, hY, trivial⟩⟩ dX4_put_45 dX4_put_48 dX4_put_49 dX4_put_51 dX4_put_54 ht (by decide) (by decide) (by decide) (by decide) (by omega) (by omega)
    · refine q_iload_n G 3 3 dX4_put_19 rfl rfl ?_
      refine q_ldc (z := -100000) G dX4_put_20 tw_480 (by decide +kernel) ?_
      refine q_icmp_lt (tgt := 45) G dX4_put_22 (by decide) (by first | assumption | omega) (by first | assumption | omega) (fun c3 => ?_) (fun c3 => ?_)
      · exact q_throwY G hl qt_47_179 ⟨Or.inr (Or.inr ⟨rfl, by have h7 : bI (okP (sD σ) a b) = 0 := bI_0 (fun h9 => by have h8 := h9.1; omega); unfold e_10; omega⟩), ⟨mI M, mL M, mR M, rfl, fun _ _ => ⟨rfl, rfl, rfl⟩, hC, hY, trivial⟩⟩ dX4_put_45 dX4_put_48 dX4_put_49 dX4_put_51 dX4_put_54 ht (by decide) (by decide) (by decide) (by decide) (by omega) (by omega)
      · refine q_iload_n G 3 3 dX4_put_25 rfl rfl ?_
        refine q_ldc (z := 100000) G dX4_put_26 tw_372 (by decide +kernel) ?_
        refine q_icmp_gt (tgt := 45) G dX4_put_28 (by decide) (by first | assumption | omega) (by first | assumption | omega) (fun c4 => ?_) (fun c4 => ?_)
        · exact q_throwY G hl qt_47_179 ⟨Or.inr (Or.inr ⟨rfl, by have h7 : bI (okP (sD σ) a b) = 0 := bI_0 (fun h9 => by have h8 := h9.1; omega); unfold e_10; omega⟩), ⟨mI M, mL M, mR M, rfl, fun _ _ => ⟨rfl, rfl, rfl⟩, hC, hY, trivial⟩⟩ dX4_put_45 dX4_put_48 dX4_put_49 dX4_put_51 dX4_put_54 ht (by decide) (by decide) (by decide) (by decide) (by omega) (by omega)
        · refine q_aload_n G 0 0 dX4_put_31 rfl rfl ?_
          refine q_gt (v := .ref (ad 1)) G dX4_put_32 fl_X4_10 o0 (by decide) rfl (congrArg va_rf s0) ?_
          refine q_iload_n G 2 2 dX4_put_35 rfl rfl ?_
          refine q_i2l G dX4_put_36 (by first | assumption | omega) ?_
          refine q_iload_n G 3 3 dX4_put_37 rfl rfl ?_
          refine q_i2l G dX4_put_38 (by first | assumption | omega) ?_
          refine q_callV (As := [.long (qL (a)), .long (qL (b))]) (rest := []) G dX4_put_39 cw_X4_175 (c_X2_hasForm l D cy M (ad 1) (ad 4) o1 (hC.2.2.2.2.1 3 (by decide) (by decide)) (hC.1 4 (by decide)) a b (by omega) (by omega) (by omega) (by omega)) o1.1 o1.2 (by decide) rfl rfl rfl (Nat.le_of_ble_eq_true rfl) rfl rfl ⟨Nat.le_of_ble_eq_true rfl, Nat.le_of_ble_eq_true rfl⟩ ⟨by decide, by decide⟩ (fun v9 M9 hq9 => ?_)
          obtain ⟨z9, rfl, hz, x1, x2, x3, e9⟩ := hq9
          refine q_st (st2 := [.int (qI (z9))]) rfl ?_
          refine q_mem (M2 := wL M (stF (mL M) (ad 4) x1 x2 x3)) e9 ?_
          rw [d1] at hz
          have fa : frA ad (mL M) (stF (mL M) (ad 4) x1 x2 x3) [4] := frA_st 4 (by decide) _ _ _
          refine q_if_ne (tgt := 55) G dX4_put_42 (by decide) (by omega) (fun c5 => ?_) (fun c5 => ?_)
          · have hok : okP (sD σ) a b := ⟨by omega, by rcases hz with h8 | h8; exact h8.2; omega⟩
            have he : e_10 σ i a b = 0 := by have h7 := bI_1 hok; unfold e_10; omega
            obtain ⟨p1, p2, p3, p4, p5, p6⟩ := put_rng (a := a) (b := b) (d := sD σ) (by omega) (by omega) (by omega) (by omega) (by omega) (by omega)
            clear hz hok p3
            rw [← d1] at p1 p2
            refine q_aload_n G 0 0 dX4_put_55 rfl rfl ?_
            refine q_gt (v := .ref (ad 1)) G dX4_put_56 fl_X4_10 o0 (by decide) rfl (congrArg va_rf s0) ?_
            refine q_aload_n G 0 0 dX4_put_59 rfl rfl ?_
            refine q_gt (v := .ref (ad 12)) G dX4_put_60 fl_X4_25 o0 (by decide) rfl (congrArg va_rf s2) ?_
            refine q_iload_n G 1 1 dX4_put_63 rfl rfl ?_
            refine q_aaloadF G dX4_put_64 a12.1 a12.2.1 (by first | assumption | omega) (show (i) < ((mN M (ad 12) : Nat) : Int) by rw [a12.2.2]; omega) (show mN M (ad 12) < 2147483648 by rw [a12.2.2]; decide) ?_
            refine q_st (st2 := [.ref (ad (78 + (Int.toNat i))), .ref (ad 1)]) (congrArg (fun z => va_rf z :: _) (hC.2.2.2.2.2.2.1 (Int.toNat i) (by omega))) ?_
            refine q_iload_n G 2 2 dX4_put_65 rfl rfl ?_
            refine q_i2l G dX4_put_66 (by first | assumption | omega) ?_
            refine q_iload_n G 3 3 dX4_put_67 rfl rfl ?_
            refine q_i2l G dX4_put_68 (by first | assumption | omega) ?_
            refine q_callV (As := [.ref (ad (78 + (Int.toNat i))), .long (qL (a)), .long (qL (b))]) (rest := []) G dX4_put_69 cw_X4_181 (c_X2_complete l D cy (wL M (stF (mL M) (ad 4) x1 x2 x3)) (ad 1) (ad (78 + (Int.toNat i))) o1 (CS_fm hC (show 30 ≤ 78 + Int.toNat i by omega) (by omega)) a b (show r64 (b * b + mI M (ad 1) 0) by omega) (by omega) (show r32 (mI M (ad 1) 0) by omega)) o1.1 o1.2 (by decide) rfl rfl rfl (Nat.le_of_ble_eq_true rfl) rfl rfl ⟨Nat.le_of_ble_eq_true rfl, Nat.le_of_ble_eq_true rfl⟩ ⟨by decide, by decide⟩ (fun v9 M9 hq9 => ?_)
            obtain ⟨rfl, e9⟩ := hq9
            refine q_mem e9 ?_
            refine q_st (st2 := []) rfl ?_
            refine q_mem (M2 := wL M (stF (stF (mL M) (ad 4) x1 x2 x3) (ad (78 + Int.toNat i)) a b ((b * b + sD σ) / (4 * a)))) (by rw [show quo (b * b + mI (wL M (stF (mL M) (ad 4) x1 x2 x3)) (ad 1) 0) (4 * a) = (b * b + sD σ) / (4 * a) by show quo (b * b + mI M (ad 1) 0) (4 * a) = _; rw [d1]; unfold quo; rw [if_neg (by omega)]; exact p4]; rfl) ?_
            have fc : frA ad (mL M) (stF (stF (mL M) (ad 4) x1 x2 x3) (ad (78 + Int.toNat i)) a b ((b * b + sD σ) / (4 * a))) [4, 78 + Int.toNat i] := frA_tr (frA_w fa (by intro s hs; simp at hs ⊢; omega)) (frA_st (78 + Int.toNat i) (by simp) _ _ _)
            refine q_aload_n G 0 0 dX4_put_72 rfl rfl ?_
            refine q_gt (v := .ref (ad 13)) G dX4_put_73 fl_X4_30 o0 (by decide) rfl (congrArg va_rf s3) ?_
            refine q_iload_n G 1 1 dX4_put_76 rfl rfl ?_
            refine q_iconst G dX4_put_77 ?_
            refine q_bastore G dX4_put_78 a13.1 a13.2.1 (by first | assumption | omega) (show (i) < ((mN M (ad 13) : Nat) : Int) by rw [a13.2.2]; omega) (show mN M (ad 13) < 2147483648 by rw [a13.2.2]; decide) (by decide +kernel) ?_
            refine q_retX ?_
            exact q_vret G dX4_put_79 hret (by omega) (by omega) (⟨he, ⟨up2 (mI M) (ad 13) (Int.toNat i) 1, stF (stF (mL M) (ad 4) x1 x2 x3) (ad (78 + Int.toNat i)) a b ((b * b + sD σ) / (4 * a)), mR M, rfl, fun b hb => ⟨up2_row _ _ (hb 13 (by decide)), frA_o fc (by intro s hs; simp at hs; omega) hb, rfl⟩, hC, CD_S (j := Int.toNat i) (t := (a, b, (b * b + sD σ) / (4 * a))) hC hW hY (by omega) fc (by intro s hs; simp at hs; omega) (gT_stF _ _ _ _ _), rfl⟩⟩)
          · exact q_throwY G hl qt_47_179 ⟨Or.inr (Or.inr ⟨rfl, by have h7 : bI (okP (sD σ) a b) = 0 := bI_0 (fun h9 => by rcases hz with h8 | h8; omega; exact h8.2 h9.2); unfold e_10; omega⟩), ⟨mI M, stF (mL M) (ad 4) x1 x2 x3, mR M, rfl, fun b hb => ⟨rfl, frA_o fa (by intro s hs; simp at hs; omega) hb, rfl⟩, hC, CD_G hC hW hY fa (by intro s hs; simp at hs; omega), trivial⟩⟩ dX4_put_45 dX4_put_48 dX4_put_49 dX4_put_51 dX4_put_54 ht (by decide) (by decide) (by decide) (by decide) (by omega) (by omega)
