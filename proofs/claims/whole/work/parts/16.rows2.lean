section QS
variable {p : Program} {l : Launch} {e : Env} {R : Room} {s : State} {m : MethodId} {args : Array Value} {below : List Frame} {meth : Method} {c : Code} {Q : State → Prop}
variable {cc : ByteArray} {nL : Nat} {own : String} {D : va_G} {cy : Nat → ClassId} {A : Nat → Prop} {cells slots : Nat} {pc : Nat} {lv lv' : List (Nat × Value)} {st : List Value} {M : qM}
/-- an object or array of a kind -/
def qO (M : qM) (a ki : Nat) : Prop := a ∈ mP M ∧ mK M a = ki
/-- an array of a kind and a length -/
def qAr (M : qM) (a ki n : Nat) : Prop := a ∈ mP M ∧ mK M a = ki ∧ mN M a = n
/-- the same shape, other contents -/
def wD (M : qM) (I L : Nat → Nat → Int) (R : Nat → Nat → Option Nat) : qM := (mP M, mK M, mN M, I, L, R)
def wL (M : qM) (L : Nat → Nat → Int) : qM := (mP M, mK M, mN M, mI M, L, mR M)
theorem sL_wL (M : qM) (a k : Nat) (z : Int) : sL M a k z = wL M (up2 (mL M) a k z) := rfl
theorem wL_wL (M : qM) (L L' : Nat → Nat → Int) : wL (wL M L) L' = wL M L' := rfl
theorem mL_wL (M : qM) (L : Nat → Nat → Int) : mL (wL M L) = L := rfl
theorem wL_self (M : qM) : wL M (mL M) = M := rfl
theorem q_loop {α : Type} (μ : α → Nat) {P : α → Prop} (h : ∀ a, (∀ b, μ b < μ a → P b) → P a) : ∀ a, P a := fun a => (measure μ).wf.induction a h
theorem q_gt (G : qG p s m args meth c cc nL own D cy A) {index ci k a : Nat} {w v : Value} (hd : decode cc pc = .ok (.getfield index, 3)) (hf : qFL own index ci k) (ho : qO M a ci) (hc : ci < 6) (hv : (qF ci M a)[k]? = some w) (hw : w = v) (kk : qK p l e R s m args below meth c Q nL D cy A cells slots (pc + 3) lv (v :: st) (M)) : qK p l e R s m args below meth c Q nL D cy A cells slots (pc) lv (.ref a :: st) (M) := by subst hw; exact q_get G hd hf ho.1 ho.2 hc hv kk
theorem q_pL (G : qG p s m args meth c cc nL own D cy A) {index ci k a : Nat} {z : Int} (hd : decode cc pc = .ok (.putfield index, 3)) (hf : qPL own index ci k (.long (qL z))) (hfin : ∀ (C : String) (T : u_T) (N : Nat), vwCl[ci]? = some (C, T, N) → (T k).2.2.2 = true → meth.name = "<init>") (ho : qO M a ci) (hc : ci < 6) (hl : k < (qF ci M a).length) (he : (qF ci M a).set k (.long (qL z)) = qF ci (sL M a k z) a) (kk : qK p l e R s m args below meth c Q nL D cy A cells slots (pc + 3) lv (st) (sL M a k z)) : qK p l e R s m args below meth c Q nL D cy A cells slots (pc) lv (.long (qL z) :: .ref a :: st) (M) := q_put (M' := sL M a k z) G hd hf hfin ho.1 ho.2 hc hl ho.2 rfl he (fun _ hb => qC_sL hb) kk
theorem q_pI (G : qG p s m args meth c cc nL own D cy A) {index ci k a : Nat} {z : Int} (hd : decode cc pc = .ok (.putfield index, 3)) (hf : qPL own index ci k (.int (qI z))) (hfin : ∀ (C : String) (T : u_T) (N : Nat), vwCl[ci]? = some (C, T, N) → (T k).2.2.2 = true → meth.name = "<init>") (ho : qO M a ci) (hc : ci < 6) (hl : k < (qF ci M a).length) (he : (qF ci M a).set k (.int (qI z)) = qF ci (sI M a k z) a) (kk : qK p l e R s m args below meth c Q nL D cy A cells slots (pc + 3) lv (st) (sI M a k z)) : qK p l e R s m args below meth c Q nL D cy A cells slots (pc) lv (.int (qI z) :: .ref a :: st) (M) := q_put (M' := sI M a k z) G hd hf hfin ho.1 ho.2 hc hl ho.2 rfl he (fun _ hb => qC_sI hb) kk
theorem q_pR (G : qG p s m args meth c cc nL own D cy A) {index ci k a : Nat} {z : Option Nat} (hd : decode cc pc = .ok (.putfield index, 3)) (hf : qPL own index ci k (va_rf z)) (hfin : ∀ (C : String) (T : u_T) (N : Nat), vwCl[ci]? = some (C, T, N) → (T k).2.2.2 = true → meth.name = "<init>") (ho : qO M a ci) (hc : ci < 6) (hl : k < (qF ci M a).length) (he : (qF ci M a).set k (va_rf z) = qF ci (sR M a k z) a) (kk : qK p l e R s m args below meth c Q nL D cy A cells slots (pc + 3) lv (st) (sR M a k z)) : qK p l e R s m args below meth c Q nL D cy A cells slots (pc) lv (va_rf z :: .ref a :: st) (M) := q_put (M' := sR M a k z) G hd hf hfin ho.1 ho.2 hc hl ho.2 rfl he (fun _ hb => qC_sR hb) kk
theorem q_obj (G : qG p s m args meth c cc nL own D cy A) {index a : Nat} (hd : decode cc pc = .ok (.invokespecial index, 3)) (hw : Cond.methodLink own index objectInit ∈ qB) (hf : 1 ≤ R.frames) (hl : (st.map fun v => v.category).sum + 12 ≤ R.locals) (kk : qK p l e R s m args below meth c Q nL D cy A cells slots (pc + 3) lv (st) (M)) : qK p l e R s m args below meth c Q nL D cy A cells slots (pc) lv (.ref a :: st) (M) := by
  intro H locs ls hP hD hS hL
  exact W.objInit G.1 G.2.1 G.2.2.2.1 (G.2.2.2.2.1 _ hw) (G.2.2.2.2.1 _ tw_21) (G.2.2.2.2.1 _ tw_22) rfl (by rw [G.2.2.1]; exact hL.1) rfl hd hf (by show 2 * 0 + _ + 12 ≤ _; omega) (kk H locs ls hP hD hS hL)
theorem q_min (G : qG p s m args meth c cc nL own D cy A) {index : Nat} {x y : Int} (hd : decode cc pc = .ok (.invokestatic index, 3)) (hw : Cond.methodLink own index Lib.Math.min.name ∈ qB) (hx : r32 x) (hy : r32 y) (hf : 1 ≤ R.frames) (hl : (st.map fun v => v.category).sum + 13 ≤ R.locals) (hc : cells ≤ R.cells) (hs : slots ≤ R.slots) (kk : qK p l e R s m args below meth c Q nL D cy A cells slots (pc + 3) lv (.int (qI (if y < x then y else x)) :: st) (M)) : qK p l e R s m args below meth c Q nL D cy A cells slots (pc) lv (.int (qI y) :: .int (qI x) :: st) (M) := by
  intro H locs ls hP hD hS hL
  refine va_mmin G.1 G.2.1 (G.2.2.1.trans hL.1.symm) G.2.2.2.1 (G.2.2.2.2.1 _ hw) (G.2.2.2.2.1 _ tw_363) (G.2.2.2.2.1 _ tw_12) (G.2.2.2.2.1 _ tw_364) hf hl hc hs hd ?_
  have e9 : (if qI y < qI x then qI y else qI x) = qI (if y < x then y else x) := by
    by_cases h : y < x
    · rw [if_pos h, if_pos ((qI_lt hy hx).mpr h)]
    · rw [if_neg h, if_neg (fun h8 => h ((qI_lt hy hx).mp h8))]
  rw [e9]
  exact kk H locs ls hP hD hS hL
theorem q_topL {z z2 : Int} (h : z = z2) (kk : qK p l e R s m args below meth c Q nL D cy A cells slots (pc) lv (.long (qL z2) :: st) (M)) : qK p l e R s m args below meth c Q nL D cy A cells slots (pc) lv (.long (qL z) :: st) (M) := by subst h; exact kk
theorem q_nmL {z : Int} (kk : ∀ z2, z2 = z → qK p l e R s m args below meth c Q nL D cy A cells slots (pc) lv (.long (qL z2) :: st) (M)) : qK p l e R s m args below meth c Q nL D cy A cells slots (pc) lv (.long (qL z) :: st) (M) := kk z rfl
theorem q_topI {z z2 : Int} (h : z = z2) (kk : qK p l e R s m args below meth c Q nL D cy A cells slots (pc) lv (.int (qI z2) :: st) (M)) : qK p l e R s m args below meth c Q nL D cy A cells slots (pc) lv (.int (qI z) :: st) (M) := by subst h; exact kk
theorem q_nmI {z : Int} (kk : ∀ z2, z2 = z → qK p l e R s m args below meth c Q nL D cy A cells slots (pc) lv (.int (qI z2) :: st) (M)) : qK p l e R s m args below meth c Q nL D cy A cells slots (pc) lv (.int (qI z) :: st) (M) := kk z rfl
theorem q_mem {M2 : qM} (h : M = M2) (kk : qK p l e R s m args below meth c Q nL D cy A cells slots (pc) lv (st) (M2)) : qK p l e R s m args below meth c Q nL D cy A cells slots (pc) lv (st) (M) := by subst h; exact kk
theorem q_st {st2 : List Value} (h : st = st2) (kk : qK p l e R s m args below meth c Q nL D cy A cells slots (pc) lv (st2) (M)) : qK p l e R s m args below meth c Q nL D cy A cells slots (pc) lv (st) (M) := by subst h; exact kk
theorem q_lvs (ks : List Nat) (h : lv_pick lv ks = lv') (kk : qK p l e R s m args below meth c Q nL D cy A cells slots (pc) lv' (st) (M)) : qK p l e R s m args below meth c Q nL D cy A cells slots (pc) lv (st) (M) := fun H locs ls hP hD hS hL => kk H locs ls hP hD hS (lv_sub hL ks h)
theorem q_wide {k n : Nat} (h1 : cells ≤ k) (h2 : slots ≤ n) (kk : qK p l e R s m args below meth c Q nL D cy A k n (pc) lv (st) (M)) : qK p l e R s m args below meth c Q nL D cy A cells slots (pc) lv (st) (M) := fun H locs ls hP hD hS hL => W.widen h1 h2 (kk H locs ls hP hD hS hL)
def qXn : List String := ["java/lang/RuntimeException", "java/lang/Exception"]
/-- the words of a throw -/
def qTh (own : String) (ik ic is : Nat) (cls text : String) : Prop := (Cond.classLink own ik cls ∈ qB ∧ Cond.initialized cls ∈ qB) ∧ own = RX4 ∧ (is, text) ∈ qStr ∧ Bundle.fit cls = true ∧ (∀ w ∈ vx_atS own ic cls qXn, (w ∈ qB ∨ w ∈ qX) ∧ vx_ot w = true)
theorem qX_use {w : Cond} (h : w ∈ qX) (ho : vx_ot w = true) {a : Array Value} {s : State} (hw : va_Nw w s) : w.before a s = true := by
  simp only [vx_ot, Bool.or_eq_true] at ho
  rcases ho with ho | ho
  · exact va_tabs ho rfl hw
  · exact word_at (State.WarmedH.refl s) (good_of_word ho) hw
theorem q_throw {ik ic is mc ms : Nat} {cls text : String} {P0 : List Nat} {Qv : Option Value → qM → Prop} {X : String → Prop} (G : qG p s m args meth c cc nL own D cy (qA (mP M) s.heap.size)) (hl : l.stackTraces = false) (hw : qTh own ik ic is cls text) (hX : X cls)
    (d0 : decode cc pc = .ok (.new ik, 3)) (d3 : decode cc (pc + 3) = .ok (.dup, 1)) (d4 : decode cc (pc + 4) = .ok (.ldc is, 2)) (d6 : decode cc (pc + 6) = .ok (.invokespecial ic, 3)) (d9 : decode cc (pc + 9) = .ok (.athrow, 1)) (ht : ∀ x ∈ c.exceptionTable.toList, False)
    (hRf : 5 < R.frames) (hRl : (st.map fun v => v.category).sum + 82 ≤ R.locals) (hRc : cells + 1 ≤ R.cells) (hRs : slots + 6 ≤ R.slots) (hc : cells + 1 ≤ mc) (hs : slots + 6 ≤ ms) : qK p l e R s m args below meth c (vx_MQ below (qQ D cy (mP M) Qv) (qXC D cy M X) args s mc ms (qA (mP M) s.heap.size)) nL D cy (qA (mP M) s.heap.size) cells slots (pc) lv (st) (M) := by
  intro H locs ls hP hD hS hL
  obtain ⟨⟨w1, w2⟩, rfl, w4, w5, w6⟩ := hw
  obtain ⟨hK, hN, hU, hZ, hstr⟩ := G.2.2.2.2.2.2.1
  obtain ⟨sa, hsa⟩ := hstr _ w4
  refine vx_throwS (names := qXn) (A := qA (mP M) s.heap.size) G.1 G.2.1 hl G.2.2.2.1 w5 (by decide +kernel) (G.2.2.2.2.1 _ w1) (G.2.2.2.2.1 _ w2) hsa (fun w h => ?_) (fun w h => ?_) hU hZ hS (hL.1.trans G.2.2.1.symm) d0 d3 d4 d6 d9 (fun x h => absurd (ht x h) id) (show 2 + 3 < _ by omega) (show _ + (13 * (2 + 1) + 43) ≤ _ by omega) hRc hRs G.2.2.2.2.2.1 (fun t hvm hz hk => ?_) hS.2.2 hc hs
  · rcases (w6 w h).1 with h1 | h1
    · exact G.2.2.2.2.1 _ h1
    · exact qX_use h1 (w6 w h).2 (hN _ h1)
  · rcases List.mem_cons.mp h with rfl | h
    · rfl
    · rcases List.mem_cons.mp h with rfl | h
      · rfl
      · exact (w6 w h).2
  · refine ⟨hX, fun k q hq => ?_, Nat.le_trans hS.1 hz, fun q h1 h2 => ?_⟩
    · exact (hP k q hq).kept (hk q.1 (hP k q hq).lt)
    · rw [hk q (Nat.lt_of_lt_of_le h1 hS.1)]; exact hS.2.1 q h1 h2
theorem q_throwW {ik ic is mc ms : Nat} {cls text : String} {P0 : List Nat} {Qv : Option Value → qM → Prop} {X : String → Prop} (G : qG p s m args meth c cc nL own D cy (qA (mP M) s.heap.size)) (hl : l.stackTraces = false) (hw : qTh own ik ic is cls text) (hX : X cls)
    (d0 : decode cc pc = .ok (.new ik, 3)) (d3 : decode cc (pc + 3) = .ok (.dup, 1)) (d4 : decode cc (pc + 4) = .ok (.ldc_w is, 3)) (d6 : decode cc (pc + 7) = .ok (.invokespecial ic, 3)) (d9 : decode cc (pc + 10) = .ok (.athrow, 1)) (ht : ∀ x ∈ c.exceptionTable.toList, False)
    (hRf : 5 < R.frames) (hRl : (st.map fun v => v.category).sum + 82 ≤ R.locals) (hRc : cells + 1 ≤ R.cells) (hRs : slots + 6 ≤ R.slots) (hc : cells + 1 ≤ mc) (hs : slots + 6 ≤ ms) : qK p l e R s m args below meth c (vx_MQ below (qQ D cy (mP M) Qv) (qXC D cy M X) args s mc ms (qA (mP M) s.heap.size)) nL D cy (qA (mP M) s.heap.size) cells slots (pc) lv (st) (M) := by
  intro H locs ls hP hD hS hL
  obtain ⟨⟨w1, w2⟩, rfl, w4, w5, w6⟩ := hw
  obtain ⟨hK, hN, hU, hZ, hstr⟩ := G.2.2.2.2.2.2.1
  obtain ⟨sa, hsa⟩ := hstr _ w4
  refine vx_throwSW (names := qXn) (A := qA (mP M) s.heap.size) G.1 G.2.1 hl G.2.2.2.1 w5 (by decide +kernel) (G.2.2.2.2.1 _ w1) (G.2.2.2.2.1 _ w2) hsa (fun w h => ?_) (fun w h => ?_) hU hZ hS (hL.1.trans G.2.2.1.symm) d0 d3 d4 d6 d9 (fun x h => absurd (ht x h) id) (show 2 + 3 < _ by omega) (show _ + (13 * (2 + 1) + 43) ≤ _ by omega) hRc hRs G.2.2.2.2.2.1 (fun t hvm hz hk => ?_) hS.2.2 hc hs
  · rcases (w6 w h).1 with h1 | h1
    · exact G.2.2.2.2.1 _ h1
    · exact qX_use h1 (w6 w h).2 (hN _ h1)
  · rcases List.mem_cons.mp h with rfl | h
    · rfl
    · rcases List.mem_cons.mp h with rfl | h
      · rfl
      · exact (w6 w h).2
  · refine ⟨hX, fun k q hq => ?_, Nat.le_trans hS.1 hz, fun q h1 h2 => ?_⟩
    · exact (hP k q hq).kept (hk q.1 (hP k q hq).lt)
    · rw [hk q (Nat.lt_of_lt_of_le h1 hS.1)]; exact hS.2.1 q h1 h2
/-- not caught here -/
theorem q_outX {mc ms : Nat} {Qv : Option Value → qM → Prop} {X : String → Prop} {E : String} {ce : Cell} {q : Addr} {H1 : Heap} {locs1 : List Loc} {ls : Array Slot} (G : qG p s m args meth c cc nL own D cy (qA (mP M) s.heap.size)) (ht : ∀ x ∈ c.exceptionTable.toList, False) (hX : X E) (hP : va_P D vwCl (qW cy M) H1) (hS : va_S (qA (mP M) s.heap.size) s.heap H1 locs1) (h1 : H1[q]? = some ce) (h2 : ce.vm = .none) (h3 : s.vm.findClass E = some ce.cls) (hc : cells ≤ mc) (hs : slots ≤ ms) :
    vx_W p l e R s m args below meth c H1 locs1 cells slots (vx_MQ below (qQ D cy (mP M) Qv) (qXC D cy M X) args s mc ms (qA (mP M) s.heap.size)) (F0 m pc ls st) q :=
  vx_out (fun x h => absurd (ht x h) id) G.2.2.2.2.2.1 h1 h2 h3 (fun t ht9 _ => ⟨hX, by rw [ht9]; exact hP, hS.F ht9⟩) hS.2.2 hc hs
end QS
theorem qth_51 : ∀ w ∈ vx_atS RX4 51 "java/lang/IllegalArgumentException" qXn, (w ∈ qB ∨ w ∈ qX) ∧ vx_ot w = true := by decide +kernel
theorem qth_58 : ∀ w ∈ vx_atS RX4 58 "java/lang/IllegalStateException" qXn, (w ∈ qB ∨ w ∈ qX) ∧ vx_ot w = true := by decide +kernel
theorem qth_149 : ∀ w ∈ vx_atS RX4 149 "java/lang/IndexOutOfBoundsException" qXn, (w ∈ qB ∨ w ∈ qX) ∧ vx_ot w = true := by decide +kernel
