section QR
variable {p : Program} {l : Launch} {e : Env} {R : Room} {s : State} {m : MethodId} {args : Array Value} {below : List Frame} {meth : Method} {c : Code} {Q : State → Prop}
variable {cc : ByteArray} {nL : Nat} {own : String} {D : va_G} {cy : Nat → ClassId} {A : Nat → Prop} {cells slots : Nat} {pc : Nat} {lv lv' : List (Nat × Value)} {st : List Value} {M : qM}
/-- what a walk stands on -/
def qG (p : Program) (s : State) (m : MethodId) (args : Array Value) (meth : Method) (c : Code) (cc : ByteArray) (nL : Nat) (own : String) (D : va_G) (cy : Nat → ClassId) (A : Nat → Prop) : Prop :=
  p.tables.exec = Jvm.exec ∧ c.code = cc ∧ c.maxLocals = nL ∧ s.vm.findClass own = some m.cls ∧ (∀ w ∈ qB, w.before args s = true) ∧ meth.locks = false ∧ qE D cy A s ∧ (∀ q, s.heap.size ≤ q → A q)
/-- the machine at pc with locals lv, stack st, memory M comes to Q -/
def qK (p : Program) (l : Launch) (e : Env) (R : Room) (s : State) (m : MethodId) (args : Array Value) (below : List Frame) (meth : Method) (c : Code) (Q : State → Prop) (nL : Nat) (D : va_G) (cy : Nat → ClassId) (A : Nat → Prop) (cells slots pc : Nat) (lv : List (Nat × Value)) (st : List Value) (M : qM) : Prop :=
  ∀ (H : Heap) (locs : List Loc) (ls : Array Slot), va_P D vwCl (qW cy M) H → va_D A (qW cy M) → va_S A s.heap H locs → lv_has ls nL lv → W p l e R s m args below meth c H locs cells slots Q (F0 m pc ls st)
theorem q_iconst (G : qG p s m args meth c cc nL own D cy A) {n : Int} (hd : decode cc pc = .ok (.iconst n, 1))  (kk : qK p l e R s m args below meth c Q nL D cy A cells slots (pc + 1) lv (.int (qI n) :: st) (M)) : qK p l e R s m args below meth c Q nL D cy A cells slots (pc) lv (st) (M) := by
  intro H locs ls hP hD hS hL
  exact lv_iconst G.1 G.2.1 hd rfl (kk H locs ls hP hD hS hL)
theorem q_bipush (G : qG p s m args meth c cc nL own D cy A) {n : Int} (hd : decode cc pc = .ok (.bipush n, 2)) (hv : (Int8.ofInt n).toInt32 = qI n) (kk : qK p l e R s m args below meth c Q nL D cy A cells slots (pc + 2) lv (.int (qI n) :: st) (M)) : qK p l e R s m args below meth c Q nL D cy A cells slots (pc) lv (st) (M) := by
  intro H locs ls hP hD hS hL
  exact lv_bipush G.1 G.2.1 hd hv (kk H locs ls hP hD hS hL)
theorem q_sipush (G : qG p s m args meth c cc nL own D cy A) {n : Int} (hd : decode cc pc = .ok (.sipush n, 3)) (hv : (Int16.ofInt n).toInt32 = qI n) (kk : qK p l e R s m args below meth c Q nL D cy A cells slots (pc + 3) lv (.int (qI n) :: st) (M)) : qK p l e R s m args below meth c Q nL D cy A cells slots (pc) lv (st) (M) := by
  intro H locs ls hP hD hS hL
  exact lv_sipush G.1 G.2.1 hd hv (kk H locs ls hP hD hS hL)
theorem q_lconst (G : qG p s m args meth c cc nL own D cy A) {n : Fin 2} {z : Int} (hd : decode cc pc = .ok (.lconst n, 1)) (hv : Int64.ofNat (n : Nat) = qL z) (kk : qK p l e R s m args below meth c Q nL D cy A cells slots (pc + 1) lv (.long (qL z) :: st) (M)) : qK p l e R s m args below meth c Q nL D cy A cells slots (pc) lv (st) (M) := by
  intro H locs ls hP hD hS hL
  exact lv_lconst G.1 G.2.1 hd hv (kk H locs ls hP hD hS hL)
theorem q_ldc (G : qG p s m args meth c cc nL own D cy A) {index : Nat} {v : Int32} {z : Int} (hd : decode cc pc = .ok (.ldc index, 2)) (hw : Cond.constant own index v ∈ qB) (hv : v = qI z) (kk : qK p l e R s m args below meth c Q nL D cy A cells slots (pc + 2) lv (.int (qI z) :: st) (M)) : qK p l e R s m args below meth c Q nL D cy A cells slots (pc) lv (st) (M) := by
  intro H locs ls hP hD hS hL
  subst hv
  exact lv_ldc G.1 G.2.1 G.2.2.2.1 (G.2.2.2.2.1 _ hw) hd (kk H locs ls hP hD hS hL)
theorem q_ldc2 (G : qG p s m args meth c cc nL own D cy A) {index : Nat} {v : Int64} {z : Int} (hd : decode cc pc = .ok (.ldc2_w index, 3)) (hw : Cond.constantLong own index v ∈ qB) (hv : v = qL z) (kk : qK p l e R s m args below meth c Q nL D cy A cells slots (pc + 3) lv (.long (qL z) :: st) (M)) : qK p l e R s m args below meth c Q nL D cy A cells slots (pc) lv (st) (M) := by
  intro H locs ls hP hD hS hL
  subst hv
  exact lv_ldc2 G.1 G.2.1 G.2.2.2.1 (G.2.2.2.2.1 _ hw) hd (kk H locs ls hP hD hS hL)
theorem q_null (G : qG p s m args meth c cc nL own D cy A)  (hd : decode cc pc = .ok (.aconst_null, 1))  (kk : qK p l e R s m args below meth c Q nL D cy A cells slots (pc + 1) lv (.null :: st) (M)) : qK p l e R s m args below meth c Q nL D cy A cells slots (pc) lv (st) (M) := by
  intro H locs ls hP hD hS hL
  exact lv_null G.1 G.2.1 hd (kk H locs ls hP hD hS hL)
theorem q_iload_n (G : qG p s m args meth c cc nL own D cy A) {k : Fin 4} {x : Int32} (j i : Nat) (hd : decode cc pc = .ok (.iload_n k, 1)) (hi : (k : Nat) = i) (hl : lv[j]? = some (i, .int x)) (kk : qK p l e R s m args below meth c Q nL D cy A cells slots (pc + 1) lv (.int x :: st) (M)) : qK p l e R s m args below meth c Q nL D cy A cells slots (pc) lv (st) (M) := by
  intro H locs ls hP hD hS hL
  exact lv_iload_n G.1 G.2.1 hd hi (lv_at hL j hl) (kk H locs ls hP hD hS hL)
theorem q_iload (G : qG p s m args meth c cc nL own D cy A) {i : Nat} {x : Int32} (j : Nat) (hd : decode cc pc = .ok (.iload i, 2)) (hl : lv[j]? = some (i, .int x)) (kk : qK p l e R s m args below meth c Q nL D cy A cells slots (pc + 2) lv (.int x :: st) (M)) : qK p l e R s m args below meth c Q nL D cy A cells slots (pc) lv (st) (M) := by
  intro H locs ls hP hD hS hL
  exact lv_iload G.1 G.2.1 hd (lv_at hL j hl) (kk H locs ls hP hD hS hL)
theorem q_istore_n (G : qG p s m args meth c cc nL own D cy A) {k : Fin 4} {x : Int32} (i : Nat) (hd : decode cc pc = .ok (.istore_n k, 1)) (hi : (k : Nat) = i) (hn : i < nL) (hl : (i, Value.int x) :: lv.filter (fun q => !(q.1 == i) && !(q.1 + 1 == i && q.2.category == 2)) = lv') (kk : qK p l e R s m args below meth c Q nL D cy A cells slots (pc + 1) lv' (st) (M)) : qK p l e R s m args below meth c Q nL D cy A cells slots (pc) lv (.int x :: st) (M) := by
  intro H locs ls hP hD hS hL
  exact lv_istore_n G.1 G.2.1 hd hi hL hn hl (fun ls2 hL2 => kk H locs ls2 hP hD hS hL2)
theorem q_istore (G : qG p s m args meth c cc nL own D cy A) {i : Nat} {x : Int32} (hd : decode cc pc = .ok (.istore i, 2)) (hn : i < nL) (hl : (i, Value.int x) :: lv.filter (fun q => !(q.1 == i) && !(q.1 + 1 == i && q.2.category == 2)) = lv') (kk : qK p l e R s m args below meth c Q nL D cy A cells slots (pc + 2) lv' (st) (M)) : qK p l e R s m args below meth c Q nL D cy A cells slots (pc) lv (.int x :: st) (M) := by
  intro H locs ls hP hD hS hL
  exact lv_istore G.1 G.2.1 hd hL hn hl (fun ls2 hL2 => kk H locs ls2 hP hD hS hL2)
theorem q_lload_n (G : qG p s m args meth c cc nL own D cy A) {k : Fin 4} {x : Int64} (j i : Nat) (hd : decode cc pc = .ok (.lload_n k, 1)) (hi : (k : Nat) = i) (hl : lv[j]? = some (i, .long x)) (kk : qK p l e R s m args below meth c Q nL D cy A cells slots (pc + 1) lv (.long x :: st) (M)) : qK p l e R s m args below meth c Q nL D cy A cells slots (pc) lv (st) (M) := by
  intro H locs ls hP hD hS hL
  exact lv_lload_n G.1 G.2.1 hd hi (lv_at hL j hl) (kk H locs ls hP hD hS hL)
theorem q_lload (G : qG p s m args meth c cc nL own D cy A) {i : Nat} {x : Int64} (j : Nat) (hd : decode cc pc = .ok (.lload i, 2)) (hl : lv[j]? = some (i, .long x)) (kk : qK p l e R s m args below meth c Q nL D cy A cells slots (pc + 2) lv (.long x :: st) (M)) : qK p l e R s m args below meth c Q nL D cy A cells slots (pc) lv (st) (M) := by
  intro H locs ls hP hD hS hL
  exact lv_lload G.1 G.2.1 hd (lv_at hL j hl) (kk H locs ls hP hD hS hL)
theorem q_lstore_n (G : qG p s m args meth c cc nL own D cy A) {k : Fin 4} {x : Int64} (i : Nat) (hd : decode cc pc = .ok (.lstore_n k, 1)) (hi : (k : Nat) = i) (hn : i + 1 < nL) (hl : (i, Value.long x) :: lv.filter (fun q => !(q.1 == i) && (!(q.1 == i + 1) && !(q.1 + 1 == i && q.2.category == 2))) = lv') (kk : qK p l e R s m args below meth c Q nL D cy A cells slots (pc + 1) lv' (st) (M)) : qK p l e R s m args below meth c Q nL D cy A cells slots (pc) lv (.long x :: st) (M) := by
  intro H locs ls hP hD hS hL
  exact lv_lstore_n G.1 G.2.1 hd hi hL hn hl (fun ls2 hL2 => kk H locs ls2 hP hD hS hL2)
theorem q_lstore (G : qG p s m args meth c cc nL own D cy A) {i : Nat} {x : Int64} (hd : decode cc pc = .ok (.lstore i, 2)) (hn : i + 1 < nL) (hl : (i, Value.long x) :: lv.filter (fun q => !(q.1 == i) && (!(q.1 == i + 1) && !(q.1 + 1 == i && q.2.category == 2))) = lv') (kk : qK p l e R s m args below meth c Q nL D cy A cells slots (pc + 2) lv' (st) (M)) : qK p l e R s m args below meth c Q nL D cy A cells slots (pc) lv (.long x :: st) (M) := by
  intro H locs ls hP hD hS hL
  exact lv_lstore G.1 G.2.1 hd hL hn hl (fun ls2 hL2 => kk H locs ls2 hP hD hS hL2)
theorem q_aload_n (G : qG p s m args meth c cc nL own D cy A) {k : Fin 4} {x : Nat} (j i : Nat) (hd : decode cc pc = .ok (.aload_n k, 1)) (hi : (k : Nat) = i) (hl : lv[j]? = some (i, .ref x)) (kk : qK p l e R s m args below meth c Q nL D cy A cells slots (pc + 1) lv (.ref x :: st) (M)) : qK p l e R s m args below meth c Q nL D cy A cells slots (pc) lv (st) (M) := by
  intro H locs ls hP hD hS hL
  exact lv_aload_n G.1 G.2.1 hd hi (lv_at hL j hl) (kk H locs ls hP hD hS hL)
theorem q_aload (G : qG p s m args meth c cc nL own D cy A) {i : Nat} {x : Nat} (j : Nat) (hd : decode cc pc = .ok (.aload i, 2)) (hl : lv[j]? = some (i, .ref x)) (kk : qK p l e R s m args below meth c Q nL D cy A cells slots (pc + 2) lv (.ref x :: st) (M)) : qK p l e R s m args below meth c Q nL D cy A cells slots (pc) lv (st) (M) := by
  intro H locs ls hP hD hS hL
  exact lv_aload G.1 G.2.1 hd (lv_at hL j hl) (kk H locs ls hP hD hS hL)
theorem q_astore_n (G : qG p s m args meth c cc nL own D cy A) {k : Fin 4} {x : Nat} (i : Nat) (hd : decode cc pc = .ok (.astore_n k, 1)) (hi : (k : Nat) = i) (hn : i < nL) (hl : (i, Value.ref x) :: lv.filter (fun q => !(q.1 == i) && !(q.1 + 1 == i && q.2.category == 2)) = lv') (kk : qK p l e R s m args below meth c Q nL D cy A cells slots (pc + 1) lv' (st) (M)) : qK p l e R s m args below meth c Q nL D cy A cells slots (pc) lv (.ref x :: st) (M) := by
  intro H locs ls hP hD hS hL
  exact lv_astore_n G.1 G.2.1 hd hi hL hn hl (fun ls2 hL2 => kk H locs ls2 hP hD hS hL2)
theorem q_astore (G : qG p s m args meth c cc nL own D cy A) {i : Nat} {x : Nat} (hd : decode cc pc = .ok (.astore i, 2)) (hn : i < nL) (hl : (i, Value.ref x) :: lv.filter (fun q => !(q.1 == i) && !(q.1 + 1 == i && q.2.category == 2)) = lv') (kk : qK p l e R s m args below meth c Q nL D cy A cells slots (pc + 2) lv' (st) (M)) : qK p l e R s m args below meth c Q nL D cy A cells slots (pc) lv (.ref x :: st) (M) := by
  intro H locs ls hP hD hS hL
  exact lv_astore G.1 G.2.1 hd hL hn hl (fun ls2 hL2 => kk H locs ls2 hP hD hS hL2)
theorem q_iinc (G : qG p s m args meth c cc nL own D cy A) {i : Nat} {n x : Int} (j : Nat) (hd : decode cc pc = .ok (.iinc i n, 3)) (hj : lv[j]? = some (i, .int (qI x))) (hn : i < nL) (hl : (i, Value.int (qI (x + n))) :: lv.filter (fun q => !(q.1 == i) && !(q.1 + 1 == i && q.2.category == 2)) = lv') (kk : qK p l e R s m args below meth c Q nL D cy A cells slots (pc + 3) lv' (st) (M)) : qK p l e R s m args below meth c Q nL D cy A cells slots (pc) lv (st) (M) := by
  intro H locs ls hP hD hS hL
  exact lv_iinc G.1 G.2.1 hd hL hj (qI_add x n) hn hl (fun ls2 hL2 => kk H locs ls2 hP hD hS hL2)
theorem q_iadd (G : qG p s m args meth c cc nL own D cy A) {x y : Int} (hd : decode cc pc = .ok (.iadd, 1))  (kk : qK p l e R s m args below meth c Q nL D cy A cells slots (pc + 1) lv (.int (qI (x + y)) :: st) (M)) : qK p l e R s m args below meth c Q nL D cy A cells slots (pc) lv (.int (qI y) :: .int (qI x) :: st) (M) := by
  intro H locs ls hP hD hS hL
  have k9 := kk H locs ls hP hD hS hL
  rw [← qI_add] at k9
  exact lv_iadd G.1 G.2.1 hd  k9
theorem q_isub (G : qG p s m args meth c cc nL own D cy A) {x y : Int} (hd : decode cc pc = .ok (.isub, 1))  (kk : qK p l e R s m args below meth c Q nL D cy A cells slots (pc + 1) lv (.int (qI (x - y)) :: st) (M)) : qK p l e R s m args below meth c Q nL D cy A cells slots (pc) lv (.int (qI y) :: .int (qI x) :: st) (M) := by
  intro H locs ls hP hD hS hL
  have k9 := kk H locs ls hP hD hS hL
  rw [← qI_sub] at k9
  exact lv_isub G.1 G.2.1 hd  k9
theorem q_imul (G : qG p s m args meth c cc nL own D cy A) {x y : Int} (hd : decode cc pc = .ok (.imul, 1))  (kk : qK p l e R s m args below meth c Q nL D cy A cells slots (pc + 1) lv (.int (qI (x * y)) :: st) (M)) : qK p l e R s m args below meth c Q nL D cy A cells slots (pc) lv (.int (qI y) :: .int (qI x) :: st) (M) := by
  intro H locs ls hP hD hS hL
  have k9 := kk H locs ls hP hD hS hL
  rw [← qI_mul] at k9
  exact lv_imul G.1 G.2.1 hd  k9
theorem q_ladd (G : qG p s m args meth c cc nL own D cy A) {x y : Int} (hd : decode cc pc = .ok (.ladd, 1))  (kk : qK p l e R s m args below meth c Q nL D cy A cells slots (pc + 1) lv (.long (qL (x + y)) :: st) (M)) : qK p l e R s m args below meth c Q nL D cy A cells slots (pc) lv (.long (qL y) :: .long (qL x) :: st) (M) := by
  intro H locs ls hP hD hS hL
  have k9 := kk H locs ls hP hD hS hL
  rw [← qL_add] at k9
  exact lv_ladd G.1 G.2.1 hd  k9
theorem q_lsub (G : qG p s m args meth c cc nL own D cy A) {x y : Int} (hd : decode cc pc = .ok (.lsub, 1))  (kk : qK p l e R s m args below meth c Q nL D cy A cells slots (pc + 1) lv (.long (qL (x - y)) :: st) (M)) : qK p l e R s m args below meth c Q nL D cy A cells slots (pc) lv (.long (qL y) :: .long (qL x) :: st) (M) := by
  intro H locs ls hP hD hS hL
  have k9 := kk H locs ls hP hD hS hL
  rw [← qL_sub] at k9
  exact lv_lsub G.1 G.2.1 hd  k9
theorem q_lmul (G : qG p s m args meth c cc nL own D cy A) {x y : Int} (hd : decode cc pc = .ok (.lmul, 1))  (kk : qK p l e R s m args below meth c Q nL D cy A cells slots (pc + 1) lv (.long (qL (x * y)) :: st) (M)) : qK p l e R s m args below meth c Q nL D cy A cells slots (pc) lv (.long (qL y) :: .long (qL x) :: st) (M) := by
  intro H locs ls hP hD hS hL
  have k9 := kk H locs ls hP hD hS hL
  rw [← qL_mul] at k9
  exact lv_lmul G.1 G.2.1 hd  k9
theorem q_iand (G : qG p s m args meth c cc nL own D cy A) {x y : Int} (hd : decode cc pc = .ok (.iand, 1))  (kk : qK p l e R s m args below meth c Q nL D cy A cells slots (pc + 1) lv (.int (qI (qand x y)) :: st) (M)) : qK p l e R s m args below meth c Q nL D cy A cells slots (pc) lv (.int (qI y) :: .int (qI x) :: st) (M) := by
  intro H locs ls hP hD hS hL
  have k9 := kk H locs ls hP hD hS hL
  rw [← qand_e] at k9
  exact lv_iand G.1 G.2.1 hd  k9
theorem q_ixor (G : qG p s m args meth c cc nL own D cy A) {x y : Int} (hd : decode cc pc = .ok (.ixor, 1))  (kk : qK p l e R s m args below meth c Q nL D cy A cells slots (pc + 1) lv (.int (qI (qxor x y)) :: st) (M)) : qK p l e R s m args below meth c Q nL D cy A cells slots (pc) lv (.int (qI y) :: .int (qI x) :: st) (M) := by
  intro H locs ls hP hD hS hL
  have k9 := kk H locs ls hP hD hS hL
  rw [← qxor_e] at k9
  exact lv_ixor G.1 G.2.1 hd  k9
theorem q_ishr (G : qG p s m args meth c cc nL own D cy A) {x y : Int} (hd : decode cc pc = .ok (.ishr, 1))  (kk : qK p l e R s m args below meth c Q nL D cy A cells slots (pc + 1) lv (.int (qI (qshr x y)) :: st) (M)) : qK p l e R s m args below meth c Q nL D cy A cells slots (pc) lv (.int (qI y) :: .int (qI x) :: st) (M) := by
  intro H locs ls hP hD hS hL
  have k9 := kk H locs ls hP hD hS hL
  rw [← qshr_e] at k9
  exact lv_ishr G.1 G.2.1 hd  k9
theorem q_iushr (G : qG p s m args meth c cc nL own D cy A) {x y : Int} (hd : decode cc pc = .ok (.iushr, 1)) (kk : qK p l e R s m args below meth c Q nL D cy A cells slots (pc + 1) lv (.int (qI (qushr x y)) :: st) (M)) : qK p l e R s m args below meth c Q nL D cy A cells slots (pc) lv (.int (qI y) :: .int (qI x) :: st) (M) := by
  intro H locs ls hP hD hS hL
  exact lv_iushr G.1 G.2.1 hd (qushr_e x y) (kk H locs ls hP hD hS hL)
theorem q_idiv (G : qG p s m args meth c cc nL own D cy A) {x y : Int} (hd : decode cc pc = .ok (.idiv, 1)) (hx : r32 x) (hy : r32 y) (hne : y ≠ 0) (kk : qK p l e R s m args below meth c Q nL D cy A cells slots (pc + 1) lv (.int (qI (x.tdiv y)) :: st) (M)) : qK p l e R s m args below meth c Q nL D cy A cells slots (pc) lv (.int (qI y) :: .int (qI x) :: st) (M) := by
  intro H locs ls hP hD hS hL
  have k9 := kk H locs ls hP hD hS hL
  rw [← qI_div hx hy] at k9
  exact lv_idiv G.1 G.2.1 hd (fun h9 => hne ((qI_eq hy r32_0).mp (h9.trans qI_0.symm))) k9
theorem q_irem (G : qG p s m args meth c cc nL own D cy A) {x y : Int} (hd : decode cc pc = .ok (.irem, 1)) (hx : r32 x) (hy : r32 y) (hne : y ≠ 0) (kk : qK p l e R s m args below meth c Q nL D cy A cells slots (pc + 1) lv (.int (qI (x.tmod y)) :: st) (M)) : qK p l e R s m args below meth c Q nL D cy A cells slots (pc) lv (.int (qI y) :: .int (qI x) :: st) (M) := by
  intro H locs ls hP hD hS hL
  have k9 := kk H locs ls hP hD hS hL
  rw [← qI_rem hx hy] at k9
  exact lv_irem G.1 G.2.1 hd (fun h9 => hne ((qI_eq hy r32_0).mp (h9.trans qI_0.symm))) k9
theorem q_ineg (G : qG p s m args meth c cc nL own D cy A) {x : Int} (hd : decode cc pc = .ok (.ineg, 1)) (kk : qK p l e R s m args below meth c Q nL D cy A cells slots (pc + 1) lv (.int (qI (-x)) :: st) (M)) : qK p l e R s m args below meth c Q nL D cy A cells slots (pc) lv (.int (qI x) :: st) (M) := by
  intro H locs ls hP hD hS hL
  have k9 := kk H locs ls hP hD hS hL
  rw [← qI_neg] at k9
  exact lv_ineg G.1 G.2.1 hd k9
theorem q_ldiv (G : qG p s m args meth c cc nL own D cy A) {x y : Int} (hd : decode cc pc = .ok (.ldiv, 1)) (hx : r64 x) (hy : r64 y) (hne : y ≠ 0) (kk : qK p l e R s m args below meth c Q nL D cy A cells slots (pc + 1) lv (.long (qL (x.tdiv y)) :: st) (M)) : qK p l e R s m args below meth c Q nL D cy A cells slots (pc) lv (.long (qL y) :: .long (qL x) :: st) (M) := by
  intro H locs ls hP hD hS hL
  have k9 := kk H locs ls hP hD hS hL
  rw [← qL_div hx hy] at k9
  exact lv_ldiv G.1 G.2.1 hd (fun h9 => hne ((qL_eq hy r64_0).mp (h9.trans qL_0.symm))) k9
theorem q_lrem (G : qG p s m args meth c cc nL own D cy A) {x y : Int} (hd : decode cc pc = .ok (.lrem, 1)) (hx : r64 x) (hy : r64 y) (hne : y ≠ 0) (kk : qK p l e R s m args below meth c Q nL D cy A cells slots (pc + 1) lv (.long (qL (x.tmod y)) :: st) (M)) : qK p l e R s m args below meth c Q nL D cy A cells slots (pc) lv (.long (qL y) :: .long (qL x) :: st) (M) := by
  intro H locs ls hP hD hS hL
  have k9 := kk H locs ls hP hD hS hL
  rw [← qL_rem hx hy] at k9
  exact lv_lrem G.1 G.2.1 hd (fun h9 => hne ((qL_eq hy r64_0).mp (h9.trans qL_0.symm))) k9
theorem q_lneg (G : qG p s m args meth c cc nL own D cy A) {x : Int} (hd : decode cc pc = .ok (.lneg, 1)) (kk : qK p l e R s m args below meth c Q nL D cy A cells slots (pc + 1) lv (.long (qL (-x)) :: st) (M)) : qK p l e R s m args below meth c Q nL D cy A cells slots (pc) lv (.long (qL x) :: st) (M) := by
  intro H locs ls hP hD hS hL
  have k9 := kk H locs ls hP hD hS hL
  rw [← qL_neg] at k9
  exact lv_lneg G.1 G.2.1 hd k9
theorem q_i2l (G : qG p s m args meth c cc nL own D cy A) {x : Int} (hd : decode cc pc = .ok (.i2l, 1)) (hx : r32 x) (kk : qK p l e R s m args below meth c Q nL D cy A cells slots (pc + 1) lv (.long (qL x) :: st) (M)) : qK p l e R s m args below meth c Q nL D cy A cells slots (pc) lv (.int (qI x) :: st) (M) := by
  intro H locs ls hP hD hS hL
  exact lv_i2l G.1 G.2.1 hd (qI_wide hx) (kk H locs ls hP hD hS hL)
theorem q_l2i (G : qG p s m args meth c cc nL own D cy A) {x : Int} (hd : decode cc pc = .ok (.l2i, 1))  (kk : qK p l e R s m args below meth c Q nL D cy A cells slots (pc + 1) lv (.int (qI x) :: st) (M)) : qK p l e R s m args below meth c Q nL D cy A cells slots (pc) lv (.long (qL x) :: st) (M) := by
  intro H locs ls hP hD hS hL
  exact lv_l2i G.1 G.2.1 hd (qL_cut x) (kk H locs ls hP hD hS hL)
theorem q_dup (G : qG p s m args meth c cc nL own D cy A) {v : Value} (hd : decode cc pc = .ok (.dup, 1)) (hv : v.category = 1) (kk : qK p l e R s m args below meth c Q nL D cy A cells slots (pc + 1) lv (v :: v :: st) (M)) : qK p l e R s m args below meth c Q nL D cy A cells slots (pc) lv (v :: st) (M) := by
  intro H locs ls hP hD hS hL
  exact lv_dup G.1 G.2.1 hd hv (kk H locs ls hP hD hS hL)
theorem q_icmp_eq (G : qG p s m args meth c cc nL own D cy A) {x y : Int} {off : Int} {tgt : Nat} (hd : decode cc pc = .ok (.if_icmp .eq off, 3)) (ht : (pc : Int) + off = (tgt : Int)) (hx : r32 x) (hy : r32 y) (kt : x = y → qK p l e R s m args below meth c Q nL D cy A cells slots (tgt) lv (st) (M)) (kf : x ≠ y → qK p l e R s m args below meth c Q nL D cy A cells slots (pc + 3) lv (st) (M)) : qK p l e R s m args below meth c Q nL D cy A cells slots (pc) lv (.int (qI y) :: .int (qI x) :: st) (M) := by
  intro H locs ls hP hD hS hL
  exact lv_icmp_eq G.1 G.2.1 hd ht (fun h => kt ((qI_eq hx hy).mp h) H locs ls hP hD hS hL) (fun h => kf (fun h8 => h ((qI_eq hx hy).mpr h8)) H locs ls hP hD hS hL)
theorem q_if_eq (G : qG p s m args meth c cc nL own D cy A) {x : Int} {off : Int} {tgt : Nat} (hd : decode cc pc = .ok (.ifCond .eq off, 3)) (ht : (pc : Int) + off = (tgt : Int)) (hx : r32 x) (kt : x = 0 → qK p l e R s m args below meth c Q nL D cy A cells slots (tgt) lv (st) (M)) (kf : x ≠ 0 → qK p l e R s m args below meth c Q nL D cy A cells slots (pc + 3) lv (st) (M)) : qK p l e R s m args below meth c Q nL D cy A cells slots (pc) lv (.int (qI x) :: st) (M) := by
  intro H locs ls hP hD hS hL
  have hy := r32_0
  exact lv_if_eq G.1 G.2.1 hd ht (fun h => kt (by rw [← qI_0] at h; exact (qI_eq hx hy).mp h) H locs ls hP hD hS hL) (fun h => kf (by rw [← qI_0] at h; exact fun h8 => h ((qI_eq hx hy).mpr h8)) H locs ls hP hD hS hL)
theorem q_lcmp_eq (G : qG p s m args meth c cc nL own D cy A) {x y : Int} {off : Int} {tgt : Nat} (hc : decode cc pc = .ok (.lcmp, 1)) (hd : decode cc (pc + 1) = .ok (.ifCond .eq off, 3)) (ht : ((pc + 1 : Nat) : Int) + off = (tgt : Int)) (hx : r64 x) (hy : r64 y) (kt : x = y → qK p l e R s m args below meth c Q nL D cy A cells slots (tgt) lv (st) (M)) (kf : x ≠ y → qK p l e R s m args below meth c Q nL D cy A cells slots (pc + 4) lv (st) (M)) : qK p l e R s m args below meth c Q nL D cy A cells slots (pc) lv (.long (qL y) :: .long (qL x) :: st) (M) := by
  intro H locs ls hP hD hS hL
  refine W.lcmp G.1 G.2.1 hc ?_
  exact lv_if_eq G.1 G.2.1 hd ht (fun h => kt (by rw [lg_cmp_eq] at h; exact (qL_eq hx hy).mp h) H locs ls hP hD hS hL) (fun h => kf (by rw [lg_cmp_eq] at h; exact fun h8 => h ((qL_eq hx hy).mpr h8)) H locs ls hP hD hS hL)
theorem q_icmp_ne (G : qG p s m args meth c cc nL own D cy A) {x y : Int} {off : Int} {tgt : Nat} (hd : decode cc pc = .ok (.if_icmp .ne off, 3)) (ht : (pc : Int) + off = (tgt : Int)) (hx : r32 x) (hy : r32 y) (kt : x ≠ y → qK p l e R s m args below meth c Q nL D cy A cells slots (tgt) lv (st) (M)) (kf : x = y → qK p l e R s m args below meth c Q nL D cy A cells slots (pc + 3) lv (st) (M)) : qK p l e R s m args below meth c Q nL D cy A cells slots (pc) lv (.int (qI y) :: .int (qI x) :: st) (M) := by
  intro H locs ls hP hD hS hL
  exact lv_icmp_ne G.1 G.2.1 hd ht (fun h => kt (fun h8 => h ((qI_eq hx hy).mpr h8)) H locs ls hP hD hS hL) (fun h => kf ((qI_eq hx hy).mp h) H locs ls hP hD hS hL)
theorem q_if_ne (G : qG p s m args meth c cc nL own D cy A) {x : Int} {off : Int} {tgt : Nat} (hd : decode cc pc = .ok (.ifCond .ne off, 3)) (ht : (pc : Int) + off = (tgt : Int)) (hx : r32 x) (kt : x ≠ 0 → qK p l e R s m args below meth c Q nL D cy A cells slots (tgt) lv (st) (M)) (kf : x = 0 → qK p l e R s m args below meth c Q nL D cy A cells slots (pc + 3) lv (st) (M)) : qK p l e R s m args below meth c Q nL D cy A cells slots (pc) lv (.int (qI x) :: st) (M) := by
  intro H locs ls hP hD hS hL
  have hy := r32_0
  exact lv_if_ne G.1 G.2.1 hd ht (fun h => kt (by rw [← qI_0] at h; exact fun h8 => h ((qI_eq hx hy).mpr h8)) H locs ls hP hD hS hL) (fun h => kf (by rw [← qI_0] at h; exact (qI_eq hx hy).mp h) H locs ls hP hD hS hL)
theorem q_lcmp_ne (G : qG p s m args meth c cc nL own D cy A) {x y : Int} {off : Int} {tgt : Nat} (hc : decode cc pc = .ok (.lcmp, 1)) (hd : decode cc (pc + 1) = .ok (.ifCond .ne off, 3)) (ht : ((pc + 1 : Nat) : Int) + off = (tgt : Int)) (hx : r64 x) (hy : r64 y) (kt : x ≠ y → qK p l e R s m args below meth c Q nL D cy A cells slots (tgt) lv (st) (M)) (kf : x = y → qK p l e R s m args below meth c Q nL D cy A cells slots (pc + 4) lv (st) (M)) : qK p l e R s m args below meth c Q nL D cy A cells slots (pc) lv (.long (qL y) :: .long (qL x) :: st) (M) := by
  intro H locs ls hP hD hS hL
  refine W.lcmp G.1 G.2.1 hc ?_
  exact lv_if_ne G.1 G.2.1 hd ht (fun h => kt (by rw [lg_cmp_eq] at h; exact fun h8 => h ((qL_eq hx hy).mpr h8)) H locs ls hP hD hS hL) (fun h => kf (by rw [lg_cmp_eq] at h; exact (qL_eq hx hy).mp h) H locs ls hP hD hS hL)
theorem q_icmp_lt (G : qG p s m args meth c cc nL own D cy A) {x y : Int} {off : Int} {tgt : Nat} (hd : decode cc pc = .ok (.if_icmp .lt off, 3)) (ht : (pc : Int) + off = (tgt : Int)) (hx : r32 x) (hy : r32 y) (kt : x < y → qK p l e R s m args below meth c Q nL D cy A cells slots (tgt) lv (st) (M)) (kf : y ≤ x → qK p l e R s m args below meth c Q nL D cy A cells slots (pc + 3) lv (st) (M)) : qK p l e R s m args below meth c Q nL D cy A cells slots (pc) lv (.int (qI y) :: .int (qI x) :: st) (M) := by
  intro H locs ls hP hD hS hL
  exact lv_icmp_lt G.1 G.2.1 hd ht (fun h => kt ((qI_lt hx hy).mp h) H locs ls hP hD hS hL) (fun h => kf (Int.not_lt.mp (fun h8 => h ((qI_lt hx hy).mpr h8))) H locs ls hP hD hS hL)
theorem q_if_lt (G : qG p s m args meth c cc nL own D cy A) {x : Int} {off : Int} {tgt : Nat} (hd : decode cc pc = .ok (.ifCond .lt off, 3)) (ht : (pc : Int) + off = (tgt : Int)) (hx : r32 x) (kt : x < 0 → qK p l e R s m args below meth c Q nL D cy A cells slots (tgt) lv (st) (M)) (kf : 0 ≤ x → qK p l e R s m args below meth c Q nL D cy A cells slots (pc + 3) lv (st) (M)) : qK p l e R s m args below meth c Q nL D cy A cells slots (pc) lv (.int (qI x) :: st) (M) := by
  intro H locs ls hP hD hS hL
  have hy := r32_0
  exact lv_if_lt G.1 G.2.1 hd ht (fun h => kt (by rw [← qI_0] at h; exact (qI_lt hx hy).mp h) H locs ls hP hD hS hL) (fun h => kf (by rw [← qI_0] at h; exact Int.not_lt.mp (fun h8 => h ((qI_lt hx hy).mpr h8))) H locs ls hP hD hS hL)
theorem q_lcmp_lt (G : qG p s m args meth c cc nL own D cy A) {x y : Int} {off : Int} {tgt : Nat} (hc : decode cc pc = .ok (.lcmp, 1)) (hd : decode cc (pc + 1) = .ok (.ifCond .lt off, 3)) (ht : ((pc + 1 : Nat) : Int) + off = (tgt : Int)) (hx : r64 x) (hy : r64 y) (kt : x < y → qK p l e R s m args below meth c Q nL D cy A cells slots (tgt) lv (st) (M)) (kf : y ≤ x → qK p l e R s m args below meth c Q nL D cy A cells slots (pc + 4) lv (st) (M)) : qK p l e R s m args below meth c Q nL D cy A cells slots (pc) lv (.long (qL y) :: .long (qL x) :: st) (M) := by
  intro H locs ls hP hD hS hL
  refine W.lcmp G.1 G.2.1 hc ?_
  exact lv_if_lt G.1 G.2.1 hd ht (fun h => kt (by rw [lg_cmp_lt] at h; exact (qL_lt hx hy).mp h) H locs ls hP hD hS hL) (fun h => kf (by rw [lg_cmp_lt] at h; exact Int.not_lt.mp (fun h8 => h ((qL_lt hx hy).mpr h8))) H locs ls hP hD hS hL)
theorem q_icmp_ge (G : qG p s m args meth c cc nL own D cy A) {x y : Int} {off : Int} {tgt : Nat} (hd : decode cc pc = .ok (.if_icmp .ge off, 3)) (ht : (pc : Int) + off = (tgt : Int)) (hx : r32 x) (hy : r32 y) (kt : y ≤ x → qK p l e R s m args below meth c Q nL D cy A cells slots (tgt) lv (st) (M)) (kf : x < y → qK p l e R s m args below meth c Q nL D cy A cells slots (pc + 3) lv (st) (M)) : qK p l e R s m args below meth c Q nL D cy A cells slots (pc) lv (.int (qI y) :: .int (qI x) :: st) (M) := by
  intro H locs ls hP hD hS hL
  exact lv_icmp_ge G.1 G.2.1 hd ht (fun h => kt ((qI_le hy hx).mp h) H locs ls hP hD hS hL) (fun h => kf (Int.not_le.mp (fun h8 => h ((qI_le hy hx).mpr h8))) H locs ls hP hD hS hL)
theorem q_if_ge (G : qG p s m args meth c cc nL own D cy A) {x : Int} {off : Int} {tgt : Nat} (hd : decode cc pc = .ok (.ifCond .ge off, 3)) (ht : (pc : Int) + off = (tgt : Int)) (hx : r32 x) (kt : 0 ≤ x → qK p l e R s m args below meth c Q nL D cy A cells slots (tgt) lv (st) (M)) (kf : x < 0 → qK p l e R s m args below meth c Q nL D cy A cells slots (pc + 3) lv (st) (M)) : qK p l e R s m args below meth c Q nL D cy A cells slots (pc) lv (.int (qI x) :: st) (M) := by
  intro H locs ls hP hD hS hL
  have hy := r32_0
  exact lv_if_ge G.1 G.2.1 hd ht (fun h => kt (by rw [← qI_0] at h; exact (qI_le hy hx).mp h) H locs ls hP hD hS hL) (fun h => kf (by rw [← qI_0] at h; exact Int.not_le.mp (fun h8 => h ((qI_le hy hx).mpr h8))) H locs ls hP hD hS hL)
theorem q_lcmp_ge (G : qG p s m args meth c cc nL own D cy A) {x y : Int} {off : Int} {tgt : Nat} (hc : decode cc pc = .ok (.lcmp, 1)) (hd : decode cc (pc + 1) = .ok (.ifCond .ge off, 3)) (ht : ((pc + 1 : Nat) : Int) + off = (tgt : Int)) (hx : r64 x) (hy : r64 y) (kt : y ≤ x → qK p l e R s m args below meth c Q nL D cy A cells slots (tgt) lv (st) (M)) (kf : x < y → qK p l e R s m args below meth c Q nL D cy A cells slots (pc + 4) lv (st) (M)) : qK p l e R s m args below meth c Q nL D cy A cells slots (pc) lv (.long (qL y) :: .long (qL x) :: st) (M) := by
  intro H locs ls hP hD hS hL
  refine W.lcmp G.1 G.2.1 hc ?_
  exact lv_if_ge G.1 G.2.1 hd ht (fun h => kt (by rw [lg_cmp_ge] at h; exact (qL_le hy hx).mp h) H locs ls hP hD hS hL) (fun h => kf (by rw [lg_cmp_ge] at h; exact Int.not_le.mp (fun h8 => h ((qL_le hy hx).mpr h8))) H locs ls hP hD hS hL)
theorem q_icmp_gt (G : qG p s m args meth c cc nL own D cy A) {x y : Int} {off : Int} {tgt : Nat} (hd : decode cc pc = .ok (.if_icmp .gt off, 3)) (ht : (pc : Int) + off = (tgt : Int)) (hx : r32 x) (hy : r32 y) (kt : y < x → qK p l e R s m args below meth c Q nL D cy A cells slots (tgt) lv (st) (M)) (kf : x ≤ y → qK p l e R s m args below meth c Q nL D cy A cells slots (pc + 3) lv (st) (M)) : qK p l e R s m args below meth c Q nL D cy A cells slots (pc) lv (.int (qI y) :: .int (qI x) :: st) (M) := by
  intro H locs ls hP hD hS hL
  exact lv_icmp_gt G.1 G.2.1 hd ht (fun h => kt ((qI_lt hy hx).mp h) H locs ls hP hD hS hL) (fun h => kf (Int.not_lt.mp (fun h8 => h ((qI_lt hy hx).mpr h8))) H locs ls hP hD hS hL)
theorem q_if_gt (G : qG p s m args meth c cc nL own D cy A) {x : Int} {off : Int} {tgt : Nat} (hd : decode cc pc = .ok (.ifCond .gt off, 3)) (ht : (pc : Int) + off = (tgt : Int)) (hx : r32 x) (kt : 0 < x → qK p l e R s m args below meth c Q nL D cy A cells slots (tgt) lv (st) (M)) (kf : x ≤ 0 → qK p l e R s m args below meth c Q nL D cy A cells slots (pc + 3) lv (st) (M)) : qK p l e R s m args below meth c Q nL D cy A cells slots (pc) lv (.int (qI x) :: st) (M) := by
  intro H locs ls hP hD hS hL
  have hy := r32_0
  exact lv_if_gt G.1 G.2.1 hd ht (fun h => kt (by rw [← qI_0] at h; exact (qI_lt hy hx).mp h) H locs ls hP hD hS hL) (fun h => kf (by rw [← qI_0] at h; exact Int.not_lt.mp (fun h8 => h ((qI_lt hy hx).mpr h8))) H locs ls hP hD hS hL)
theorem q_lcmp_gt (G : qG p s m args meth c cc nL own D cy A) {x y : Int} {off : Int} {tgt : Nat} (hc : decode cc pc = .ok (.lcmp, 1)) (hd : decode cc (pc + 1) = .ok (.ifCond .gt off, 3)) (ht : ((pc + 1 : Nat) : Int) + off = (tgt : Int)) (hx : r64 x) (hy : r64 y) (kt : y < x → qK p l e R s m args below meth c Q nL D cy A cells slots (tgt) lv (st) (M)) (kf : x ≤ y → qK p l e R s m args below meth c Q nL D cy A cells slots (pc + 4) lv (st) (M)) : qK p l e R s m args below meth c Q nL D cy A cells slots (pc) lv (.long (qL y) :: .long (qL x) :: st) (M) := by
  intro H locs ls hP hD hS hL
  refine W.lcmp G.1 G.2.1 hc ?_
  exact lv_if_gt G.1 G.2.1 hd ht (fun h => kt (by rw [lg_cmp_gt] at h; exact (qL_lt hy hx).mp h) H locs ls hP hD hS hL) (fun h => kf (by rw [lg_cmp_gt] at h; exact Int.not_lt.mp (fun h8 => h ((qL_lt hy hx).mpr h8))) H locs ls hP hD hS hL)
theorem q_icmp_le (G : qG p s m args meth c cc nL own D cy A) {x y : Int} {off : Int} {tgt : Nat} (hd : decode cc pc = .ok (.if_icmp .le off, 3)) (ht : (pc : Int) + off = (tgt : Int)) (hx : r32 x) (hy : r32 y) (kt : x ≤ y → qK p l e R s m args below meth c Q nL D cy A cells slots (tgt) lv (st) (M)) (kf : y < x → qK p l e R s m args below meth c Q nL D cy A cells slots (pc + 3) lv (st) (M)) : qK p l e R s m args below meth c Q nL D cy A cells slots (pc) lv (.int (qI y) :: .int (qI x) :: st) (M) := by
  intro H locs ls hP hD hS hL
  exact lv_icmp_le G.1 G.2.1 hd ht (fun h => kt ((qI_le hx hy).mp h) H locs ls hP hD hS hL) (fun h => kf (Int.not_le.mp (fun h8 => h ((qI_le hx hy).mpr h8))) H locs ls hP hD hS hL)
theorem q_if_le (G : qG p s m args meth c cc nL own D cy A) {x : Int} {off : Int} {tgt : Nat} (hd : decode cc pc = .ok (.ifCond .le off, 3)) (ht : (pc : Int) + off = (tgt : Int)) (hx : r32 x) (kt : x ≤ 0 → qK p l e R s m args below meth c Q nL D cy A cells slots (tgt) lv (st) (M)) (kf : 0 < x → qK p l e R s m args below meth c Q nL D cy A cells slots (pc + 3) lv (st) (M)) : qK p l e R s m args below meth c Q nL D cy A cells slots (pc) lv (.int (qI x) :: st) (M) := by
  intro H locs ls hP hD hS hL
  have hy := r32_0
  exact lv_if_le G.1 G.2.1 hd ht (fun h => kt (by rw [← qI_0] at h; exact (qI_le hx hy).mp h) H locs ls hP hD hS hL) (fun h => kf (by rw [← qI_0] at h; exact Int.not_le.mp (fun h8 => h ((qI_le hx hy).mpr h8))) H locs ls hP hD hS hL)
theorem q_lcmp_le (G : qG p s m args meth c cc nL own D cy A) {x y : Int} {off : Int} {tgt : Nat} (hc : decode cc pc = .ok (.lcmp, 1)) (hd : decode cc (pc + 1) = .ok (.ifCond .le off, 3)) (ht : ((pc + 1 : Nat) : Int) + off = (tgt : Int)) (hx : r64 x) (hy : r64 y) (kt : x ≤ y → qK p l e R s m args below meth c Q nL D cy A cells slots (tgt) lv (st) (M)) (kf : y < x → qK p l e R s m args below meth c Q nL D cy A cells slots (pc + 4) lv (st) (M)) : qK p l e R s m args below meth c Q nL D cy A cells slots (pc) lv (.long (qL y) :: .long (qL x) :: st) (M) := by
  intro H locs ls hP hD hS hL
  refine W.lcmp G.1 G.2.1 hc ?_
  exact lv_if_le G.1 G.2.1 hd ht (fun h => kt (by rw [lg_cmp_le] at h; exact (qL_le hx hy).mp h) H locs ls hP hD hS hL) (fun h => kf (by rw [lg_cmp_le] at h; exact Int.not_le.mp (fun h8 => h ((qL_le hx hy).mpr h8))) H locs ls hP hD hS hL)
theorem q_goto (G : qG p s m args meth c cc nL own D cy A) {off : Int} {tgt : Nat} (hd : decode cc pc = .ok (.goto off, 3)) (ht : (pc : Int) + off = (tgt : Int)) (kk : qK p l e R s m args below meth c Q nL D cy A cells slots (tgt) lv (st) (M)) : qK p l e R s m args below meth c Q nL D cy A cells slots (pc) lv (st) (M) := by
  intro H locs ls hP hD hS hL
  exact lv_goto G.1 G.2.1 hd ht (kk H locs ls hP hD hS hL)
theorem q_ifnull (G : qG p s m args meth c cc nL own D cy A) {x : Option Nat} {off : Int} {tgt : Nat} (hd : decode cc pc = .ok (.ifnull off, 3)) (ht : (pc : Int) + off = (tgt : Int)) (kt : x = none → qK p l e R s m args below meth c Q nL D cy A cells slots (tgt) lv (st) (M)) (kf : ∀ a, x = some a → qK p l e R s m args below meth c Q nL D cy A cells slots (pc + 3) lv (st) (M)) : qK p l e R s m args below meth c Q nL D cy A cells slots (pc) lv (va_rf x :: st) (M) := by
  intro H locs ls hP hD hS hL
  cases x with
  | none => exact lv_ifnullN G.1 G.2.1 hd ht (kt rfl H locs ls hP hD hS hL)
  | some a => exact lv_ifnull G.1 G.2.1 hd (kf a rfl H locs ls hP hD hS hL)
theorem q_ifnonnull (G : qG p s m args meth c cc nL own D cy A) {x : Option Nat} {off : Int} {tgt : Nat} (hd : decode cc pc = .ok (.ifnonnull off, 3)) (ht : (pc : Int) + off = (tgt : Int)) (kt : ∀ a, x = some a → qK p l e R s m args below meth c Q nL D cy A cells slots (tgt) lv (st) (M)) (kf : x = none → qK p l e R s m args below meth c Q nL D cy A cells slots (pc + 3) lv (st) (M)) : qK p l e R s m args below meth c Q nL D cy A cells slots (pc) lv (va_rf x :: st) (M) := by
  intro H locs ls hP hD hS hL
  cases x with
  | none => exact lv_ifnonnullN G.1 G.2.1 hd (kf rfl H locs ls hP hD hS hL)
  | some a => exact lv_ifnonnull G.1 G.2.1 hd ht (kt a rfl H locs ls hP hD hS hL)
theorem q_tableIn (G : qG p s m args meth c cc nL own D cy A) {dflt lo hi off : Int} {offs : Array Int} {len : Nat} {x : Int} {tgt : Nat} (hd : decode cc pc = .ok (.tableswitch dflt lo hi offs, len)) (hx : r32 x) (h1 : lo ≤ x) (h2 : x ≤ hi) (ho : offs[(x - lo).toNat]? = some off) (ht : (pc : Int) + off = (tgt : Int)) (kk : qK p l e R s m args below meth c Q nL D cy A cells slots (tgt) lv (st) (M)) : qK p l e R s m args below meth c Q nL D cy A cells slots (pc) lv (.int (qI x) :: st) (M) := by
  intro H locs ls hP hD hS hL
  exact lv_tableIn G.1 G.2.1 hd (by rw [qI_int hx]; omega) (by rw [qI_int hx]; omega) (by rw [qI_int hx]; exact ho) ht (kk H locs ls hP hD hS hL)
theorem q_tableOut (G : qG p s m args meth c cc nL own D cy A) {dflt lo hi : Int} {offs : Array Int} {len : Nat} {x : Int} {tgt : Nat} (hd : decode cc pc = .ok (.tableswitch dflt lo hi offs, len)) (hx : r32 x) (h : x < lo ∨ hi < x) (ht : (pc : Int) + dflt = (tgt : Int)) (kk : qK p l e R s m args below meth c Q nL D cy A cells slots (tgt) lv (st) (M)) : qK p l e R s m args below meth c Q nL D cy A cells slots (pc) lv (.int (qI x) :: st) (M) := by
  intro H locs ls hP hD hS hL
  exact lv_tableOut G.1 G.2.1 hd (by rw [qI_int hx]; exact h) ht (kk H locs ls hP hD hS hL)
/-- a field's link: plain, or of a nest mate -/
def qFL (own : String) (index ci k : Nat) : Prop := ∃ (C : String) (T : u_T) (N : Nat), vwCl[ci]? = some (C, T, N) ∧ k < N ∧ (∀ w ∈ u_ws C T N, w ∈ qB) ∧ (Cond.fieldLink own index (T k).1 (T k).2.1 (T k).2.2.1 ∈ qB ∨ ∃ host, Cond.fieldLinkNest own index (T k).1 (T k).2.1 (T k).2.2.1 host ∈ qX)
theorem q_get (G : qG p s m args meth c cc nL own D cy A) {index ci k a : Nat} {v : Value} (hd : decode cc pc = .ok (.getfield index, 3)) (hf : qFL own index ci k) (ha : a ∈ mP M) (hk : mK M a = ci) (hc : ci < 6) (hv : (qF ci M a)[k]? = some v) (kk : qK p l e R s m args below meth c Q nL D cy A cells slots (pc + 3) lv (v :: st) (M)) : qK p l e R s m args below meth c Q nL D cy A cells slots (pc) lv (.ref a :: st) (M) := by
  intro H locs ls hP hD hS hL
  obtain ⟨q0, hq⟩ := qW_get (cy := cy) ha
  rw [qC_o hk hc] at hq
  obtain ⟨C, T, N, h1, h2, h3, h4⟩ := hf
  rcases h4 with h4 | ⟨host, h4⟩
  · exact va_get (D := D) G.1 G.2.1 G.2.2.2.2.1 h3 G.2.2.2.1 G.2.2.2.2.2.2.1.1 hP q0 hq h1 k h2 (G.2.2.2.2.1 _ h4) (fun _ h9 => h9) hv hd (kk H locs ls hP hD hS hL)
  · exact va_getN (D := D) G.1 G.2.1 G.2.2.2.2.1 h3 G.2.2.2.1 G.2.2.2.2.2.2.1.1 hP q0 hq h1 k h2 (va_Nw.use rfl (G.2.2.2.2.2.2.1.2.1 _ h4)) (fun _ h9 => h9) hv hd (kk H locs ls hP hD hS hL)
/-- what is put: its type -/
def qPL (own : String) (index ci k : Nat) (v : Value) : Prop := ∃ (C : String) (T : u_T) (N : Nat) (ty0 : Nat → FieldType) (ty : FieldType), vwCl[ci]? = some (C, T, N) ∧ k < N ∧ (∀ w ∈ u_ws C T N, w ∈ qB) ∧ (∀ k, k < N → parseFieldDescriptor (T k).2.2.1 = some (ty0 k)) ∧ (∀ a, a < N → ∀ b, b < N → a ≠ b → (T a).2.1 ≠ (T b).2.1) ∧ parseFieldDescriptor (T k).2.2.1 = some ty ∧ narrow ty v = v ∧ fits ty v = true ∧
  (((T k).2.2.2 = false ∧ (Cond.fieldLink own index (T k).1 (T k).2.1 (T k).2.2.1 ∈ qB ∨ ∃ host, Cond.fieldLinkNest own index (T k).1 (T k).2.1 (T k).2.2.1 host ∈ qX)) ∨ ((T k).2.2.2 = true ∧ (T k).1 = own ∧ Cond.fieldLink own index (T k).1 (T k).2.1 (T k).2.2.1 ∈ qB))
theorem q_put (G : qG p s m args meth c cc nL own D cy A) {index ci k a : Nat} {v : Value} {M' : qM} (hd : decode cc pc = .ok (.putfield index, 3)) (hf : qPL own index ci k v) (hfin : ∀ (C : String) (T : u_T) (N : Nat), vwCl[ci]? = some (C, T, N) → (T k).2.2.2 = true → meth.name = "<init>") (ha : a ∈ mP M) (hk : mK M a = ci) (hc : ci < 6) (hl : k < (qF ci M a).length) (hk2 : mK M' a = ci) (hp : mP M' = mP M) (he : (qF ci M a).set k v = qF ci M' a) (ho : ∀ b, b ≠ a → qC cy M' b = qC cy M b) (kk : qK p l e R s m args below meth c Q nL D cy A cells slots (pc + 3) lv (st) (M')) : qK p l e R s m args below meth c Q nL D cy A cells slots (pc) lv (v :: .ref a :: st) (M) := by
  intro H locs ls hP hD hS hL
  obtain ⟨q0, hq⟩ := qW_get (cy := cy) ha
  have hq2 := hq
  rw [qC_o hk hc] at hq
  have hset := qW_set hD ha hq2 hp ho
  rw [qC_o hk2 hc, ← he] at hset
  have fin : ∀ (H1 : Heap) (locs1 : List Loc), va_P D vwCl ((qW cy M).set q0 (a, .inr (ci, (qF ci M a).set k v))) H1 → va_D A ((qW cy M).set q0 (a, .inr (ci, (qF ci M a).set k v))) → va_S A s.heap H1 locs1 → W p l e R s m args below meth c H1 locs1 cells slots Q (F0 m (pc + 3) ls st) := by
    intro H1 locs1 h1 h2 h3
    rw [hset] at h1 h2
    exact kk H1 locs1 ls h1 h2 h3 hL
  obtain ⟨C, T, N, ty0, ty, h1, h2, h3, h5, h6, h7, h8, h9, h4⟩ := hf
  rcases h4 with ⟨h10, h4 | ⟨host, h4⟩⟩ | ⟨h10, h11, h4⟩
  · exact va_put (D := D) G.1 G.2.1 G.2.2.2.2.1 h3 ty0 h5 h6 G.2.2.2.1 G.2.2.2.2.2.2.1.1 hP hD hS q0 hq h1 k h2 (G.2.2.2.2.1 _ h4) (fun _ h9 => h9) h10 h7 h8 h9 hl hd fin
  · exact va_putN (D := D) G.1 G.2.1 G.2.2.2.2.1 h3 ty0 h5 h6 G.2.2.2.1 G.2.2.2.2.2.2.1.1 hP hD hS q0 hq h1 k h2 (va_Nw.use rfl (G.2.2.2.2.2.2.1.2.1 _ h4)) (fun _ h9 => h9) h10 h7 h8 h9 hl hd fin
  · exact va_putF (D := D) G.1 G.2.1 G.2.2.2.2.1 h3 ty0 h5 h6 G.2.2.2.1 G.2.2.2.2.2.2.1.1 hP hD hS q0 hq h1 k h2 (G.2.2.2.2.1 _ h4) (fun _ h9 => h9) h10 (hfin C T N h1 h10) h11 h7 h8 h9 hl hd fin
theorem q_iaload (G : qG p s m args meth c cc nL own D cy A) {a : Nat} {i : Int} (hd : decode cc pc = .ok (.iaload, 1)) (ha : a ∈ mP M) (hk : mK M a = 6) (h0 : 0 ≤ i) (hi : i < mN M a) (hN : mN M a < 2147483648) (kk : qK p l e R s m args below meth c Q nL D cy A cells slots (pc + 1) lv (.int (qI (mI M a i.toNat)) :: st) (M)) : qK p l e R s m args below meth c Q nL D cy A cells slots (pc) lv (.int (qI i) :: .ref a :: st) (M) := by
  intro H locs ls hP hD hS hL
  obtain ⟨q0, hq⟩ := qW_get (cy := cy) ha
  rw [qC_I hk] at hq
  refine va_iald (D := D) G.1 G.2.1 G.2.2.2.2.2.2.1.1 hP q0 0 hq rfl (qI_in h0 hi hN) hd ?_
  rw [qI_nat h0 (by omega)]
  exact kk H locs ls hP hD hS hL
theorem q_laload (G : qG p s m args meth c cc nL own D cy A) {a : Nat} {i : Int} (hd : decode cc pc = .ok (.laload, 1)) (ha : a ∈ mP M) (hk : mK M a = 7) (h0 : 0 ≤ i) (hi : i < mN M a) (hN : mN M a < 2147483648) (kk : qK p l e R s m args below meth c Q nL D cy A cells slots (pc + 1) lv (.long (qL (mL M a i.toNat)) :: st) (M)) : qK p l e R s m args below meth c Q nL D cy A cells slots (pc) lv (.int (qI i) :: .ref a :: st) (M) := by
  intro H locs ls hP hD hS hL
  obtain ⟨q0, hq⟩ := qW_get (cy := cy) ha
  rw [qC_J hk] at hq
  refine va_lald (D := D) G.1 G.2.1 G.2.2.2.2.2.2.1.1 hP q0 1 hq rfl (qI_in h0 hi hN) hd ?_
  rw [qI_nat h0 (by omega)]
  exact kk H locs ls hP hD hS hL
theorem q_baload (G : qG p s m args meth c cc nL own D cy A) {a : Nat} {i : Int} (hd : decode cc pc = .ok (.baload, 1)) (ha : a ∈ mP M) (hk : mK M a = 8) (h0 : 0 ≤ i) (hi : i < mN M a) (hN : mN M a < 2147483648) (kk : qK p l e R s m args below meth c Q nL D cy A cells slots (pc + 1) lv (.int (qI (mI M a i.toNat)) :: st) (M)) : qK p l e R s m args below meth c Q nL D cy A cells slots (pc) lv (.int (qI i) :: .ref a :: st) (M) := by
  intro H locs ls hP hD hS hL
  obtain ⟨q0, hq⟩ := qW_get (cy := cy) ha
  rw [qC_Z hk] at hq
  refine va_zald (D := D) G.1 G.2.1 G.2.2.2.2.2.2.1.1 hP q0 2 hq rfl (qI_in h0 hi hN) hd ?_
  rw [qI_nat h0 (by omega)]
  exact kk H locs ls hP hD hS hL
theorem q_aaloadF (G : qG p s m args meth c cc nL own D cy A) {a : Nat} {i : Int} (hd : decode cc pc = .ok (.aaload, 1)) (ha : a ∈ mP M) (hk : mK M a = 9) (h0 : 0 ≤ i) (hi : i < mN M a) (hN : mN M a < 2147483648) (kk : qK p l e R s m args below meth c Q nL D cy A cells slots (pc + 1) lv (va_rf (mR M a i.toNat) :: st) (M)) : qK p l e R s m args below meth c Q nL D cy A cells slots (pc) lv (.int (qI i) :: .ref a :: st) (M) := by
  intro H locs ls hP hD hS hL
  obtain ⟨q0, hq⟩ := qW_get (cy := cy) ha
  rw [qC_F hk] at hq
  refine va_aldq (D := D) G.1 G.2.1 G.2.2.2.2.2.2.1.1 hP q0 3 hq rfl (qI_in h0 hi hN) hd ?_
  rw [qI_nat h0 (by omega)]
  exact kk H locs ls hP hD hS hL
theorem q_aaloadR (G : qG p s m args meth c cc nL own D cy A) {a : Nat} {i : Int} (hd : decode cc pc = .ok (.aaload, 1)) (ha : a ∈ mP M) (hk : mK M a = 10) (h0 : 0 ≤ i) (hi : i < mN M a) (hN : mN M a < 2147483648) (kk : qK p l e R s m args below meth c Q nL D cy A cells slots (pc + 1) lv (va_rf (mR M a i.toNat) :: st) (M)) : qK p l e R s m args below meth c Q nL D cy A cells slots (pc) lv (.int (qI i) :: .ref a :: st) (M) := by
  intro H locs ls hP hD hS hL
  obtain ⟨q0, hq⟩ := qW_get (cy := cy) ha
  rw [qC_R hk] at hq
  refine va_aldq (D := D) G.1 G.2.1 G.2.2.2.2.2.2.1.1 hP q0 4 hq rfl (qI_in h0 hi hN) hd ?_
  rw [qI_nat h0 (by omega)]
  exact kk H locs ls hP hD hS hL
theorem q_iastore (G : qG p s m args meth c cc nL own D cy A) {a : Nat} {i x : Int} (hd : decode cc pc = .ok (.iastore, 1)) (ha : a ∈ mP M) (hk : mK M a = 6) (h0 : 0 ≤ i) (hi : i < mN M a) (hN : mN M a < 2147483648)  (kk : qK p l e R s m args below meth c Q nL D cy A cells slots (pc + 1) lv (st) (sI M a i.toNat x)) : qK p l e R s m args below meth c Q nL D cy A cells slots (pc) lv (.int (qI x) :: .int (qI i) :: .ref a :: st) (M) := by
  intro H locs ls hP hD hS hL
  obtain ⟨q0, hq⟩ := qW_get (cy := cy) ha
  have hq2 := hq
  rw [qC_I hk] at hq
  have hset := qW_set (M' := sI M a i.toNat x) hD ha hq2 rfl (fun b hb => qC_sI hb)
  rw [qC_I (show mK (sI M a i.toNat x) a = 6 from hk)] at hset
  refine va_iast (D := D) G.1 G.2.1 G.2.2.2.2.2.2.1.1 hP hD hS q0 0 hq rfl (qI_in h0 hi hN) hd (fun H1 locs1 h1 h2 h3 => ?_)
  have ef : upd (fun j => qI (mI M a j)) (qI i).toNatClampNeg (qI x) = fun j => qI (mI (sI M a i.toNat x) a j) := by
    rw [qI_nat h0 (by omega)]
    funext j
    by_cases hj : j = i.toNat
    · subst hj; simp [upd, vp_updL, sI, sL, mI, mL, up2]
    · simp [upd, vp_updL, sI, sL, mI, mL, up2, hj]
  rw [ef] at h1 h2
  rw [show mN M a = mN (sI M a i.toNat x) a from rfl] at h1 h2
  rw [hset] at h1 h2
  exact kk H1 locs1 ls h1 h2 h3 hL
theorem q_lastore (G : qG p s m args meth c cc nL own D cy A) {a : Nat} {i x : Int} (hd : decode cc pc = .ok (.lastore, 1)) (ha : a ∈ mP M) (hk : mK M a = 7) (h0 : 0 ≤ i) (hi : i < mN M a) (hN : mN M a < 2147483648)  (kk : qK p l e R s m args below meth c Q nL D cy A cells slots (pc + 1) lv (st) (sL M a i.toNat x)) : qK p l e R s m args below meth c Q nL D cy A cells slots (pc) lv (.long (qL x) :: .int (qI i) :: .ref a :: st) (M) := by
  intro H locs ls hP hD hS hL
  obtain ⟨q0, hq⟩ := qW_get (cy := cy) ha
  have hq2 := hq
  rw [qC_J hk] at hq
  have hset := qW_set (M' := sL M a i.toNat x) hD ha hq2 rfl (fun b hb => qC_sL hb)
  rw [qC_J (show mK (sL M a i.toNat x) a = 7 from hk)] at hset
  refine va_last (D := D) G.1 G.2.1 G.2.2.2.2.2.2.1.1 hP hD hS q0 1 hq rfl (qI_in h0 hi hN) hd (fun H1 locs1 h1 h2 h3 => ?_)
  have ef : vp_updL (fun j => qL (mL M a j)) (qI i).toNatClampNeg (qL x) = fun j => qL (mL (sL M a i.toNat x) a j) := by
    rw [qI_nat h0 (by omega)]
    funext j
    by_cases hj : j = i.toNat
    · subst hj; simp [upd, vp_updL, sI, sL, mI, mL, up2]
    · simp [upd, vp_updL, sI, sL, mI, mL, up2, hj]
  rw [ef] at h1 h2
  rw [show mN M a = mN (sL M a i.toNat x) a from rfl] at h1 h2
  rw [hset] at h1 h2
  exact kk H1 locs1 ls h1 h2 h3 hL
theorem q_bastore (G : qG p s m args meth c cc nL own D cy A) {a : Nat} {i x : Int} (hd : decode cc pc = .ok (.bastore, 1)) (ha : a ∈ mP M) (hk : mK M a = 8) (h0 : 0 ≤ i) (hi : i < mN M a) (hN : mN M a < 2147483648) (hz : vp_nar .boolean (qI x) = qI x) (kk : qK p l e R s m args below meth c Q nL D cy A cells slots (pc + 1) lv (st) (sI M a i.toNat x)) : qK p l e R s m args below meth c Q nL D cy A cells slots (pc) lv (.int (qI x) :: .int (qI i) :: .ref a :: st) (M) := by
  intro H locs ls hP hD hS hL
  obtain ⟨q0, hq⟩ := qW_get (cy := cy) ha
  have hq2 := hq
  rw [qC_Z hk] at hq
  have hset := qW_set (M' := sI M a i.toNat x) hD ha hq2 rfl (fun b hb => qC_sI hb)
  rw [qC_Z (show mK (sI M a i.toNat x) a = 8 from hk)] at hset
  refine va_zast (D := D) G.1 G.2.1 G.2.2.2.2.2.2.1.1 hP hD hS q0 2 hq rfl (qI_in h0 hi hN) hd (fun H1 locs1 h1 h2 h3 => ?_)
  have ef : upd (fun j => qI (mI M a j)) (qI i).toNatClampNeg (qI x) = fun j => qI (mI (sI M a i.toNat x) a j) := by
    rw [qI_nat h0 (by omega)]
    funext j
    by_cases hj : j = i.toNat
    · subst hj; simp [upd, vp_updL, sI, sL, mI, mL, up2]
    · simp [upd, vp_updL, sI, sL, mI, mL, up2, hj]
  rw [hz] at h1 h2
  rw [ef] at h1 h2
  rw [show mN M a = mN (sI M a i.toNat x) a from rfl] at h1 h2
  rw [hset] at h1 h2
  exact kk H1 locs1 ls h1 h2 h3 hL
end QR
