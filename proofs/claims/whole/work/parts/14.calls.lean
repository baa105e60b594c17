/-! contracts over the memory -/
def qQ (D : va_G) (cy : Nat → ClassId) (P0 : List Nat) (Qv : Option Value → qM → Prop) : Array Value → State → Outcome → State → Prop := fun _ st oc t =>
  (∃ (v : Option Value) (M' : qM), oc = .returned v ∧ Qv v M' ∧ va_P D vwCl (qW cy M') t.heap ∧ va_D (qA P0 st.heap.size) (qW cy M')) ∧ va_F (qA P0 st.heap.size) st t
def qPc (D : va_G) (cy : Nat → ClassId) (As : List Value) (M : qM) (sz : Nat) : Array Value → State → Prop := fun a U =>
  a = As.toArray ∧ U.heap.size = sz ∧ va_P D vwCl (qW cy M) U.heap ∧ va_D (fun _ => True) (qW cy M) ∧ qE D cy (qA (mP M) U.heap.size) U
/-- y, called with As in the memory M, returns as Qv says -/
def qCt (l : Launch) (D : va_G) (cy : Nat → ClassId) (y : MethodName) (bytes : ByteArray) (maxL : Nat) (ret : Option FieldType) (rm : Room) (mc ms : Nat) (As : List Value) (M : qM) (Qv : Option Value → qM → Prop) : Prop :=
  ∀ sz : Nat, Met l y (Cond.code y bytes maxL ret :: qB) rm (qPc D cy As M sz) (qQ D cy (mP M) Qv) mc ms (qA (mP M) sz)
/-- what holds where it throws: the class, and nothing has changed -/
def qXC (D : va_G) (cy : Nat → ClassId) (M : qM) (X : String → Prop) : String → State → State → Prop := fun E st t =>
  X E ∧ va_P D vwCl (qW cy M) t.heap ∧ va_F (qA (mP M) st.heap.size) st t
/-- y, called with As in the memory M, returns as Qv says or throws a class of X, M being as before -/
def qCx (l : Launch) (D : va_G) (cy : Nat → ClassId) (y : MethodName) (bytes : ByteArray) (maxL : Nat) (ret : Option FieldType) (rm : Room) (mc ms : Nat) (As : List Value) (M : qM) (Qv : Option Value → qM → Prop) (X : String → Prop) : Prop :=
  ∀ sz : Nat, vx_Met l y (Cond.code y bytes maxL ret :: qB) rm (qPc D cy As M sz) (qQ D cy (mP M) Qv) (qXC D cy M X) mc ms (qA (mP M) sz)
theorem qPc_blind (D : va_G) (cy : Nat → ClassId) (As : List Value) (M : qM) (sz : Nat) : FrameBlind (qPc D cy As M sz) := fun a U g mk h => ⟨h.1, h.2.1, h.2.2.1, h.2.2.2.1, qE_frame h.2.2.2.2 g mk a⟩
section QC
variable {p : Program} {l : Launch} {e : Env} {R : Room} {s : State} {m : MethodId} {args : Array Value} {below : List Frame} {meth : Method} {c : Code} {Q : State → Prop}
variable {cc : ByteArray} {nL : Nat} {own : String} {D : va_G} {cy : Nat → ClassId} {A : Nat → Prop} {cells slots : Nat} {pc : Nat} {lv lv' : List (Nat × Value)} {st : List Value} {M : qM}
theorem qPre {As : List Value} {H : Heap} {locs : List Loc} (G : qG p s m args meth c cc nL own D cy A) (hP : va_P D vwCl (qW cy M) H) (hD : va_D A (qW cy M)) (hS : va_S A s.heap H locs) (hin : ∀ q ∈ mP M, A q) : ∀ U : State, U.heap = H → s.WarmedH U.vm → qPc D cy As M H.size As.toArray U := by
  intro U hU hW
  refine ⟨rfl, by rw [hU], by rw [hU]; exact hP, hD.weaken (fun _ _ _ _ => trivial), ?_⟩
  refine qE_call G.2.2.2.2.2.2.1 hS hU hW (fun q hq => ?_)
  rcases hq with h | h
  · exact hin q h
  · exact G.2.2.2.2.2.2.2 q (Nat.le_trans hS.1 (by rw [hU] at h; exact h))
theorem qSub {H : Heap} {locs : List Loc} (G : qG p s m args meth c cc nL own D cy A) (hD : va_D A (qW cy M)) (hS : va_S A s.heap H locs) : ∀ q, qA (mP M) H.size q → A q := fun q h => h.elim (fun h => qD_in hD h) (fun h => G.2.2.2.2.2.2.2 q (Nat.le_trans hS.1 h))
theorem qAfter {H : Heap} {locs : List Loc} {ls : Array Slot} {st0 rest : List Value} {mc ms : Nat} {a : Array Value} {Qv : Option Value → qM → Prop} (G : qG p s m args meth c cc nL own D cy A) (hD : va_D A (qW cy M)) (hS : va_S A s.heap H locs) (hL : lv_has ls nL lv)
    (hr : va_Run p l e R s m args below meth c H locs cells slots mc ms (F0 m pc ls st0) rest (qQ D cy (mP M) Qv a) (qA (mP M) H.size))
    (kk : ∀ v M', Qv v M' → qK p l e R s m args below meth c Q nL D cy A (cells + mc) (slots + ms) (pc + 3) lv (v.toList ++ rest) M') :
    W p l e R s m args below meth c H locs cells slots Q (F0 m pc ls st0) := by
  intro T hT X
  obtain ⟨v, st₀, t, T', L, h0, X', hLc, e1, e2, ⟨⟨v', M', hv, hq, hP1, hD1⟩, hz, hk⟩, stp⟩ := hr T hT X
  cases hv
  rw [h0] at hz hk hD1
  have hsub := qSub G hD hS
  have hS1 : va_S A s.heap T'.heap (locs ++ L) := ⟨Nat.le_trans hS.1 (by rw [e1]; exact hz), fun q h1 h2 => by rw [e1, hk q (Nat.lt_of_lt_of_le h1 hS.1) (fun z => h2 (hsub q z))]; exact hS.2.1 q h1 h2, fun q hq => by
    rcases List.mem_append.mp hq with h | h
    · exact hS.2.2 q h
    · exact hsub _ (hLc q h)⟩
  obtain ⟨t2, a1, b1⟩ := kk v M' hq T'.heap (locs ++ L) ls (by rw [e1]; exact hP1) (hD1.weaken (fun _ q _ h => hsub q.1 h)) hS1 hL T' rfl X'
  exact ⟨t2, stp t2 a1, b1⟩
theorem qAfterX {H : Heap} {locs : List Loc} {ls : Array Slot} {st0 rest : List Value} {mc ms : Nat} {a : Array Value} {Qv : Option Value → qM → Prop} {X : String → Prop} (G : qG p s m args meth c cc nL own D cy A) (hD : va_D A (qW cy M)) (hS : va_S A s.heap H locs) (hL : lv_has ls nL lv)
    (hr : vx_Run p l e R s m args below meth c H locs cells slots mc ms (F0 m pc ls st0) rest (qQ D cy (mP M) Qv a) (qXC D cy M X) (qA (mP M) H.size))
    (kx : ∀ (E : String) (ce : Cell) (q : Addr) (H1 : Heap) (locs1 : List Loc), X E → va_P D vwCl (qW cy M) H1 → va_S A s.heap H1 locs1 → H1[q]? = some ce → ce.vm = .none → s.vm.findClass E = some ce.cls → vx_W p l e R s m args below meth c H1 locs1 (cells + mc) (slots + ms) Q (F0 m pc ls rest) q)
    (kk : ∀ v M', Qv v M' → qK p l e R s m args below meth c Q nL D cy A (cells + mc) (slots + ms) (pc + 3) lv (v.toList ++ rest) M') :
    W p l e R s m args below meth c H locs cells slots Q (F0 m pc ls st0) := by
  intro T hT X0
  have hsub := qSub G hD hS
  rcases hr T hT X0 with ⟨v, st₀, t, T', L, h0, X', hLc, e1, e2, ⟨⟨v', M', hv, hq, hP1, hD1⟩, hz, hk⟩, stp⟩ | ⟨q, st₀, t, T', L, E, ce, h0, X', hLc, e1, e2, ⟨hx, hP1, hz, hk⟩, hce, hcv, hcl, stp⟩
  · cases hv
    rw [h0] at hz hk hD1
    have hS1 : va_S A s.heap T'.heap (locs ++ L) := ⟨Nat.le_trans hS.1 (by rw [e1]; exact hz), fun q h1 h2 => by rw [e1, hk q (Nat.lt_of_lt_of_le h1 hS.1) (fun z => h2 (hsub q z))]; exact hS.2.1 q h1 h2, fun q hq => by
      rcases List.mem_append.mp hq with h | h
      · exact hS.2.2 q h
      · exact hsub _ (hLc q h)⟩
    obtain ⟨t2, a1, b1⟩ := kk v M' hq T'.heap (locs ++ L) ls (by rw [e1]; exact hP1) (hD1.weaken (fun _ q _ h => hsub q.1 h)) hS1 hL T' rfl X'
    exact ⟨t2, stp t2 a1, b1⟩
  · rw [h0] at hz hk
    have hS1 : va_S A s.heap T'.heap (locs ++ L) := ⟨Nat.le_trans hS.1 (by rw [e1]; exact hz), fun q h1 h2 => by rw [e1, hk q (Nat.lt_of_lt_of_le h1 hS.1) (fun z => h2 (hsub q z))]; exact hS.2.1 q h1 h2, fun q hq => by
      rcases List.mem_append.mp hq with h | h
      · exact hS.2.2 q h
      · exact hsub _ (hLc q h)⟩
    obtain ⟨t2, a1, b1⟩ := kx E ce q T'.heap (locs ++ L) hx (by rw [e1]; exact hP1) hS1 (by rw [e1]; exact hce) hcv hcl T' rfl X'
    exact ⟨t2, stp.trans a1, b1⟩
/-- the words of a call -/
def qSig (y : MethodName) (n : Nat) : Prop := y.cls ≠ "java/lang/invoke/MethodHandle" ∧ y.cls ≠ "java/lang/invoke/VarHandle" ∧ (parseMethodDescriptor y.desc).map (fun d => d.parameters.length) = some n
def qCV (own : String) (index : Nat) (C : String) (y : MethodName) (bytes : ByteArray) (maxL : Nat) (ret : Option FieldType) (n : Nat) : Prop :=
  (Cond.methodLink own index y ∈ qB ∧ Cond.instanceMethod y ∈ qB ∧ Cond.selects C y y ∈ qB ∧ Cond.initialized C ∈ qB ∧ Cond.code y bytes maxL ret ∈ qB) ∧ y.cls = C ∧ qSig y n
def qCS (own : String) (index : Nat) (y : MethodName) (bytes : ByteArray) (maxL : Nat) (ret : Option FieldType) (n : Nat) : Prop :=
  (Cond.methodLink own index y ∈ qB ∧ Cond.static y ∈ qB ∧ Cond.initialized own ∈ qB ∧ Cond.code y bytes maxL ret ∈ qB) ∧ y.cls = own ∧ qSig y n
def qCSN (own : String) (index : Nat) (y : MethodName) (bytes : ByteArray) (maxL : Nat) (ret : Option FieldType) (n : Nat) : Prop :=
  (∃ host, Cond.methodLinkNest own index y host ∈ qX) ∧ (Cond.static y ∈ qB ∧ Cond.initialized y.cls ∈ qB ∧ Cond.code y bytes maxL ret ∈ qB) ∧ qSig y n
def qCI (own : String) (index : Nat) (y : MethodName) (bytes : ByteArray) (maxL : Nat) (n : Nat) : Prop :=
  (Cond.methodLink own index y ∈ qB ∨ ∃ host, Cond.methodLinkNest own index y host ∈ qX) ∧ (Cond.instanceMethod y ∈ qB ∧ Cond.initialized y.cls ∈ qB ∧ Cond.code y bytes maxL none ∈ qB) ∧ y.name = "<init>" ∧ qSig y n
theorem qGood {y : MethodName} {bytes : ByteArray} {maxL : Nat} {ret : Option FieldType} (h : Cond.code y bytes maxL ret ∈ qB) : ∀ w ∈ Cond.code y bytes maxL ret :: qB, w ∈ qB := fun w hw => (List.mem_cons.mp hw).elim (fun e => e ▸ h) id
theorem q_callV {index ci n b maxL mc ms : Nat} {C : String} {T : u_T} {N : Nat} {y : MethodName} {bytes : ByteArray} {ret : Option FieldType} {rm : Room} {As rest st0 : List Value} {Qv : Option Value → qM → Prop} (G : qG p s m args meth c cc nL own D cy A)
    (hd : decode cc pc = .ok (.invokevirtual index, 3)) (hw : qCV own index C y bytes maxL ret n) (hM : qCt l D cy y bytes maxL ret rm mc ms (.ref b :: As) M Qv) (hb : b ∈ mP M) (hk : mK M b = ci) (hc6 : ci < 6) (hcl : vwCl[ci]? = some (C, T, N))
    (hst : st0 = As.reverse ++ .ref b :: rest) (hn : As.length = n) (hcat : (rest.map fun v => v.category).sum ≤ 8) (hrc : rm.cells = mc) (hrs : rm.slots = ms) (hR : rm.frames + 1 ≤ R.frames ∧ 8 + (maxL + 11) + rm.locals ≤ R.locals) (hf : cells + mc ≤ R.cells ∧ slots + ms ≤ R.slots)
    (kk : ∀ v M', Qv v M' → qK p l e R s m args below meth c Q nL D cy A (cells + mc) (slots + ms) (pc + 3) lv (v.toList ++ rest) M') : qK p l e R s m args below meth c Q nL D cy A cells slots pc lv st0 M := by
  intro H locs ls hP hD hS hL
  obtain ⟨⟨w1, w2, w3, w4, w5⟩, hC, hsig⟩ := hw
  obtain ⟨q0, hq⟩ := qW_get (cy := cy) hb
  rw [qC_o hk hc6] at hq
  refine qAfter G hD hS hL (va_runV (As := As) (rest := rest) (b := b) (C := C) (Ts := qB) ⟨G.1, G.2.1, G.2.2.1, G.2.2.2.1, G.2.2.2.2.1⟩ (hM H.size) (cwV n G.2.2.2.2.1 (qB_in ?_) rfl hrc hrs ⟨hC, hsig⟩ hR) ⟨qPc_blind _ _ _ _ _, ?_, qPre G hP hD hS (fun q h => qD_in hD h)⟩ rfl hn hL.1 hst (lv_room hcat) hd hf) kk
  · intro w h
    unfold wsV at h
    simp only [List.cons_append, List.nil_append, List.mem_cons] at h
    rcases h with rfl | rfl | rfl | rfl | rfl | h
    · exact w1
    · exact w2
    · exact w3
    · exact w4
    · exact w5
    · exact h
  · exact va_recv G.2.2.2.2.2.2.1.1 hP hcl hq
theorem q_callVX {index ci n b maxL mc ms : Nat} {C : String} {T : u_T} {N : Nat} {y : MethodName} {bytes : ByteArray} {ret : Option FieldType} {rm : Room} {As rest st0 : List Value} {Qv : Option Value → qM → Prop} {X : String → Prop} (G : qG p s m args meth c cc nL own D cy A)
    (hd : decode cc pc = .ok (.invokevirtual index, 3)) (hw : qCV own index C y bytes maxL ret n) (hM : qCx l D cy y bytes maxL ret rm mc ms (.ref b :: As) M Qv X) (hb : b ∈ mP M) (hk : mK M b = ci) (hc6 : ci < 6) (hcl : vwCl[ci]? = some (C, T, N))
    (hst : st0 = As.reverse ++ .ref b :: rest) (hn : As.length = n) (hcat : (rest.map fun v => v.category).sum ≤ 8) (hrc : rm.cells = mc) (hrs : rm.slots = ms) (hR : rm.frames + 1 ≤ R.frames ∧ 8 + (maxL + 11) + rm.locals ≤ R.locals) (hf : cells + mc ≤ R.cells ∧ slots + ms ≤ R.slots)
    (kx : ∀ (E : String) (ce : Cell) (q : Addr) (H1 : Heap) (locs1 : List Loc) (ls : Array Slot), X E → va_P D vwCl (qW cy M) H1 → va_D A (qW cy M) → va_S A s.heap H1 locs1 → lv_has ls nL lv → H1[q]? = some ce → ce.vm = .none → s.vm.findClass E = some ce.cls → vx_W p l e R s m args below meth c H1 locs1 (cells + mc) (slots + ms) Q (F0 m pc ls rest) q)
    (kk : ∀ v M', Qv v M' → qK p l e R s m args below meth c Q nL D cy A (cells + mc) (slots + ms) (pc + 3) lv (v.toList ++ rest) M') : qK p l e R s m args below meth c Q nL D cy A cells slots pc lv st0 M := by
  intro H locs ls hP hD hS hL
  obtain ⟨⟨w1, w2, w3, w4, w5⟩, hC, hsig⟩ := hw
  obtain ⟨q0, hq⟩ := qW_get (cy := cy) hb
  rw [qC_o hk hc6] at hq
  refine qAfterX G hD hS hL (vx_runV (As := As) (rest := rest) (b := b) (C := C) (Ts := qB) ⟨G.1, G.2.1, G.2.2.1, G.2.2.2.1, G.2.2.2.2.1⟩ (hM H.size) (cwV n G.2.2.2.2.1 (qB_in ?_) rfl hrc hrs ⟨hC, hsig⟩ hR) ⟨qPc_blind _ _ _ _ _, ?_, qPre G hP hD hS (fun q h => qD_in hD h)⟩ rfl hn hL.1 hst (lv_room hcat) hd hf) (fun E ce q H1 locs1 hx h1 h2 h3 h4 h5 => kx E ce q H1 locs1 ls hx h1 hD h2 hL h3 h4 h5) kk
  · intro w h
    unfold wsV at h
    simp only [List.cons_append, List.nil_append, List.mem_cons] at h
    rcases h with rfl | rfl | rfl | rfl | rfl | h
    · exact w1
    · exact w2
    · exact w3
    · exact w4
    · exact w5
    · exact h
  · exact va_recv G.2.2.2.2.2.2.1.1 hP hcl hq
theorem q_callS {index n maxL mc ms : Nat} {y : MethodName} {bytes : ByteArray} {ret : Option FieldType} {rm : Room} {As rest st0 : List Value} {Qv : Option Value → qM → Prop} (G : qG p s m args meth c cc nL own D cy A)
    (hd : decode cc pc = .ok (.invokestatic index, 3)) (hw : qCS own index y bytes maxL ret n) (hM : qCt l D cy y bytes maxL ret rm mc ms As M Qv)
    (hst : st0 = As.reverse ++ rest) (hn : As.length = n) (hcat : (rest.map fun v => v.category).sum ≤ 8) (hrc : rm.cells = mc) (hrs : rm.slots = ms) (hR : rm.frames + 1 ≤ R.frames ∧ 8 + (maxL + 11) + rm.locals ≤ R.locals) (hf : cells + mc ≤ R.cells ∧ slots + ms ≤ R.slots)
    (kk : ∀ v M', Qv v M' → qK p l e R s m args below meth c Q nL D cy A (cells + mc) (slots + ms) (pc + 3) lv (v.toList ++ rest) M') : qK p l e R s m args below meth c Q nL D cy A cells slots pc lv st0 M := by
  intro H locs ls hP hD hS hL
  obtain ⟨⟨w1, w2, w3, w4⟩, hC, hsig⟩ := hw
  refine qAfter G hD hS hL (va_runS (As := As) (rest := rest) (Ts := qB) ⟨G.1, G.2.1, G.2.2.1, G.2.2.2.1, G.2.2.2.2.1⟩ (hM H.size) (cwS n G.2.2.2.2.1 (qB_in ?_) rfl hrc hrs ⟨hC, hsig⟩ hR) ⟨qPc_blind _ _ _ _ _, qPre G hP hD hS (fun q h => qD_in hD h)⟩ rfl hn hL.1 hst (lv_room hcat) hd hf) kk
  intro w h
  unfold wsS at h
  simp only [List.cons_append, List.nil_append, List.mem_cons] at h
  rcases h with rfl | rfl | rfl | rfl | h
  · exact w1
  · exact w2
  · exact w3
  · exact w4
  · exact h
theorem q_callSX {index n maxL mc ms : Nat} {y : MethodName} {bytes : ByteArray} {ret : Option FieldType} {rm : Room} {As rest st0 : List Value} {Qv : Option Value → qM → Prop} {X : String → Prop} (G : qG p s m args meth c cc nL own D cy A)
    (hd : decode cc pc = .ok (.invokestatic index, 3)) (hw : qCS own index y bytes maxL ret n) (hM : qCx l D cy y bytes maxL ret rm mc ms As M Qv X)
    (hst : st0 = As.reverse ++ rest) (hn : As.length = n) (hcat : (rest.map fun v => v.category).sum ≤ 8) (hrc : rm.cells = mc) (hrs : rm.slots = ms) (hR : rm.frames + 1 ≤ R.frames ∧ 8 + (maxL + 11) + rm.locals ≤ R.locals) (hf : cells + mc ≤ R.cells ∧ slots + ms ≤ R.slots)
    (kx : ∀ (E : String) (ce : Cell) (q : Addr) (H1 : Heap) (locs1 : List Loc) (ls : Array Slot), X E → va_P D vwCl (qW cy M) H1 → va_D A (qW cy M) → va_S A s.heap H1 locs1 → lv_has ls nL lv → H1[q]? = some ce → ce.vm = .none → s.vm.findClass E = some ce.cls → vx_W p l e R s m args below meth c H1 locs1 (cells + mc) (slots + ms) Q (F0 m pc ls rest) q)
    (kk : ∀ v M', Qv v M' → qK p l e R s m args below meth c Q nL D cy A (cells + mc) (slots + ms) (pc + 3) lv (v.toList ++ rest) M') : qK p l e R s m args below meth c Q nL D cy A cells slots pc lv st0 M := by
  intro H locs ls hP hD hS hL
  obtain ⟨⟨w1, w2, w3, w4⟩, hC, hsig⟩ := hw
  refine qAfterX G hD hS hL (vx_runS (As := As) (rest := rest) (Ts := qB) ⟨G.1, G.2.1, G.2.2.1, G.2.2.2.1, G.2.2.2.2.1⟩ (hM H.size) (cwS n G.2.2.2.2.1 (qB_in ?_) rfl hrc hrs ⟨hC, hsig⟩ hR) ⟨qPc_blind _ _ _ _ _, qPre G hP hD hS (fun q h => qD_in hD h)⟩ rfl hn hL.1 hst (lv_room hcat) hd hf) (fun E ce q H1 locs1 hx h1 h2 h3 h4 h5 => kx E ce q H1 locs1 ls hx h1 hD h2 hL h3 h4 h5) kk
  intro w h
  unfold wsS at h
  simp only [List.cons_append, List.nil_append, List.mem_cons] at h
  rcases h with rfl | rfl | rfl | rfl | h
  · exact w1
  · exact w2
  · exact w3
  · exact w4
  · exact h
theorem q_callSN {index n maxL mc ms : Nat} {y : MethodName} {bytes : ByteArray} {ret : Option FieldType} {rm : Room} {As rest st0 : List Value} {Qv : Option Value → qM → Prop} (G : qG p s m args meth c cc nL own D cy A)
    (hd : decode cc pc = .ok (.invokestatic index, 3)) (hw : qCSN own index y bytes maxL ret n) (hM : qCt l D cy y bytes maxL ret rm mc ms As M Qv)
    (hst : st0 = As.reverse ++ rest) (hn : As.length = n) (hcat : (rest.map fun v => v.category).sum ≤ 8) (hrc : rm.cells = mc) (hrs : rm.slots = ms) (hR : rm.frames + 1 ≤ R.frames ∧ 8 + (maxL + 11) + rm.locals ≤ R.locals) (hf : cells + mc ≤ R.cells ∧ slots + ms ≤ R.slots)
    (kk : ∀ v M', Qv v M' → qK p l e R s m args below meth c Q nL D cy A (cells + mc) (slots + ms) (pc + 3) lv (v.toList ++ rest) M') : qK p l e R s m args below meth c Q nL D cy A cells slots pc lv st0 M := by
  intro H locs ls hP hD hS hL
  obtain ⟨⟨host, w1⟩, ⟨w2, w3, w4⟩, hsig⟩ := hw
  exact qAfter G hD hS hL (va_runSN (As := As) (rest := rest) (Ts := qB) (host := host) ⟨G.1, G.2.1, G.2.2.1, G.2.2.2.1, G.2.2.2.2.1⟩ (hM H.size) ⟨va_cnB n G.2.2.2.2.1 (qB_in (qGood w4)) rfl hrc hrs (G.2.2.2.2.2.2.1.2.1 _ w1) (G.2.2.2.2.1 _ w3) hsig hR, G.2.2.2.2.1 _ w2, trivial⟩ ⟨qPc_blind _ _ _ _ _, qPre G hP hD hS (fun q h => qD_in hD h)⟩ rfl hn hL.1 hst (lv_room hcat) hd hf) kk
theorem q_callI {index n b maxL mc ms : Nat} {y : MethodName} {bytes : ByteArray} {rm : Room} {As rest st0 : List Value} {Qv : Option Value → qM → Prop} (G : qG p s m args meth c cc nL own D cy A)
    (hd : decode cc pc = .ok (.invokespecial index, 3)) (hw : qCI own index y bytes maxL n) (hM : qCt l D cy y bytes maxL none rm mc ms (.ref b :: As) M Qv)
    (hst : st0 = As.reverse ++ .ref b :: rest) (hn : As.length = n) (hcat : (rest.map fun v => v.category).sum ≤ 8) (hrc : rm.cells = mc) (hrs : rm.slots = ms) (hR : rm.frames + 1 ≤ R.frames ∧ 8 + (maxL + 11) + rm.locals ≤ R.locals) (hf : cells + mc ≤ R.cells ∧ slots + ms ≤ R.slots)
    (kk : ∀ v M', Qv v M' → qK p l e R s m args below meth c Q nL D cy A (cells + mc) (slots + ms) (pc + 3) lv (v.toList ++ rest) M') : qK p l e R s m args below meth c Q nL D cy A cells slots pc lv st0 M := by
  intro H locs ls hP hD hS hL
  obtain ⟨w1, ⟨w2, w3, w4⟩, hnm, hsig⟩ := hw
  rcases w1 with w1 | ⟨host, w1⟩
  · exact qAfter G hD hS hL (va_runI (As := As) (rest := rest) (b := b) (Ts := qB) ⟨G.1, G.2.1, G.2.2.1, G.2.2.2.1, G.2.2.2.2.1⟩ (hM H.size) (cwI n G.2.2.2.2.1 (qB_in (qGood w4)) rfl hrc hrs (G.2.2.2.2.1 _ w3) (G.2.2.2.2.1 _ w1) (G.2.2.2.2.1 _ w2) hnm hsig hR) ⟨qPc_blind _ _ _ _ _, qPre G hP hD hS (fun q h => qD_in hD h)⟩ rfl hn hL.1 hst (lv_room hcat) hd hf) kk
  · exact qAfter G hD hS hL (va_runIN (As := As) (rest := rest) (b := b) (Ts := qB) (host := host) ⟨G.1, G.2.1, G.2.2.1, G.2.2.2.1, G.2.2.2.2.1⟩ (hM H.size) ⟨va_cnB n G.2.2.2.2.1 (qB_in (qGood w4)) rfl hrc hrs (G.2.2.2.2.2.2.1.2.1 _ w1) (G.2.2.2.2.1 _ w3) hsig hR, hnm, G.2.2.2.2.1 _ w2⟩ ⟨qPc_blind _ _ _ _ _, qPre G hP hD hS (fun q h => qD_in hD h)⟩ rfl hn hL.1 hst (lv_room hcat) hd hf) kk
/-! returns -/
theorem qEnd {P0 : List Nat} {Qv : Option Value → qM → Prop} {H : Heap} {locs : List Loc} {v : Option Value} (hP : va_P D vwCl (qW cy M) H) (hD : va_D (qA P0 s.heap.size) (qW cy M)) (hS : va_S (qA P0 s.heap.size) s.heap H locs) (hq : Qv v M) : ∀ t : State, t.heap = H → s.WarmedH t.vm → qQ D cy P0 Qv args s (.returned v) t := fun t ht _ =>
  ⟨⟨v, M, rfl, hq, by rw [ht]; exact hP, hD⟩, hS.F ht⟩
variable {P0 : List Nat} {Qv : Option Value → qM → Prop} {XC : String → State → State → Prop} {mc ms : Nat}
theorem q_vret (G : qG p s m args meth c cc nL own D cy (qA P0 s.heap.size)) (hd : decode cc pc = .ok (.return_, 1)) (hr : meth.sig.returnType = none) (hc : cells ≤ mc) (hs : slots ≤ ms) (hq : Qv none M) : qK p l e R s m args below meth c (MQ below (qQ D cy P0 Qv) args s mc ms (qA P0 s.heap.size)) nL D cy (qA P0 s.heap.size) cells slots pc lv [] M := by
  intro H locs ls hP hD hS hL
  exact W.widen hc hs (W.vret G.1 G.2.1 hr (qEnd hP hD hS hq) hS.2.2 hd G.2.2.2.2.2.1)
theorem q_iret {x : Int32} (G : qG p s m args meth c cc nL own D cy (qA P0 s.heap.size)) (hd : decode cc pc = .ok (.ireturn, 1)) (hr : meth.sig.returnType = some .int) (hc : cells ≤ mc) (hs : slots ≤ ms) (hq : Qv (some (.int x)) M) : qK p l e R s m args below meth c (MQ below (qQ D cy P0 Qv) args s mc ms (qA P0 s.heap.size)) nL D cy (qA P0 s.heap.size) cells slots pc lv [.int x] M := by
  intro H locs ls hP hD hS hL
  exact W.widen hc hs (W.iret G.1 G.2.1 hr (qEnd hP hD hS hq) hS.2.2 hd G.2.2.2.2.2.1)
theorem q_zret {x : Int32} (G : qG p s m args meth c cc nL own D cy (qA P0 s.heap.size)) (hd : decode cc pc = .ok (.ireturn, 1)) (hr : meth.sig.returnType = some .boolean) (hn : narrow .boolean (.int x) = .int x) (hc : cells ≤ mc) (hs : slots ≤ ms) (hq : Qv (some (.int x)) M) : qK p l e R s m args below meth c (MQ below (qQ D cy P0 Qv) args s mc ms (qA P0 s.heap.size)) nL D cy (qA P0 s.heap.size) cells slots pc lv [.int x] M := by
  intro H locs ls hP hD hS hL
  exact W.widen hc hs (W.zret G.1 G.2.1 hr hn (qEnd hP hD hS hq) hS.2.2 hd G.2.2.2.2.2.1)
theorem q_lret {x : Int64} (G : qG p s m args meth c cc nL own D cy (qA P0 s.heap.size)) (hd : decode cc pc = .ok (.lreturn, 1)) (hr : meth.sig.returnType = some .long) (hc : cells ≤ mc) (hs : slots ≤ ms) (hq : Qv (some (.long x)) M) : qK p l e R s m args below meth c (MQ below (qQ D cy P0 Qv) args s mc ms (qA P0 s.heap.size)) nL D cy (qA P0 s.heap.size) cells slots pc lv [.long x] M := by
  intro H locs ls hP hD hS hL
  exact W.widen hc hs (W.lret G.1 G.2.1 hr (qEnd hP hD hS hq) hS.2.2 hd G.2.2.2.2.2.1)
theorem q_aret {a : Nat} {n : String} (G : qG p s m args meth c cc nL own D cy (qA P0 s.heap.size)) (hd : decode cc pc = .ok (.areturn, 1)) (hr : meth.sig.returnType = some (.object n)) (hc : cells ≤ mc) (hs : slots ≤ ms) (hq : Qv (some (.ref a)) M) : qK p l e R s m args below meth c (MQ below (qQ D cy P0 Qv) args s mc ms (qA P0 s.heap.size)) nL D cy (qA P0 s.heap.size) cells slots pc lv [.ref a] M := by
  intro H locs ls hP hD hS hL
  exact W.widen hc hs (W.aret G.1 G.2.1 hr (Or.inl ⟨n, rfl⟩) (Or.inr ⟨a, rfl⟩) (qEnd hP hD hS hq) hS.2.2 hd G.2.2.2.2.2.1)
/-- in a method that may throw -/
theorem q_retX {st : List Value} (k : qK p l e R s m args below meth c (MQ below (qQ D cy P0 Qv) args s mc ms (qA P0 s.heap.size)) nL D cy (qA P0 s.heap.size) cells slots pc lv st M) : qK p l e R s m args below meth c (vx_MQ below (qQ D cy P0 Qv) XC args s mc ms (qA P0 s.heap.size)) nL D cy (qA P0 s.heap.size) cells slots pc lv st M := fun H locs ls hP hD hS hL => vx_ret (k H locs ls hP hD hS hL)
end QC
section QB
variable {l : Launch} {D : va_G} {cy : Nat → ClassId} {y : MethodName} {bytes : ByteArray} {maxL : Nat} {ret : Option FieldType} {rm : Room} {mc ms : Nat} {As : List Value} {M : qM} {Qv : Option Value → qM → Prop} {X : String → Prop}
/-- a contract, by its body -/
theorem qCt_of {lv0 : List (Nat × Value)} (hy : plainName y.cls = true) (hlv : lv_args 0 As = lv0) (hn : (lg_sl As).length ≤ maxL)
    (body : ∀ (p : Program) (e : Env) (s : State) (m : MethodId) (args : Array Value) (below : List Frame) (meth : Method) (c : Code), qG p s m args meth c bytes maxL y.cls D cy (qA (mP M) s.heap.size) → meth.name = y.name → meth.sig.returnType = ret →
      qK p l e rm s m args below meth c (MQ below (qQ D cy (mP M) Qv) args s mc ms (qA (mP M) s.heap.size)) maxL D cy (qA (mP M) s.heap.size) 0 0 0 lv0 [] M) : qCt l D cy y bytes maxL ret rm mc ms As M Qv := by
  intro sz
  refine Met.ofW (cc := bytes) (maxL := maxL) (ret := ret) hy rfl ?_
  intro p e s m args below meth c s₁ B hml hv
  obtain ⟨ha, hsz, hP, hD, hE⟩ := hv
  subst ha
  subst hsz
  have hts := atoms_spec (ws := Cond.code y bytes maxL ret :: qB) B.pre
  have G : qG p s m As.toArray meth c bytes maxL y.cls D cy (qA (mP M) s.heap.size) := ⟨B.exec, B.bytes, hml, findClass_of_methodNamed B.named, fun w h => hts w (List.mem_cons_of_mem _ h), B.notSynchronized, hE, fun q h => Or.inr h⟩
  have hl := lv_entry As (n := maxL) hn
  rw [lg_entry_eq]
  rw [hlv] at hl
  exact body p e s m As.toArray below meth c G (name_of_methodNamed B.named B.method).1 B.returns s.heap [] _ hP (qD_self hD) va_S.rf hl
theorem qCx_of {lv0 : List (Nat × Value)} (hy : plainName y.cls = true) (hlv : lv_args 0 As = lv0) (hn : (lg_sl As).length ≤ maxL)
    (body : ∀ (p : Program) (e : Env) (s : State) (m : MethodId) (args : Array Value) (below : List Frame) (meth : Method) (c : Code), qG p s m args meth c bytes maxL y.cls D cy (qA (mP M) s.heap.size) → (∀ x ∈ c.exceptionTable.toList, False) → meth.sig.returnType = ret →
      qK p l e rm s m args below meth c (vx_MQ below (qQ D cy (mP M) Qv) (qXC D cy M X) args s mc ms (qA (mP M) s.heap.size)) maxL D cy (qA (mP M) s.heap.size) 0 0 0 lv0 [] M) : qCx l D cy y bytes maxL ret rm mc ms As M Qv X := by
  intro sz
  refine vx_ofW (cc := bytes) (maxL := maxL) (ret := ret) hy rfl ?_
  intro p e s m args below meth c s₁ B hml htab hv
  obtain ⟨ha, hsz, hP, hD, hE⟩ := hv
  subst ha
  subst hsz
  have hts := atoms_spec (ws := Cond.code y bytes maxL ret :: qB) B.pre
  have G : qG p s m As.toArray meth c bytes maxL y.cls D cy (qA (mP M) s.heap.size) := ⟨B.exec, B.bytes, hml, findClass_of_methodNamed B.named, fun w h => hts w (List.mem_cons_of_mem _ h), B.notSynchronized, hE, fun q h => Or.inr h⟩
  have hl := lv_entry As (n := maxL) hn
  rw [lg_entry_eq]
  rw [hlv] at hl
  exact body p e s m As.toArray below meth c G htab B.returns s.heap [] _ hP (qD_self hD) va_S.rf hl
/-- a weaker end -/
theorem qCt_post {Qv' : Option Value → qM → Prop} (h : qCt l D cy y bytes maxL ret rm mc ms As M Qv) (hq : ∀ v M', Qv v M' → Qv' v M') : qCt l D cy y bytes maxL ret rm mc ms As M Qv' := by
  intro sz p e ha hc hk s m args below hf happ hpre htr
  obtain ⟨k, o, h1, h2, h3, ⟨⟨v, M', e1, e2, e3⟩, hF⟩, h5⟩ := h sz p e ha hc hk s m args below hf happ hpre htr
  exact ⟨k, o, h1, h2, h3, ⟨⟨v, M', e1, hq v M' e2, e3⟩, hF⟩, h5⟩
end QB
