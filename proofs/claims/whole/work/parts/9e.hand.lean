/-! methods with a table of handlers -/
def qNl : List (String × String) := [(sIS, sIA), (sIS, sIO), (sIS, sNS), (sIA, sIS), (sIA, sIO), (sIA, sNS), (sIO, sIS), (sIO, sIA), (sIO, sNS), (sNS, sIS), (sNS, sIA), (sNS, sIO)]
def qNs (U : State) : Prop := ∀ q ∈ qNl, va_Nc q.1 q.2 U
def qPh (D : va_G) (cy : Nat → ClassId) (As : List Value) (M : qM) (sz : Nat) : Array Value → State → Prop := fun a U => qPc D cy As M sz a U ∧ qNs U
def qCh (l : Launch) (D : va_G) (cy : Nat → ClassId) (y : MethodName) (bytes : ByteArray) (maxL : Nat) (ret : Option FieldType) (hh : List (Nat × Nat × Nat × Nat)) (rm : Room) (mc ms : Nat) (As : List Value) (M : qM) (Qv : Option Value → qM → Prop) : Prop :=
  ∀ sz : Nat, vx_Met l y (Cond.codeWith y bytes maxL ret hh :: qB) rm (qPh D cy As M sz) (qQ D cy (mP M) Qv) (fun _ _ _ => False) mc ms (qA (mP M) sz)
theorem qNs_moved {u U : State} (hW : u.WarmedH U.vm) (h : qNs u) : qNs U := fun q hq => (h q hq).moved hW.alike
theorem qPh_blind (D : va_G) (cy : Nat → ClassId) (As : List Value) (M : qM) (sz : Nat) : FrameBlind (qPh D cy As M sz) := fun a U g mk h => ⟨qPc_blind D cy As M sz a U g mk h.1, h.2⟩
section QH
variable {l : Launch} {D : va_G} {cy : Nat → ClassId} {y : MethodName} {bytes : ByteArray} {maxL : Nat} {ret : Option FieldType} {rm : Room} {mc ms : Nat} {As : List Value} {M : qM} {Qv : Option Value → qM → Prop}
theorem qCh_of {hh : List (Nat × Nat × Nat × Nat)} {lv0 : List (Nat × Value)} (hy : plainName y.cls = true) (hlv : lv_args 0 As = lv0) (hn : (lg_sl As).length ≤ maxL)
    (body : ∀ (p : Program) (e : Env) (s : State) (m : MethodId) (args : Array Value) (below : List Frame) (meth : Method) (c : Code), qG p s m args meth c bytes maxL y.cls D cy (qA (mP M) s.heap.size) → qNs s → c.exceptionTable.toList = tableOf hh → meth.sig.returnType = ret →
      qK p l e rm s m args below meth c (vx_MQ below (qQ D cy (mP M) Qv) (fun _ _ _ => False) args s mc ms (qA (mP M) s.heap.size)) maxL D cy (qA (mP M) s.heap.size) 0 0 0 lv0 [] M) : qCh l D cy y bytes maxL ret hh rm mc ms As M Qv := by
  intro sz
  refine vx_ofWH (cc := bytes) (maxL := maxL) (ret := ret) (hh := hh) hy rfl ?_
  intro p e s m args below meth c s₁ B hml hv
  obtain ⟨⟨ha, hsz, hP, hD, hE⟩, hNs⟩ := hv
  subst ha
  subst hsz
  have hts := atoms_spec (ws := Cond.codeWith y bytes maxL ret hh :: qB) B.pre
  have G : qG p s m As.toArray meth c bytes maxL y.cls D cy (qA (mP M) s.heap.size) := ⟨B.exec, B.bytes, hml, findClass_of_methodNamed B.named, fun w h => hts w (List.mem_cons_of_mem _ h), B.notSynchronized, hE, fun q h => Or.inr h⟩
  have hl := lv_entry As (n := maxL) hn
  rw [lg_entry_eq]
  rw [hlv] at hl
  exact body p e s m As.toArray below meth c G hNs (vx_table (x := y) B (hts _ List.mem_cons_self)) B.returns s.heap [] _ hP (qD_self hD) va_S.rf hl
end QH
section QI
variable {p : Program} {l : Launch} {e : Env} {R : Room} {s : State} {m : MethodId} {args : Array Value} {below : List Frame} {meth : Method} {c : Code} {Q : State → Prop}
variable {cc : ByteArray} {nL : Nat} {own : String} {D : va_G} {cy : Nat → ClassId} {A : Nat → Prop} {cells slots : Nat} {pc : Nat} {lv lv' : List (Nat × Value)} {st : List Value} {M : qM}
def qCW (own : String) (index : Nat) (y : MethodName) (bytes : ByteArray) (maxL : Nat) (ret : Option FieldType) (hh : List (Nat × Nat × Nat × Nat)) (n : Nat) : Prop :=
  (Cond.methodLink own index y ∈ qB ∧ Cond.static y ∈ qB ∧ Cond.initialized y.cls ∈ qB ∧ Cond.codeWith y bytes maxL ret hh ∈ qB) ∧ qSig y n
theorem q_callH {index n maxL mc ms : Nat} {y : MethodName} {bytes : ByteArray} {ret : Option FieldType} {hh : List (Nat × Nat × Nat × Nat)} {rm : Room} {As rest st0 : List Value} {Qv : Option Value → qM → Prop} (G : qG p s m args meth c cc nL own D cy A) (hNs : qNs s)
    (hd : decode cc pc = .ok (.invokestatic index, 3)) (hw : qCW own index y bytes maxL ret hh n) (hM : qCh l D cy y bytes maxL ret hh rm mc ms As M Qv)
    (hst : st0 = As.reverse ++ rest) (hn : As.length = n) (hcat : (rest.map fun v => v.category).sum ≤ 8) (hrc : rm.cells = mc) (hrs : rm.slots = ms) (hR : rm.frames + 1 ≤ R.frames ∧ 8 + (maxL + 11) + rm.locals ≤ R.locals) (hf : cells + mc ≤ R.cells ∧ slots + ms ≤ R.slots)
    (kk : ∀ v M', Qv v M' → qK p l e R s m args below meth c Q nL D cy A (cells + mc) (slots + ms) (pc + 3) lv (v.toList ++ rest) M') : qK p l e R s m args below meth c Q nL D cy A cells slots pc lv st0 M := by
  intro H locs ls hP hD hS hL
  obtain ⟨⟨w1, w2, w3, w4⟩, hsig⟩ := hw
  have hg : ∀ w ∈ va_wsS own index y (Cond.codeWith y bytes maxL ret hh :: qB), w ∈ qB := by
    intro w h
    unfold va_wsS at h
    simp only [List.cons_append, List.nil_append, List.mem_cons] at h
    rcases h with rfl | rfl | rfl | rfl | h
    · first | exact w1 | exact w2 | exact w3
    · first | exact w2 | exact w3 | exact w1
    · first | exact w3 | exact w1 | exact w2
    · exact w4
    · exact h
  have hr : vx_Run p l e R s m args below meth c H locs cells slots mc ms (F0 m pc ls st0) rest (qQ D cy (mP M) Qv As.toArray) (qXC D cy M (fun _ => False)) (qA (mP M) H.size) := by
    intro T hT X0
    rcases vx_runSX (hh := hh) (As := As) (rest := rest) (Ts := qB) ⟨G.1, G.2.1, G.2.2.1, G.2.2.2.1, G.2.2.2.2.1⟩ (hM H.size) (vx_cwSW n G.2.2.2.2.1 (qB_in hg) rfl hrc hrs hsig hR) ⟨qPh_blind _ _ _ _ _, fun U hU hW => ⟨qPre G hP hD hS (fun q h => qD_in hD h) U hU hW, qNs_moved hW hNs⟩⟩ rfl hn hL.1 hst (lv_room hcat) hd hf T hT X0 with h | ⟨q, st₀, t, T', L, E, ce, h0, X', hLc, e1, e2, hx, hrest⟩
    · exact Or.inl h
    · exact absurd hx id
  exact qAfterX G hD hS hL hr (fun E ce q H1 locs1 hx => hx.elim) kk
/-- a throw that a row of the table takes -/
theorem q_catch {name : String} {E : String} {ce : Cell} {q : Addr} {H1 : Heap} {locs1 : List Loc} {ls : Array Slot} {rest : List Value} {hh pre suf : List (Nat × Nat × Nat × Nat)} {x : Nat × Nat × Nat × Nat} {hp : Nat} (G : qG p s m args meth c cc nL own D cy A) (htab : c.exceptionTable.toList = tableOf hh) (hhe : hh = pre ++ x :: suf)
    (hpass : ∀ z ∈ pre, z.2.2.2 ≠ 0 ∧ ∃ nm : String, Cond.classLink own z.2.2.2 nm ∈ qB ∧ va_Nc E nm s) (hx : (decide (x.1 ≤ pc) && decide (pc < x.2.1)) = true) (h0 : x.2.2.2 ≠ 0) (hpc : x.2.2.1 = hp)
    (hlink : Cond.classLink own x.2.2.2 E ∈ qB) (hcast : Cond.castable E E ∈ qX) (hP : va_P D vwCl (qW cy M) H1) (hD : va_D A (qW cy M)) (hS : va_S A s.heap H1 locs1) (hL : lv_has ls nL lv) (hcell : H1[q]? = some ce) (hv : ce.vm = .none) (hcl : s.vm.findClass E = some ce.cls)
    (kk : qK p l e R s m args below meth c Q nL D cy A cells slots hp lv [.ref q] M) : vx_W p l e R s m args below meth c H1 locs1 cells slots Q (F0 m pc ls rest) q := by
  subst hpc
  refine vx_catch (own := own) (name := E) (E := E) (ce := ce) G.2.2.2.1 (tableOf pre) ⟨x.1, x.2.1, x.2.2.1, x.2.2.2⟩ (tableOf suf) (by rw [htab, hhe]; unfold tableOf; rw [List.map_append]; rfl) (fun z hz => ?_) hx h0 (G.2.2.2.2.1 _ hlink) (qX_use hcast (List.mem_filter.mp hcast |>.2 |> fun _ => by rfl) (G.2.2.2.2.2.2.1.2.1 _ hcast)) hcell hv hcl (kk H1 locs1 ls hP hD hS hL)
  obtain ⟨z0, h1, rfl⟩ := List.mem_map.mp hz
  obtain ⟨h2, nm, h3, h4⟩ := hpass z0 h1
  exact Or.inr ⟨h2, nm, G.2.2.2.2.1 _ h3, h4⟩
end QI
